/-! Model.armsBy(IIII)I -/
abbrev b_Model_armsBy : ByteArray := prog_13_method_76_code
def y_Model_armsBy : MethodName := ⟨R_Model, "armsBy", "(IIII)I"⟩
theorem a_Model_armsBy : y_Model_armsBy.cls = R_Model ∧ y_Model_armsBy.cls ≠ "java/lang/invoke/MethodHandle" ∧ y_Model_armsBy.cls ≠ "java/lang/invoke/VarHandle" ∧ (parseMethodDescriptor y_Model_armsBy.desc).map (fun d => d.parameters.length) = some 4 := by decide +kernel
abbrev rm_Model_armsBy : Room := { frames := 2, cells := 0, slots := 0, locals := 45 }
theorem w_1407 : Cond.methodLink R_Model 301 y_Model_arm ∈ TB := tb_in 1407 (by decide +kernel) (by decide +kernel)
theorem w_1200 : Cond.instanceMethod y_Model_arm ∈ TB := tb_in 1200 (by decide +kernel) (by decide +kernel)
theorem w_1201 : Cond.selects R_Model y_Model_arm y_Model_arm ∈ TB := tb_in 1201 (by decide +kernel) (by decide +kernel)
theorem w_1406 : Cond.code y_Model_armsBy b_Model_armsBy 9 (some .int) ∈ TB := tb_in 1406 (by decide +kernel) (by decide +kernel)
theorem d_Model_armsBy_0 : decode b_Model_armsBy 0 = .ok (.iload_n 1, 1) := by decide +kernel
theorem d_Model_armsBy_1 : decode b_Model_armsBy 1 = .ok (.iconst 0, 1) := by decide +kernel
theorem d_Model_armsBy_2 : decode b_Model_armsBy 2 = .ok (.iconst 3, 1) := by decide +kernel
theorem d_Model_armsBy_3 : decode b_Model_armsBy 3 = .ok (.invokestatic 78, 3) := by decide +kernel
theorem d_Model_armsBy_6 : decode b_Model_armsBy 6 = .ok (.ifCond .eq 23, 3) := by decide +kernel
theorem d_Model_armsBy_9 : decode b_Model_armsBy 9 = .ok (.iload_n 2, 1) := by decide +kernel
theorem d_Model_armsBy_10 : decode b_Model_armsBy 10 = .ok (.iconst 0, 1) := by decide +kernel
theorem d_Model_armsBy_11 : decode b_Model_armsBy 11 = .ok (.iconst 2, 1) := by decide +kernel
theorem d_Model_armsBy_12 : decode b_Model_armsBy 12 = .ok (.invokestatic 78, 3) := by decide +kernel
theorem d_Model_armsBy_15 : decode b_Model_armsBy 15 = .ok (.ifCond .eq 14, 3) := by decide +kernel
theorem d_Model_armsBy_18 : decode b_Model_armsBy 18 = .ok (.iload 4, 2) := by decide +kernel
theorem d_Model_armsBy_20 : decode b_Model_armsBy 20 = .ok (.iconst 0, 1) := by decide +kernel
theorem d_Model_armsBy_21 : decode b_Model_armsBy 21 = .ok (.bipush 6, 2) := by decide +kernel
theorem d_Model_armsBy_23 : decode b_Model_armsBy 23 = .ok (.invokestatic 78, 3) := by decide +kernel
theorem d_Model_armsBy_26 : decode b_Model_armsBy 26 = .ok (.ifCond .ne 6, 3) := by decide +kernel
theorem d_Model_armsBy_29 : decode b_Model_armsBy 29 = .ok (.bipush (-2), 2) := by decide +kernel
theorem d_Model_armsBy_31 : decode b_Model_armsBy 31 = .ok (.ireturn, 1) := by decide +kernel
theorem d_Model_armsBy_32 : decode b_Model_armsBy 32 = .ok (.aload_n 0, 1) := by decide +kernel
theorem d_Model_armsBy_33 : decode b_Model_armsBy 33 = .ok (.getfield 40, 3) := by decide +kernel
theorem d_Model_armsBy_36 : decode b_Model_armsBy 36 = .ok (.iload_n 1, 1) := by decide +kernel
theorem d_Model_armsBy_37 : decode b_Model_armsBy 37 = .ok (.iaload, 1) := by decide +kernel
theorem d_Model_armsBy_38 : decode b_Model_armsBy 38 = .ok (.iconst (-1), 1) := by decide +kernel
theorem d_Model_armsBy_39 : decode b_Model_armsBy 39 = .ok (.if_icmp .ne 6, 3) := by decide +kernel
theorem d_Model_armsBy_42 : decode b_Model_armsBy 42 = .ok (.bipush (-11), 2) := by decide +kernel
theorem d_Model_armsBy_44 : decode b_Model_armsBy 44 = .ok (.ireturn, 1) := by decide +kernel
theorem d_Model_armsBy_45 : decode b_Model_armsBy 45 = .ok (.aload_n 0, 1) := by decide +kernel
theorem d_Model_armsBy_46 : decode b_Model_armsBy 46 = .ok (.getfield 40, 3) := by decide +kernel
theorem d_Model_armsBy_49 : decode b_Model_armsBy 49 = .ok (.iload_n 1, 1) := by decide +kernel
theorem d_Model_armsBy_50 : decode b_Model_armsBy 50 = .ok (.iaload, 1) := by decide +kernel
theorem d_Model_armsBy_51 : decode b_Model_armsBy 51 = .ok (.iload_n 2, 1) := by decide +kernel
theorem d_Model_armsBy_52 : decode b_Model_armsBy 52 = .ok (.if_icmp .eq 6, 3) := by decide +kernel
theorem d_Model_armsBy_55 : decode b_Model_armsBy 55 = .ok (.bipush (-13), 2) := by decide +kernel
theorem d_Model_armsBy_57 : decode b_Model_armsBy 57 = .ok (.ireturn, 1) := by decide +kernel
theorem d_Model_armsBy_58 : decode b_Model_armsBy 58 = .ok (.iconst 0, 1) := by decide +kernel
theorem d_Model_armsBy_59 : decode b_Model_armsBy 59 = .ok (.istore 5, 2) := by decide +kernel
theorem d_Model_armsBy_61 : decode b_Model_armsBy 61 = .ok (.iconst 0, 1) := by decide +kernel
theorem d_Model_armsBy_62 : decode b_Model_armsBy 62 = .ok (.istore 6, 2) := by decide +kernel
theorem d_Model_armsBy_64 : decode b_Model_armsBy 64 = .ok (.iload 6, 2) := by decide +kernel
theorem d_Model_armsBy_66 : decode b_Model_armsBy 66 = .ok (.iload 4, 2) := by decide +kernel
theorem d_Model_armsBy_68 : decode b_Model_armsBy 68 = .ok (.if_icmp .ge 94, 3) := by decide +kernel
theorem d_Model_armsBy_71 : decode b_Model_armsBy 71 = .ok (.iload_n 3, 1) := by decide +kernel
theorem d_Model_armsBy_72 : decode b_Model_armsBy 72 = .ok (.iconst 3, 1) := by decide +kernel
theorem d_Model_armsBy_73 : decode b_Model_armsBy 73 = .ok (.iload 6, 2) := by decide +kernel
theorem d_Model_armsBy_75 : decode b_Model_armsBy 75 = .ok (.imul, 1) := by decide +kernel
theorem d_Model_armsBy_76 : decode b_Model_armsBy 76 = .ok (.iadd, 1) := by decide +kernel
theorem d_Model_armsBy_77 : decode b_Model_armsBy 77 = .ok (.istore 7, 2) := by decide +kernel
theorem d_Model_armsBy_79 : decode b_Model_armsBy 79 = .ok (.iload_n 3, 1) := by decide +kernel
theorem d_Model_armsBy_80 : decode b_Model_armsBy 80 = .ok (.ifCond .lt 22, 3) := by decide +kernel
theorem d_Model_armsBy_83 : decode b_Model_armsBy 83 = .ok (.iload 7, 2) := by decide +kernel
theorem d_Model_armsBy_85 : decode b_Model_armsBy 85 = .ok (.iload_n 3, 1) := by decide +kernel
theorem d_Model_armsBy_86 : decode b_Model_armsBy 86 = .ok (.if_icmp .lt 16, 3) := by decide +kernel
theorem d_Model_armsBy_89 : decode b_Model_armsBy 89 = .ok (.iload 7, 2) := by decide +kernel
theorem d_Model_armsBy_91 : decode b_Model_armsBy 91 = .ok (.aload_n 0, 1) := by decide +kernel
theorem d_Model_armsBy_92 : decode b_Model_armsBy 92 = .ok (.getfield 43, 3) := by decide +kernel
theorem d_Model_armsBy_95 : decode b_Model_armsBy 95 = .ok (.iload_n 1, 1) := by decide +kernel
theorem d_Model_armsBy_96 : decode b_Model_armsBy 96 = .ok (.iaload, 1) := by decide +kernel
theorem d_Model_armsBy_97 : decode b_Model_armsBy 97 = .ok (.iconst 3, 1) := by decide +kernel
theorem d_Model_armsBy_98 : decode b_Model_armsBy 98 = .ok (.isub, 1) := by decide +kernel
theorem d_Model_armsBy_99 : decode b_Model_armsBy 99 = .ok (.if_icmp .le 6, 3) := by decide +kernel
theorem d_Model_armsBy_102 : decode b_Model_armsBy 102 = .ok (.bipush (-12), 2) := by decide +kernel
theorem d_Model_armsBy_104 : decode b_Model_armsBy 104 = .ok (.ireturn, 1) := by decide +kernel
theorem d_Model_armsBy_105 : decode b_Model_armsBy 105 = .ok (.bipush 40, 2) := by decide +kernel
theorem d_Model_armsBy_107 : decode b_Model_armsBy 107 = .ok (.iload_n 1, 1) := by decide +kernel
theorem d_Model_armsBy_108 : decode b_Model_armsBy 108 = .ok (.imul, 1) := by decide +kernel
theorem d_Model_armsBy_109 : decode b_Model_armsBy 109 = .ok (.iload 7, 2) := by decide +kernel
theorem d_Model_armsBy_111 : decode b_Model_armsBy 111 = .ok (.iadd, 1) := by decide +kernel
theorem d_Model_armsBy_112 : decode b_Model_armsBy 112 = .ok (.istore 8, 2) := by decide +kernel
theorem d_Model_armsBy_114 : decode b_Model_armsBy 114 = .ok (.iload 5, 2) := by decide +kernel
theorem d_Model_armsBy_116 : decode b_Model_armsBy 116 = .ok (.aload_n 0, 1) := by decide +kernel
theorem d_Model_armsBy_117 : decode b_Model_armsBy 117 = .ok (.aload_n 0, 1) := by decide +kernel
theorem d_Model_armsBy_118 : decode b_Model_armsBy 118 = .ok (.getfield 46, 3) := by decide +kernel
theorem d_Model_armsBy_121 : decode b_Model_armsBy 121 = .ok (.iload 8, 2) := by decide +kernel
theorem d_Model_armsBy_123 : decode b_Model_armsBy 123 = .ok (.iaload, 1) := by decide +kernel
theorem d_Model_armsBy_124 : decode b_Model_armsBy 124 = .ok (.aload_n 0, 1) := by decide +kernel
theorem d_Model_armsBy_125 : decode b_Model_armsBy 125 = .ok (.getfield 46, 3) := by decide +kernel
theorem d_Model_armsBy_128 : decode b_Model_armsBy 128 = .ok (.iload 8, 2) := by decide +kernel
theorem d_Model_armsBy_130 : decode b_Model_armsBy 130 = .ok (.iconst 1, 1) := by decide +kernel
theorem d_Model_armsBy_131 : decode b_Model_armsBy 131 = .ok (.iadd, 1) := by decide +kernel
theorem d_Model_armsBy_132 : decode b_Model_armsBy 132 = .ok (.iaload, 1) := by decide +kernel
theorem d_Model_armsBy_133 : decode b_Model_armsBy 133 = .ok (.aload_n 0, 1) := by decide +kernel
theorem d_Model_armsBy_134 : decode b_Model_armsBy 134 = .ok (.getfield 46, 3) := by decide +kernel
theorem d_Model_armsBy_137 : decode b_Model_armsBy 137 = .ok (.iload 8, 2) := by decide +kernel
theorem d_Model_armsBy_139 : decode b_Model_armsBy 139 = .ok (.iconst 2, 1) := by decide +kernel
theorem d_Model_armsBy_140 : decode b_Model_armsBy 140 = .ok (.iadd, 1) := by decide +kernel
theorem d_Model_armsBy_141 : decode b_Model_armsBy 141 = .ok (.iaload, 1) := by decide +kernel
theorem d_Model_armsBy_142 : decode b_Model_armsBy 142 = .ok (.invokevirtual 301, 3) := by decide +kernel
theorem d_Model_armsBy_145 : decode b_Model_armsBy 145 = .ok (.ifCond .lt 7, 3) := by decide +kernel
theorem d_Model_armsBy_148 : decode b_Model_armsBy 148 = .ok (.iconst 1, 1) := by decide +kernel
theorem d_Model_armsBy_149 : decode b_Model_armsBy 149 = .ok (.goto 4, 3) := by decide +kernel
theorem d_Model_armsBy_152 : decode b_Model_armsBy 152 = .ok (.iconst 0, 1) := by decide +kernel
theorem d_Model_armsBy_153 : decode b_Model_armsBy 153 = .ok (.iadd, 1) := by decide +kernel
theorem d_Model_armsBy_154 : decode b_Model_armsBy 154 = .ok (.istore 5, 2) := by decide +kernel
theorem d_Model_armsBy_156 : decode b_Model_armsBy 156 = .ok (.iinc 6 1, 3) := by decide +kernel
theorem d_Model_armsBy_159 : decode b_Model_armsBy 159 = .ok (.goto (-95), 3) := by decide +kernel
theorem d_Model_armsBy_162 : decode b_Model_armsBy 162 = .ok (.iload 5, 2) := by decide +kernel
theorem d_Model_armsBy_164 : decode b_Model_armsBy 164 = .ok (.ireturn, 1) := by decide +kernel
section S_Model_armsBy
variable {p : Program} {l : Launch} {e : Env} {s : State} {m : MethodId} {args : Array Value} {below : List Frame} {meth : Method} {c : Code} {D : va_G} {cA : Nat → ClassId} {ad : Nat → Nat} {nC : Nat} {A : Nat → Prop} {r : Int32} {τ : St}
noncomputable def F_Model_armsBy_153 (k37 : (St → Int32 → Int32 → Int32 → Int32 → Int32 → Option (Int32 × St))) (s0 : St) (v1 : Int32) (v3 : Int32) (v4 : Int32) (v6 : Int32) (t0 : Int32) (t1 : Int32) : Option (Int32 × St) := (k37 s0 v1 v3 v4 (t0 + t1) (v6 + 1))
set_option maxHeartbeats 4000000 in
set_option maxRecDepth 100000 in
theorem q_Model_armsBy_153 (K : Fx p s m args meth c b_Model_armsBy 9 R_Model (some .int)) (k37 : (St → Int32 → Int32 → Int32 → Int32 → Int32 → Option (Int32 × St))) (hk37 : ∀ (H : Heap) (locs : List Loc) (ls : Array Slot) (s0 : St) (v1 : Int32) (v3 : Int32) (v4 : Int32) (v5 : Int32) (v6 : Int32), Wh D cA ad shM A s s0 H locs → lv_has ls 9 [(0, .ref (ad 0)), (1, .int v1), (3, .int v3), (4, .int v4), (5, .int v5), (6, .int v6)] → k37 s0 v1 v3 v4 v5 v6 = (some (r, τ)) → W p l e rm_Model_armsBy s m args below meth c H locs 0 0 (MQ below (QcI D cA ad shM A r τ) args s 0 0 A) (F0 m 64 ls [])) : ∀ (H : Heap) (locs : List Loc) (ls : Array Slot) (s0 : St) (v1 : Int32) (v3 : Int32) (v4 : Int32) (v6 : Int32) (t0 : Int32) (t1 : Int32), Wh D cA ad shM A s s0 H locs → lv_has ls 9 [(0, .ref (ad 0)), (1, .int v1), (3, .int v3), (4, .int v4), (6, .int v6)] → F_Model_armsBy_153 k37 s0 v1 v3 v4 v6 t0 t1 = (some (r, τ)) → W p l e rm_Model_armsBy s m args below meth c H locs 0 0 (MQ below (QcI D cA ad shM A r τ) args s 0 0 A) (F0 m 153 ls [.int t1, .int t0]) := by
  have hx := K.1.1; have hb := K.1.2.1
  intro H locs ls s0 v1 v3 v4 v6 t0 t1 hw hl hF
  unfold F_Model_armsBy_153 at hF
  refine lv_iadd hx hb d_Model_armsBy_153 ?_
  refine lv_istore (lv' := [(5, .int (t0 + t1)), (0, .ref (ad 0)), (1, .int v1), (3, .int v3), (4, .int v4), (6, .int v6)]) hx hb d_Model_armsBy_154 hl (by decide) rfl (fun ls hl => ?_)
  refine lv_iinc (v := (v6 + 1)) (lv' := [(6, .int (v6 + 1)), (5, .int (t0 + t1)), (0, .ref (ad 0)), (1, .int v1), (3, .int v3), (4, .int v4)]) hx hb d_Model_armsBy_156 hl (k := 5) rfl rfl (by decide) rfl (fun ls hl => ?_)
  refine lv_goto (tgt := 64) hx hb d_Model_armsBy_159 (by decide) ?_
  exact hk37 _ _ _ _ _ _ _ _ _  hw (lv_sub hl [2, 3, 4, 5, 1, 0] rfl) hF
noncomputable def F_Model_armsBy_64 : Nat → St → Int32 → Int32 → Int32 → Int32 → Int32 → Option (Int32 × St)
  | 0, _, _, _, _, _, _ => none
  | n + 1, s0, v1, v3, v4, v5, v6 => (if v4 ≤ v6 then (some (v5, s0)) else (if v3 < 0 then (some ((-12 : Int32), s0)) else (if (v3 + ((3 : Int32) * v6)) < v3 then (some ((-12 : Int32), s0)) else (if inB v1 4 = true then (if (v3 + ((3 : Int32) * v6)) ≤ ((s0.1 12 v1.toNatClampNeg) - (3 : Int32)) then (lt ((((40 : Int32) * v1) + (v3 + ((3 : Int32) * v6)))) (fun w_13 => (if inB w_13 160 = true then (if inB (w_13 + (1 : Int32)) 160 = true then (if inB (w_13 + (2 : Int32)) 160 = true then (ob2 (F_Model_arm s0 (s0.1 13 w_13.toNatClampNeg) (s0.1 13 (w_13 + (1 : Int32)).toNatClampNeg) (s0.1 13 (w_13 + (2 : Int32)).toNatClampNeg)) (fun r_17 s_18 => (if r_17 < 0 then (F_Model_armsBy_153 (fun z0 zv1 zv3 zv4 zv5 zv6 => F_Model_armsBy_64 n z0 zv1 zv3 zv4 zv5 zv6) s_18 v1 v3 v4 v6 v5 (0 : Int32)) else (F_Model_armsBy_153 (fun z0 zv1 zv3 zv4 zv5 zv6 => F_Model_armsBy_64 n z0 zv1 zv3 zv4 zv5 zv6) s_18 v1 v3 v4 v6 v5 (1 : Int32))))) else none) else none) else none))) else (some ((-12 : Int32), s0))) else none))))
set_option maxHeartbeats 4000000 in
set_option maxRecDepth 100000 in
theorem q_Model_armsBy_64 (K : Fx p s m args meth c b_Model_armsBy 9 R_Model (some .int))  : ∀ (n : Nat), ∀ (H : Heap) (locs : List Loc) (ls : Array Slot) (s0 : St) (v1 : Int32) (v3 : Int32) (v4 : Int32) (v5 : Int32) (v6 : Int32), Wh D cA ad shM A s s0 H locs → lv_has ls 9 [(0, .ref (ad 0)), (1, .int v1), (3, .int v3), (4, .int v4), (5, .int v5), (6, .int v6)] → F_Model_armsBy_64 n s0 v1 v3 v4 v5 v6 = (some (r, τ)) → W p l e rm_Model_armsBy s m args below meth c H locs 0 0 (MQ below (QcI D cA ad shM A r τ) args s 0 0 A) (F0 m 64 ls []) := by
  have hx := K.1.1; have hb := K.1.2.1
  intro n
  induction n with
  | zero =>
    intro H locs ls s0 v1 v3 v4 v5 v6 hw hl hF
    exact absurd hF (by rw [F_Model_armsBy_64]; exact nofun)
  | succ n ih =>
    intro H locs ls s0 v1 v3 v4 v5 v6 hw hl hF
    rw [F_Model_armsBy_64] at hF
    refine lv_iload hx hb d_Model_armsBy_64 (lv_at hl 5 rfl) ?_
    refine lv_iload hx hb d_Model_armsBy_66 (lv_at hl 3 rfl) ?_
    refine lv_icmp_ge (tgt := 162) hx hb d_Model_armsBy_68 (by decide) (fun c_8 => ?_) (fun c_8 => ?_)
    · replace hF := ifT hF c_8
      refine lv_iload hx hb d_Model_armsBy_162 (lv_at hl 4 rfl) ?_
      obtain ⟨hF, hG⟩ := sE2 hF
      subst hF
      subst hG
      exact r_iret K hw d_Model_armsBy_164
    · replace hF := ifF hF c_8
      refine lv_iload_n hx hb d_Model_armsBy_71 rfl (lv_at hl 2 rfl) ?_
      refine lv_iconst (v := 3) hx hb d_Model_armsBy_72 (by decide) ?_
      refine lv_iload hx hb d_Model_armsBy_73 (lv_at hl 5 rfl) ?_
      refine lv_imul hx hb d_Model_armsBy_75 ?_
      refine lv_iadd hx hb d_Model_armsBy_76 ?_
      refine lv_istore (lv' := [(7, .int (v3 + ((3 : Int32) * v6))), (0, .ref (ad 0)), (1, .int v1), (3, .int v3), (4, .int v4), (5, .int v5), (6, .int v6)]) hx hb d_Model_armsBy_77 hl (by decide) rfl (fun ls hl => ?_)
      refine lv_iload_n hx hb d_Model_armsBy_79 rfl (lv_at hl 3 rfl) ?_
      refine lv_if_lt (tgt := 102) hx hb d_Model_armsBy_80 (by decide) (fun c_9 => ?_) (fun c_9 => ?_)
      · replace hF := ifT hF c_9
        refine lv_bipush (v := -12) hx hb d_Model_armsBy_102 (by decide) ?_
        obtain ⟨hF, hG⟩ := sE2 hF
        subst hF
        subst hG
        exact r_iret K hw d_Model_armsBy_104
      · replace hF := ifF hF c_9
        refine lv_iload hx hb d_Model_armsBy_83 (lv_at hl 0 rfl) ?_
        refine lv_iload_n hx hb d_Model_armsBy_85 rfl (lv_at hl 3 rfl) ?_
        refine lv_icmp_lt (tgt := 102) hx hb d_Model_armsBy_86 (by decide) (fun c_10 => ?_) (fun c_10 => ?_)
        · replace hF := ifT hF c_10
          refine lv_bipush (v := -12) hx hb d_Model_armsBy_102 (by decide) ?_
          obtain ⟨hF, hG⟩ := sE2 hF
          subst hF
          subst hG
          exact r_iret K hw d_Model_armsBy_104
        · replace hF := ifF hF c_10
          refine lv_iload hx hb d_Model_armsBy_89 (lv_at hl 0 rfl) ?_
          refine lv_aload_n hx hb d_Model_armsBy_91 rfl (lv_at hl 1 rfl) ?_
          refine r_get (v := .ref (ad 12)) K hw i_Model sh_Model rfl 18 (by decide) w_1043 rfl rfl rfl d_Model_armsBy_92 ?_
          refine lv_iload_n hx hb d_Model_armsBy_95 rfl (lv_at hl 2 rfl) ?_
          obtain ⟨g_11, hF⟩ := ifG hF
          refine r_iald (k := v1.toNatClampNeg) K hw (show shM[12]? = some (.inr (.inl 4)) from rfl) rfl (inB_vp g_11) d_Model_armsBy_96 ?_
          refine lv_iconst (v := 3) hx hb d_Model_armsBy_97 (by decide) ?_
          refine lv_isub hx hb d_Model_armsBy_98 ?_
          refine lv_icmp_le (tgt := 105) hx hb d_Model_armsBy_99 (by decide) (fun c_12 => ?_) (fun c_12 => ?_)
          · replace hF := ifT hF c_12
            refine lv_bipush (v := 40) hx hb d_Model_armsBy_105 (by decide) ?_
            refine lv_iload_n hx hb d_Model_armsBy_107 rfl (lv_at hl 2 rfl) ?_
            refine lv_imul hx hb d_Model_armsBy_108 ?_
            refine lv_iload hx hb d_Model_armsBy_109 (lv_at hl 0 rfl) ?_
            refine lv_iadd hx hb d_Model_armsBy_111 ?_
            refine lv_topi (fun w_13 f_w_13 => ?_)
            replace hF := ltN hF f_w_13
            refine lv_istore (lv' := [(8, .int w_13), (7, .int (v3 + ((3 : Int32) * v6))), (0, .ref (ad 0)), (1, .int v1), (3, .int v3), (4, .int v4), (5, .int v5), (6, .int v6)]) hx hb d_Model_armsBy_112 hl (by decide) rfl (fun ls hl => ?_)
            refine lv_iload hx hb d_Model_armsBy_114 (lv_at hl 6 rfl) ?_
            refine lv_aload_n hx hb d_Model_armsBy_116 rfl (lv_at hl 2 rfl) ?_
            refine lv_aload_n hx hb d_Model_armsBy_117 rfl (lv_at hl 2 rfl) ?_
            refine r_get (v := .ref (ad 13)) K hw i_Model sh_Model rfl 19 (by decide) w_1044 rfl rfl rfl d_Model_armsBy_118 ?_
            refine lv_iload hx hb d_Model_armsBy_121 (lv_at hl 0 rfl) ?_
            obtain ⟨g_14, hF⟩ := ifG hF
            refine r_iald (k := w_13.toNatClampNeg) K hw (show shM[13]? = some (.inr (.inl 160)) from rfl) rfl (inB_vp g_14) d_Model_armsBy_123 ?_
            refine lv_aload_n hx hb d_Model_armsBy_124 rfl (lv_at hl 2 rfl) ?_
            refine r_get (v := .ref (ad 13)) K hw i_Model sh_Model rfl 19 (by decide) w_1044 rfl rfl rfl d_Model_armsBy_125 ?_
            refine lv_iload hx hb d_Model_armsBy_128 (lv_at hl 0 rfl) ?_
            refine lv_iconst (v := 1) hx hb d_Model_armsBy_130 (by decide) ?_
            refine lv_iadd hx hb d_Model_armsBy_131 ?_
            obtain ⟨g_15, hF⟩ := ifG hF
            refine r_iald (k := (w_13 + (1 : Int32)).toNatClampNeg) K hw (show shM[13]? = some (.inr (.inl 160)) from rfl) rfl (inB_vp g_15) d_Model_armsBy_132 ?_
            refine lv_aload_n hx hb d_Model_armsBy_133 rfl (lv_at hl 2 rfl) ?_
            refine r_get (v := .ref (ad 13)) K hw i_Model sh_Model rfl 19 (by decide) w_1044 rfl rfl rfl d_Model_armsBy_134 ?_
            refine lv_iload hx hb d_Model_armsBy_137 (lv_at hl 0 rfl) ?_
            refine lv_iconst (v := 2) hx hb d_Model_armsBy_139 (by decide) ?_
            refine lv_iadd hx hb d_Model_armsBy_140 ?_
            obtain ⟨g_16, hF⟩ := ifG hF
            refine r_iald (k := (w_13 + (2 : Int32)).toNatClampNeg) K hw (show shM[13]? = some (.inr (.inl 160)) from rfl) rfl (inB_vp g_16) d_Model_armsBy_141 ?_
            obtain ⟨r_17, s_18, h_s_18, hF⟩ := ob2E hF
            refine r_callVI (As := [.int (s0.1 13 w_13.toNatClampNeg), .int (s0.1 13 (w_13 + (1 : Int32)).toNatClampNeg), .int (s0.1 13 (w_13 + (2 : Int32)).toNatClampNeg)]) (rest := [.int v5]) K hw hl.1 (c_Model_arm (l := l) (D := D) (cA := cA) (ad := ad) (s0 := s0)   h_s_18) sh_Model rfl (tb_gV w_1407 w_1200 w_1201 w_80 w_1202) a_Model_arm ⟨rfl, rfl, Nat.le_of_ble_eq_true rfl, Nat.le_of_ble_eq_true rfl⟩ rfl rfl (Nat.le_of_ble_eq_true rfl) d_Model_armsBy_142 (fun H locs hw => ?_)
            refine lv_if_lt (tgt := 152) hx hb d_Model_armsBy_145 (by decide) (fun c_19 => ?_) (fun c_19 => ?_)
            · replace hF := ifT hF c_19
              refine lv_iconst (v := 0) hx hb d_Model_armsBy_152 (by decide) ?_
              exact q_Model_armsBy_153 K (fun z0 zv1 zv3 zv4 zv5 zv6 => F_Model_armsBy_64 n z0 zv1 zv3 zv4 zv5 zv6) ih _ _ _ _ _ _ _ _ _ _  hw (lv_sub hl [2, 3, 4, 5, 7] rfl) hF
            · replace hF := ifF hF c_19
              refine lv_iconst (v := 1) hx hb d_Model_armsBy_148 (by decide) ?_
              refine lv_goto (tgt := 153) hx hb d_Model_armsBy_149 (by decide) ?_
              exact q_Model_armsBy_153 K (fun z0 zv1 zv3 zv4 zv5 zv6 => F_Model_armsBy_64 n z0 zv1 zv3 zv4 zv5 zv6) ih _ _ _ _ _ _ _ _ _ _  hw (lv_sub hl [2, 3, 4, 5, 7] rfl) hF
          · replace hF := ifF hF c_12
            refine lv_bipush (v := -12) hx hb d_Model_armsBy_102 (by decide) ?_
            obtain ⟨hF, hG⟩ := sE2 hF
            subst hF
            subst hG
            exact r_iret K hw d_Model_armsBy_104
noncomputable def F_Model_armsBy_0 (s0 : St) (v1 : Int32) (v2 : Int32) (v3 : Int32) (v4 : Int32) : Option (Int32 × St) := (if (F_Model_in v1 (0 : Int32) (3 : Int32)) = 0 then (some ((-2 : Int32), s0)) else (if (F_Model_in v2 (0 : Int32) (2 : Int32)) = 0 then (some ((-2 : Int32), s0)) else (if ¬ (F_Model_in v4 (0 : Int32) (6 : Int32)) = 0 then (if inB v1 4 = true then (if ¬ (s0.1 11 v1.toNatClampNeg) = (-1 : Int32) then (if inB v1 4 = true then (if (s0.1 11 v1.toNatClampNeg) = v2 then (F_Model_armsBy_64 FU s0 v1 v3 v4 (0 : Int32) (0 : Int32)) else (some ((-13 : Int32), s0))) else none) else (some ((-11 : Int32), s0))) else none) else (some ((-2 : Int32), s0)))))
set_option maxHeartbeats 4000000 in
set_option maxRecDepth 100000 in
theorem q_Model_armsBy_0 (K : Fx p s m args meth c b_Model_armsBy 9 R_Model (some .int))  : ∀ (H : Heap) (locs : List Loc) (ls : Array Slot) (s0 : St) (v1 : Int32) (v2 : Int32) (v3 : Int32) (v4 : Int32), Wh D cA ad shM A s s0 H locs → lv_has ls 9 [(0, .ref (ad 0)), (1, .int v1), (2, .int v2), (3, .int v3), (4, .int v4)] → F_Model_armsBy_0 s0 v1 v2 v3 v4 = (some (r, τ)) → W p l e rm_Model_armsBy s m args below meth c H locs 0 0 (MQ below (QcI D cA ad shM A r τ) args s 0 0 A) (F0 m 0 ls []) := by
  have hx := K.1.1; have hb := K.1.2.1
  intro H locs ls s0 v1 v2 v3 v4 hw hl hF
  unfold F_Model_armsBy_0 at hF
  refine lv_iload_n hx hb d_Model_armsBy_0 rfl (lv_at hl 1 rfl) ?_
  refine lv_iconst (v := 0) hx hb d_Model_armsBy_1 (by decide) ?_
  refine lv_iconst (v := 3) hx hb d_Model_armsBy_2 (by decide) ?_
  refine r_callSI (As := [.int v1, .int (0 : Int32), .int (3 : Int32)]) (rest := []) K hw hl.1 (c_Model_in (l := l) (D := D) (cA := cA) (ad := ad) (s0 := s0)   rfl) (tb_gS w_986 w_987 w_80 w_988) a_Model_in ⟨rfl, rfl, Nat.le_of_ble_eq_true rfl, Nat.le_of_ble_eq_true rfl⟩ rfl rfl (Nat.le_of_ble_eq_true rfl) d_Model_armsBy_3 (fun H locs hw => ?_)
  refine lv_if_eq (tgt := 29) hx hb d_Model_armsBy_6 (by decide) (fun c_1 => ?_) (fun c_1 => ?_)
  · replace hF := ifT hF c_1
    refine lv_bipush (v := -2) hx hb d_Model_armsBy_29 (by decide) ?_
    obtain ⟨hF, hG⟩ := sE2 hF
    subst hF
    subst hG
    exact r_iret K hw d_Model_armsBy_31
  · replace hF := ifF hF c_1
    refine lv_iload_n hx hb d_Model_armsBy_9 rfl (lv_at hl 2 rfl) ?_
    refine lv_iconst (v := 0) hx hb d_Model_armsBy_10 (by decide) ?_
    refine lv_iconst (v := 2) hx hb d_Model_armsBy_11 (by decide) ?_
    refine r_callSI (As := [.int v2, .int (0 : Int32), .int (2 : Int32)]) (rest := []) K hw hl.1 (c_Model_in (l := l) (D := D) (cA := cA) (ad := ad) (s0 := s0)   rfl) (tb_gS w_986 w_987 w_80 w_988) a_Model_in ⟨rfl, rfl, Nat.le_of_ble_eq_true rfl, Nat.le_of_ble_eq_true rfl⟩ rfl rfl (Nat.le_of_ble_eq_true rfl) d_Model_armsBy_12 (fun H locs hw => ?_)
    refine lv_if_eq (tgt := 29) hx hb d_Model_armsBy_15 (by decide) (fun c_2 => ?_) (fun c_2 => ?_)
    · replace hF := ifT hF c_2
      refine lv_bipush (v := -2) hx hb d_Model_armsBy_29 (by decide) ?_
      obtain ⟨hF, hG⟩ := sE2 hF
      subst hF
      subst hG
      exact r_iret K hw d_Model_armsBy_31
    · replace hF := ifF hF c_2
      refine lv_iload hx hb d_Model_armsBy_18 (lv_at hl 4 rfl) ?_
      refine lv_iconst (v := 0) hx hb d_Model_armsBy_20 (by decide) ?_
      refine lv_bipush (v := 6) hx hb d_Model_armsBy_21 (by decide) ?_
      refine r_callSI (As := [.int v4, .int (0 : Int32), .int (6 : Int32)]) (rest := []) K hw hl.1 (c_Model_in (l := l) (D := D) (cA := cA) (ad := ad) (s0 := s0)   rfl) (tb_gS w_986 w_987 w_80 w_988) a_Model_in ⟨rfl, rfl, Nat.le_of_ble_eq_true rfl, Nat.le_of_ble_eq_true rfl⟩ rfl rfl (Nat.le_of_ble_eq_true rfl) d_Model_armsBy_23 (fun H locs hw => ?_)
      refine lv_if_ne (tgt := 32) hx hb d_Model_armsBy_26 (by decide) (fun c_3 => ?_) (fun c_3 => ?_)
      · replace hF := ifT hF c_3
        refine lv_aload_n hx hb d_Model_armsBy_32 rfl (lv_at hl 0 rfl) ?_
        refine r_get (v := .ref (ad 11)) K hw i_Model sh_Model rfl 17 (by decide) w_1042 rfl rfl rfl d_Model_armsBy_33 ?_
        refine lv_iload_n hx hb d_Model_armsBy_36 rfl (lv_at hl 1 rfl) ?_
        obtain ⟨g_4, hF⟩ := ifG hF
        refine r_iald (k := v1.toNatClampNeg) K hw (show shM[11]? = some (.inr (.inl 4)) from rfl) rfl (inB_vp g_4) d_Model_armsBy_37 ?_
        refine lv_iconst (v := -1) hx hb d_Model_armsBy_38 (by decide) ?_
        refine lv_icmp_ne (tgt := 45) hx hb d_Model_armsBy_39 (by decide) (fun c_5 => ?_) (fun c_5 => ?_)
        · replace hF := ifT hF c_5
          refine lv_aload_n hx hb d_Model_armsBy_45 rfl (lv_at hl 0 rfl) ?_
          refine r_get (v := .ref (ad 11)) K hw i_Model sh_Model rfl 17 (by decide) w_1042 rfl rfl rfl d_Model_armsBy_46 ?_
          refine lv_iload_n hx hb d_Model_armsBy_49 rfl (lv_at hl 1 rfl) ?_
          obtain ⟨g_6, hF⟩ := ifG hF
          refine r_iald (k := v1.toNatClampNeg) K hw (show shM[11]? = some (.inr (.inl 4)) from rfl) rfl (inB_vp g_6) d_Model_armsBy_50 ?_
          refine lv_iload_n hx hb d_Model_armsBy_51 rfl (lv_at hl 2 rfl) ?_
          refine lv_icmp_eq (tgt := 58) hx hb d_Model_armsBy_52 (by decide) (fun c_7 => ?_) (fun c_7 => ?_)
          · replace hF := ifT hF c_7
            refine lv_iconst (v := 0) hx hb d_Model_armsBy_58 (by decide) ?_
            refine lv_istore (lv' := [(5, .int (0 : Int32)), (0, .ref (ad 0)), (1, .int v1), (2, .int v2), (3, .int v3), (4, .int v4)]) hx hb d_Model_armsBy_59 hl (by decide) rfl (fun ls hl => ?_)
            refine lv_iconst (v := 0) hx hb d_Model_armsBy_61 (by decide) ?_
            refine lv_istore (lv' := [(6, .int (0 : Int32)), (5, .int (0 : Int32)), (0, .ref (ad 0)), (1, .int v1), (2, .int v2), (3, .int v3), (4, .int v4)]) hx hb d_Model_armsBy_62 hl (by decide) rfl (fun ls hl => ?_)
            exact q_Model_armsBy_64 K FU _ _ _ _ _ _ _ _ _  hw (lv_sub hl [2, 3, 5, 6, 1, 0] rfl) hF
          · replace hF := ifF hF c_7
            refine lv_bipush (v := -13) hx hb d_Model_armsBy_55 (by decide) ?_
            obtain ⟨hF, hG⟩ := sE2 hF
            subst hF
            subst hG
            exact r_iret K hw d_Model_armsBy_57
        · replace hF := ifN hF c_5
          refine lv_bipush (v := -11) hx hb d_Model_armsBy_42 (by decide) ?_
          obtain ⟨hF, hG⟩ := sE2 hF
          subst hF
          subst hG
          exact r_iret K hw d_Model_armsBy_44
      · replace hF := ifN hF c_3
        refine lv_bipush (v := -2) hx hb d_Model_armsBy_29 (by decide) ?_
        obtain ⟨hF, hG⟩ := sE2 hF
        subst hF
        subst hG
        exact r_iret K hw d_Model_armsBy_31
end S_Model_armsBy
noncomputable abbrev F_Model_armsBy := F_Model_armsBy_0
theorem c_Model_armsBy {l : Launch} {D : va_G} {cA : Nat → ClassId} {ad : Nat → Nat} {s0 τ : St} {r : Int32} {v1 : Int32} {v2 : Int32} {v3 : Int32} {v4 : Int32}  (hF : F_Model_armsBy s0 v1 v2 v3 v4 = (some (r, τ))) : MI l D cA ad shM y_Model_armsBy (wT y_Model_armsBy b_Model_armsBy 9 (some .int)) rm_Model_armsBy [.ref (ad 0), .int v1, .int v2, .int v3, .int v4] s0 r τ := fun sz => m_start (Qc := fun A => QcI D cA ad shM A r τ) (by decide +kernel) w_1406 (Nat.le_of_ble_eq_true rfl) (fun p e s m below meth c ls K hl hw => q_Model_armsBy_0 K _ _ _ _ _ _ _ _  hw hl hF)

/-! Model.isUnder(II)Z -/
abbrev b_Model_isUnder : ByteArray := prog_13_method_77_code
def y_Model_isUnder : MethodName := ⟨R_Model, "isUnde\x72", "(II)Z"⟩
theorem a_Model_isUnder : y_Model_isUnder.cls = R_Model ∧ y_Model_isUnder.cls ≠ "java/lang/invoke/MethodHandle" ∧ y_Model_isUnder.cls ≠ "java/lang/invoke/VarHandle" ∧ (parseMethodDescriptor y_Model_isUnder.desc).map (fun d => d.parameters.length) = some 2 := by decide +kernel
abbrev rm_Model_isUnder : Room := { frames := 0, cells := 0, slots := 0, locals := 0 }
theorem w_1414 : Cond.code y_Model_isUnder b_Model_isUnder 2 (some .boolean) ∈ TB := tb_in 1414 (by decide +kernel) (by decide +kernel)
theorem d_Model_isUnder_0 : decode b_Model_isUnder 0 = .ok (.iload_n 1, 1) := by decide +kernel
theorem d_Model_isUnder_1 : decode b_Model_isUnder 1 = .ok (.ifCond .eq 28, 3) := by decide +kernel
theorem d_Model_isUnder_4 : decode b_Model_isUnder 4 = .ok (.iload_n 0, 1) := by decide +kernel
theorem d_Model_isUnder_5 : decode b_Model_isUnder 5 = .ok (.iload_n 1, 1) := by decide +kernel
theorem d_Model_isUnder_6 : decode b_Model_isUnder 6 = .ok (.if_icmp .eq 23, 3) := by decide +kernel
theorem d_Model_isUnder_9 : decode b_Model_isUnder 9 = .ok (.iload_n 1, 1) := by decide +kernel
theorem d_Model_isUnder_10 : decode b_Model_isUnder 10 = .ok (.iconst 1, 1) := by decide +kernel
theorem d_Model_isUnder_11 : decode b_Model_isUnder 11 = .ok (.if_icmp .ne 8, 3) := by decide +kernel
theorem d_Model_isUnder_14 : decode b_Model_isUnder 14 = .ok (.iload_n 0, 1) := by decide +kernel
theorem d_Model_isUnder_15 : decode b_Model_isUnder 15 = .ok (.iconst 3, 1) := by decide +kernel
theorem d_Model_isUnder_16 : decode b_Model_isUnder 16 = .ok (.if_icmp .eq 13, 3) := by decide +kernel
theorem d_Model_isUnder_19 : decode b_Model_isUnder 19 = .ok (.iload_n 1, 1) := by decide +kernel
theorem d_Model_isUnder_20 : decode b_Model_isUnder 20 = .ok (.iconst 2, 1) := by decide +kernel
theorem d_Model_isUnder_21 : decode b_Model_isUnder 21 = .ok (.if_icmp .ne 12, 3) := by decide +kernel
theorem d_Model_isUnder_24 : decode b_Model_isUnder 24 = .ok (.iload_n 0, 1) := by decide +kernel
theorem d_Model_isUnder_25 : decode b_Model_isUnder 25 = .ok (.iconst 4, 1) := by decide +kernel
theorem d_Model_isUnder_26 : decode b_Model_isUnder 26 = .ok (.if_icmp .ne 7, 3) := by decide +kernel
theorem d_Model_isUnder_29 : decode b_Model_isUnder 29 = .ok (.iconst 1, 1) := by decide +kernel
theorem d_Model_isUnder_30 : decode b_Model_isUnder 30 = .ok (.goto 4, 3) := by decide +kernel
theorem d_Model_isUnder_33 : decode b_Model_isUnder 33 = .ok (.iconst 0, 1) := by decide +kernel
theorem d_Model_isUnder_34 : decode b_Model_isUnder 34 = .ok (.ireturn, 1) := by decide +kernel
section S_Model_isUnder
variable {p : Program} {l : Launch} {e : Env} {s : State} {m : MethodId} {args : Array Value} {below : List Frame} {meth : Method} {c : Code} {D : va_G} {cA : Nat → ClassId} {ad : Nat → Nat} {nC : Nat} {A : Nat → Prop} {r : Int32} {τ : St}
noncomputable def F_Model_isUnder_19 (v0 : Int32) (v1 : Int32) : Int32 := (if ¬ v1 = (2 : Int32) then (0 : Int32) else (if ¬ v0 = (4 : Int32) then (0 : Int32) else (1 : Int32)))
set_option maxHeartbeats 4000000 in
set_option maxRecDepth 100000 in
theorem q_Model_isUnder_19 (s0 : St) (K : Fx p s m args meth c b_Model_isUnder 2 R_Model (some .boolean))  : ∀ (H : Heap) (locs : List Loc) (ls : Array Slot) (v0 : Int32) (v1 : Int32), Wh D cA ad shM A s s0 H locs → lv_has ls 2 [(0, .int v0), (1, .int v1)] → F_Model_isUnder_19 v0 v1 = r → W p l e rm_Model_isUnder s m args below meth c H locs 0 0 (MQ below (QcI D cA ad shM A r s0) args s 0 0 A) (F0 m 19 ls []) := by
  have hx := K.1.1; have hb := K.1.2.1
  intro H locs ls v0 v1 hw hl hF
  unfold F_Model_isUnder_19 at hF
  refine lv_iload_n hx hb d_Model_isUnder_19 rfl (lv_at hl 1 rfl) ?_
  refine lv_iconst (v := 2) hx hb d_Model_isUnder_20 (by decide) ?_
  refine lv_icmp_ne (tgt := 33) hx hb d_Model_isUnder_21 (by decide) (fun c_4 => ?_) (fun c_4 => ?_)
  · replace hF := ifT hF c_4
    refine lv_iconst (v := 0) hx hb d_Model_isUnder_33 (by decide) ?_
    subst hF
    exact r_zret K hw (by decide) d_Model_isUnder_34
  · replace hF := ifN hF c_4
    refine lv_iload_n hx hb d_Model_isUnder_24 rfl (lv_at hl 0 rfl) ?_
    refine lv_iconst (v := 4) hx hb d_Model_isUnder_25 (by decide) ?_
    refine lv_icmp_ne (tgt := 33) hx hb d_Model_isUnder_26 (by decide) (fun c_5 => ?_) (fun c_5 => ?_)
    · replace hF := ifT hF c_5
      refine lv_iconst (v := 0) hx hb d_Model_isUnder_33 (by decide) ?_
      subst hF
      exact r_zret K hw (by decide) d_Model_isUnder_34
    · replace hF := ifN hF c_5
      refine lv_iconst (v := 1) hx hb d_Model_isUnder_29 (by decide) ?_
      refine lv_goto (tgt := 34) hx hb d_Model_isUnder_30 (by decide) ?_
      subst hF
      exact r_zret K hw (by decide) d_Model_isUnder_34
noncomputable def F_Model_isUnder_0 (v0 : Int32) (v1 : Int32) : Int32 := (if v1 = 0 then (1 : Int32) else (if v0 = v1 then (1 : Int32) else (if ¬ v1 = (1 : Int32) then (F_Model_isUnder_19 v0 v1) else (if v0 = (3 : Int32) then (1 : Int32) else (F_Model_isUnder_19 v0 v1)))))
set_option maxHeartbeats 4000000 in
set_option maxRecDepth 100000 in
theorem q_Model_isUnder_0 (s0 : St) (K : Fx p s m args meth c b_Model_isUnder 2 R_Model (some .boolean))  : ∀ (H : Heap) (locs : List Loc) (ls : Array Slot) (v0 : Int32) (v1 : Int32), Wh D cA ad shM A s s0 H locs → lv_has ls 2 [(0, .int v0), (1, .int v1)] → F_Model_isUnder_0 v0 v1 = r → W p l e rm_Model_isUnder s m args below meth c H locs 0 0 (MQ below (QcI D cA ad shM A r s0) args s 0 0 A) (F0 m 0 ls []) := by
  have hx := K.1.1; have hb := K.1.2.1
  intro H locs ls v0 v1 hw hl hF
  unfold F_Model_isUnder_0 at hF
  refine lv_iload_n hx hb d_Model_isUnder_0 rfl (lv_at hl 1 rfl) ?_
  refine lv_if_eq (tgt := 29) hx hb d_Model_isUnder_1 (by decide) (fun c_1 => ?_) (fun c_1 => ?_)
  · replace hF := ifT hF c_1
    refine lv_iconst (v := 1) hx hb d_Model_isUnder_29 (by decide) ?_
    refine lv_goto (tgt := 34) hx hb d_Model_isUnder_30 (by decide) ?_
    subst hF
    exact r_zret K hw (by decide) d_Model_isUnder_34
  · replace hF := ifF hF c_1
    refine lv_iload_n hx hb d_Model_isUnder_4 rfl (lv_at hl 0 rfl) ?_
    refine lv_iload_n hx hb d_Model_isUnder_5 rfl (lv_at hl 1 rfl) ?_
    refine lv_icmp_eq (tgt := 29) hx hb d_Model_isUnder_6 (by decide) (fun c_2 => ?_) (fun c_2 => ?_)
    · replace hF := ifT hF c_2
      refine lv_iconst (v := 1) hx hb d_Model_isUnder_29 (by decide) ?_
      refine lv_goto (tgt := 34) hx hb d_Model_isUnder_30 (by decide) ?_
      subst hF
      exact r_zret K hw (by decide) d_Model_isUnder_34
    · replace hF := ifF hF c_2
      refine lv_iload_n hx hb d_Model_isUnder_9 rfl (lv_at hl 1 rfl) ?_
      refine lv_iconst (v := 1) hx hb d_Model_isUnder_10 (by decide) ?_
      refine lv_icmp_ne (tgt := 19) hx hb d_Model_isUnder_11 (by decide) (fun c_3 => ?_) (fun c_3 => ?_)
      · replace hF := ifT hF c_3
        exact q_Model_isUnder_19 s0 K _ _ _ _ _  hw (lv_sub hl [0, 1] rfl) hF
      · replace hF := ifN hF c_3
        refine lv_iload_n hx hb d_Model_isUnder_14 rfl (lv_at hl 0 rfl) ?_
        refine lv_iconst (v := 3) hx hb d_Model_isUnder_15 (by decide) ?_
        refine lv_icmp_eq (tgt := 29) hx hb d_Model_isUnder_16 (by decide) (fun c_6 => ?_) (fun c_6 => ?_)
        · replace hF := ifT hF c_6
          refine lv_iconst (v := 1) hx hb d_Model_isUnder_29 (by decide) ?_
          refine lv_goto (tgt := 34) hx hb d_Model_isUnder_30 (by decide) ?_
          subst hF
          exact r_zret K hw (by decide) d_Model_isUnder_34
        · replace hF := ifF hF c_6
          exact q_Model_isUnder_19 s0 K _ _ _ _ _  hw (lv_sub hl [0, 1] rfl) hF
end S_Model_isUnder
noncomputable abbrev F_Model_isUnder := F_Model_isUnder_0
theorem c_Model_isUnder {l : Launch} {D : va_G} {cA : Nat → ClassId} {ad : Nat → Nat} {s0 : St} {r : Int32} {v0 : Int32} {v1 : Int32}  (hF : F_Model_isUnder v0 v1 = r) : MI l D cA ad shM y_Model_isUnder (wT y_Model_isUnder b_Model_isUnder 2 (some .boolean)) rm_Model_isUnder [.int v0, .int v1] s0 r s0 := fun sz => m_start (Qc := fun A => QcI D cA ad shM A r s0) (by decide +kernel) w_1414 (Nat.le_of_ble_eq_true rfl) (fun p e s m below meth c ls K hl hw => q_Model_isUnder_0 s0 K _ _ _ _ _  hw hl hF)

/-! Model.taken(II)I -/
abbrev b_Model_taken : ByteArray := prog_13_method_78_code
def y_Model_taken : MethodName := ⟨R_Model, "taken", "(II)I"⟩
theorem a_Model_taken : y_Model_taken.cls = R_Model ∧ y_Model_taken.cls ≠ "java/lang/invoke/MethodHandle" ∧ y_Model_taken.cls ≠ "java/lang/invoke/VarHandle" ∧ (parseMethodDescriptor y_Model_taken.desc).map (fun d => d.parameters.length) = some 2 := by decide +kernel
abbrev rm_Model_taken : Room := { frames := 1, cells := 0, slots := 0, locals := 22 }
theorem w_1412 : Cond.methodLink R_Model 304 y_Model_isUnder ∈ TB := tb_in 1412 (by decide +kernel) (by decide +kernel)
theorem w_1413 : Cond.static y_Model_isUnder ∈ TB := tb_in 1413 (by decide +kernel) (by decide +kernel)
theorem w_1411 : Cond.code y_Model_taken b_Model_taken 4 (some .int) ∈ TB := tb_in 1411 (by decide +kernel) (by decide +kernel)
theorem d_Model_taken_0 : decode b_Model_taken 0 = .ok (.iload_n 2, 1) := by decide +kernel
theorem d_Model_taken_1 : decode b_Model_taken 1 = .ok (.iconst 0, 1) := by decide +kernel
theorem d_Model_taken_2 : decode b_Model_taken 2 = .ok (.bipush 6, 2) := by decide +kernel
theorem d_Model_taken_4 : decode b_Model_taken 4 = .ok (.invokestatic 78, 3) := by decide +kernel
theorem d_Model_taken_7 : decode b_Model_taken 7 = .ok (.ifCond .ne 6, 3) := by decide +kernel
theorem d_Model_taken_10 : decode b_Model_taken 10 = .ok (.bipush (-2), 2) := by decide +kernel
theorem d_Model_taken_12 : decode b_Model_taken 12 = .ok (.ireturn, 1) := by decide +kernel
theorem d_Model_taken_13 : decode b_Model_taken 13 = .ok (.iload_n 1, 1) := by decide +kernel
theorem d_Model_taken_14 : decode b_Model_taken 14 = .ok (.iconst 0, 1) := by decide +kernel
theorem d_Model_taken_15 : decode b_Model_taken 15 = .ok (.bipush 11, 2) := by decide +kernel
theorem d_Model_taken_17 : decode b_Model_taken 17 = .ok (.invokestatic 78, 3) := by decide +kernel
theorem d_Model_taken_20 : decode b_Model_taken 20 = .ok (.ifCond .ne 6, 3) := by decide +kernel
theorem d_Model_taken_23 : decode b_Model_taken 23 = .ok (.bipush (-12), 2) := by decide +kernel
theorem d_Model_taken_25 : decode b_Model_taken 25 = .ok (.ireturn, 1) := by decide +kernel
theorem d_Model_taken_26 : decode b_Model_taken 26 = .ok (.iload_n 1, 1) := by decide +kernel
theorem d_Model_taken_27 : decode b_Model_taken 27 = .ok (.bipush 6, 2) := by decide +kernel
theorem d_Model_taken_29 : decode b_Model_taken 29 = .ok (.if_icmp .ge 42, 3) := by decide +kernel
theorem d_Model_taken_32 : decode b_Model_taken 32 = .ok (.iload_n 1, 1) := by decide +kernel
theorem d_Model_taken_33 : decode b_Model_taken 33 = .ok (.aload_n 0, 1) := by decide +kernel
theorem d_Model_taken_34 : decode b_Model_taken 34 = .ok (.getfield 75, 3) := by decide +kernel
theorem d_Model_taken_37 : decode b_Model_taken 37 = .ok (.if_icmp .lt 8, 3) := by decide +kernel
theorem d_Model_taken_40 : decode b_Model_taken 40 = .ok (.bipush (-11), 2) := by decide +kernel
theorem d_Model_taken_42 : decode b_Model_taken 42 = .ok (.goto 28, 3) := by decide +kernel
theorem d_Model_taken_45 : decode b_Model_taken 45 = .ok (.iload_n 2, 1) := by decide +kernel
theorem d_Model_taken_46 : decode b_Model_taken 46 = .ok (.bipush 6, 2) := by decide +kernel
theorem d_Model_taken_48 : decode b_Model_taken 48 = .ok (.if_icmp .ge 20, 3) := by decide +kernel
theorem d_Model_taken_51 : decode b_Model_taken 51 = .ok (.aload_n 0, 1) := by decide +kernel
theorem d_Model_taken_52 : decode b_Model_taken 52 = .ok (.getfield 7, 3) := by decide +kernel
theorem d_Model_taken_55 : decode b_Model_taken 55 = .ok (.iload_n 1, 1) := by decide +kernel
theorem d_Model_taken_56 : decode b_Model_taken 56 = .ok (.iaload, 1) := by decide +kernel
theorem d_Model_taken_57 : decode b_Model_taken 57 = .ok (.iload_n 2, 1) := by decide +kernel
theorem d_Model_taken_58 : decode b_Model_taken 58 = .ok (.invokestatic 304, 3) := by decide +kernel
theorem d_Model_taken_61 : decode b_Model_taken 61 = .ok (.ifCond .eq 7, 3) := by decide +kernel
theorem d_Model_taken_64 : decode b_Model_taken 64 = .ok (.iload_n 1, 1) := by decide +kernel
theorem d_Model_taken_65 : decode b_Model_taken 65 = .ok (.goto 5, 3) := by decide +kernel
theorem d_Model_taken_68 : decode b_Model_taken 68 = .ok (.bipush (-13), 2) := by decide +kernel
theorem d_Model_taken_70 : decode b_Model_taken 70 = .ok (.ireturn, 1) := by decide +kernel
theorem d_Model_taken_71 : decode b_Model_taken 71 = .ok (.iload_n 1, 1) := by decide +kernel
theorem d_Model_taken_72 : decode b_Model_taken 72 = .ok (.bipush 6, 2) := by decide +kernel
theorem d_Model_taken_74 : decode b_Model_taken 74 = .ok (.isub, 1) := by decide +kernel
theorem d_Model_taken_75 : decode b_Model_taken 75 = .ok (.aload_n 0, 1) := by decide +kernel
theorem d_Model_taken_76 : decode b_Model_taken 76 = .ok (.getfield 75, 3) := by decide +kernel
theorem d_Model_taken_79 : decode b_Model_taken 79 = .ok (.if_icmp .ge 15, 3) := by decide +kernel
theorem d_Model_taken_82 : decode b_Model_taken 82 = .ok (.aload_n 0, 1) := by decide +kernel
theorem d_Model_taken_83 : decode b_Model_taken 83 = .ok (.getfield 19, 3) := by decide +kernel
theorem d_Model_taken_86 : decode b_Model_taken 86 = .ok (.iload_n 1, 1) := by decide +kernel
theorem d_Model_taken_87 : decode b_Model_taken 87 = .ok (.bipush 6, 2) := by decide +kernel
theorem d_Model_taken_89 : decode b_Model_taken 89 = .ok (.isub, 1) := by decide +kernel
theorem d_Model_taken_90 : decode b_Model_taken 90 = .ok (.iaload, 1) := by decide +kernel
theorem d_Model_taken_91 : decode b_Model_taken 91 = .ok (.goto 4, 3) := by decide +kernel
theorem d_Model_taken_94 : decode b_Model_taken 94 = .ok (.iconst 0, 1) := by decide +kernel
theorem d_Model_taken_95 : decode b_Model_taken 95 = .ok (.istore_n 3, 1) := by decide +kernel
theorem d_Model_taken_96 : decode b_Model_taken 96 = .ok (.iload_n 3, 1) := by decide +kernel
theorem d_Model_taken_97 : decode b_Model_taken 97 = .ok (.ifCond .ne 8, 3) := by decide +kernel
theorem d_Model_taken_100 : decode b_Model_taken 100 = .ok (.bipush (-11), 2) := by decide +kernel
theorem d_Model_taken_102 : decode b_Model_taken 102 = .ok (.goto 15, 3) := by decide +kernel
theorem d_Model_taken_105 : decode b_Model_taken 105 = .ok (.iload_n 2, 1) := by decide +kernel
theorem d_Model_taken_106 : decode b_Model_taken 106 = .ok (.bipush 6, 2) := by decide +kernel
theorem d_Model_taken_108 : decode b_Model_taken 108 = .ok (.if_icmp .ne 7, 3) := by decide +kernel
theorem d_Model_taken_111 : decode b_Model_taken 111 = .ok (.iload_n 3, 1) := by decide +kernel
theorem d_Model_taken_112 : decode b_Model_taken 112 = .ok (.goto 5, 3) := by decide +kernel
theorem d_Model_taken_115 : decode b_Model_taken 115 = .ok (.bipush (-13), 2) := by decide +kernel
theorem d_Model_taken_117 : decode b_Model_taken 117 = .ok (.ireturn, 1) := by decide +kernel
section S_Model_taken
variable {p : Program} {l : Launch} {e : Env} {s : State} {m : MethodId} {args : Array Value} {below : List Frame} {meth : Method} {c : Code} {D : va_G} {cA : Nat → ClassId} {ad : Nat → Nat} {nC : Nat} {A : Nat → Prop} {r : Int32} {τ : St}
noncomputable def F_Model_taken_95 (s0 : St) (v2 : Int32) (t0 : Int32) : Option Int32 := (if ¬ t0 = 0 then (if ¬ v2 = (6 : Int32) then (some (-13 : Int32)) else (some t0)) else (some (-11 : Int32)))
set_option maxHeartbeats 4000000 in
set_option maxRecDepth 100000 in
theorem q_Model_taken_95 (s0 : St) (K : Fx p s m args meth c b_Model_taken 4 R_Model (some .int))  : ∀ (H : Heap) (locs : List Loc) (ls : Array Slot) (v2 : Int32) (t0 : Int32), Wh D cA ad shM A s s0 H locs → lv_has ls 4 [(2, .int v2)] → F_Model_taken_95 s0 v2 t0 = (some r) → W p l e rm_Model_taken s m args below meth c H locs 0 0 (MQ below (QcI D cA ad shM A r s0) args s 0 0 A) (F0 m 95 ls [.int t0]) := by
  have hx := K.1.1; have hb := K.1.2.1
  intro H locs ls v2 t0 hw hl hF
  unfold F_Model_taken_95 at hF
  refine lv_istore_n (lv' := [(3, .int t0), (2, .int v2)]) hx hb d_Model_taken_95 rfl hl (by decide) rfl (fun ls hl => ?_)
  refine lv_iload_n hx hb d_Model_taken_96 rfl (lv_at hl 0 rfl) ?_
  refine lv_if_ne (tgt := 105) hx hb d_Model_taken_97 (by decide) (fun c_5 => ?_) (fun c_5 => ?_)
  · replace hF := ifT hF c_5
    refine lv_iload_n hx hb d_Model_taken_105 rfl (lv_at hl 1 rfl) ?_
    refine lv_bipush (v := 6) hx hb d_Model_taken_106 (by decide) ?_
    refine lv_icmp_ne (tgt := 115) hx hb d_Model_taken_108 (by decide) (fun c_6 => ?_) (fun c_6 => ?_)
    · replace hF := ifT hF c_6
      refine lv_bipush (v := -13) hx hb d_Model_taken_115 (by decide) ?_
      replace hF := sE1 hF
      subst hF
      exact r_iret K hw d_Model_taken_117
    · replace hF := ifN hF c_6
      refine lv_iload_n hx hb d_Model_taken_111 rfl (lv_at hl 0 rfl) ?_
      refine lv_goto (tgt := 117) hx hb d_Model_taken_112 (by decide) ?_
      replace hF := sE1 hF
      subst hF
      exact r_iret K hw d_Model_taken_117
  · replace hF := ifN hF c_5
    refine lv_bipush (v := -11) hx hb d_Model_taken_100 (by decide) ?_
    refine lv_goto (tgt := 117) hx hb d_Model_taken_102 (by decide) ?_
    replace hF := sE1 hF
    subst hF
    exact r_iret K hw d_Model_taken_117
noncomputable def F_Model_taken_0 (s0 : St) (v1 : Int32) (v2 : Int32) : Option Int32 := (if ¬ (F_Model_in v2 (0 : Int32) (6 : Int32)) = 0 then (if ¬ (F_Model_in v1 (0 : Int32) (11 : Int32)) = 0 then (if (6 : Int32) ≤ v1 then (if (s0.1 0 0) ≤ (v1 - (6 : Int32)) then (F_Model_taken_95 s0 v2 (0 : Int32)) else (if inB (v1 - (6 : Int32)) 6 = true then (F_Model_taken_95 s0 v2 (s0.1 4 (v1 - (6 : Int32)).toNatClampNeg)) else none)) else (if v1 < (s0.1 0 0) then (if (6 : Int32) ≤ v2 then (some (-13 : Int32)) else (if inB v1 6 = true then (if (F_Model_isUnder (s0.1 1 v1.toNatClampNeg) v2) = 0 then (some (-13 : Int32)) else (some v1)) else none)) else (some (-11 : Int32)))) else (some (-12 : Int32))) else (some (-2 : Int32)))
set_option maxHeartbeats 4000000 in
set_option maxRecDepth 100000 in
theorem q_Model_taken_0 (s0 : St) (K : Fx p s m args meth c b_Model_taken 4 R_Model (some .int))  : ∀ (H : Heap) (locs : List Loc) (ls : Array Slot) (v1 : Int32) (v2 : Int32), Wh D cA ad shM A s s0 H locs → lv_has ls 4 [(0, .ref (ad 0)), (1, .int v1), (2, .int v2)] → F_Model_taken_0 s0 v1 v2 = (some r) → W p l e rm_Model_taken s m args below meth c H locs 0 0 (MQ below (QcI D cA ad shM A r s0) args s 0 0 A) (F0 m 0 ls []) := by
  have hx := K.1.1; have hb := K.1.2.1
  intro H locs ls v1 v2 hw hl hF
  unfold F_Model_taken_0 at hF
  refine lv_iload_n hx hb d_Model_taken_0 rfl (lv_at hl 2 rfl) ?_
  refine lv_iconst (v := 0) hx hb d_Model_taken_1 (by decide) ?_
  refine lv_bipush (v := 6) hx hb d_Model_taken_2 (by decide) ?_
  refine r_callSI (As := [.int v2, .int (0 : Int32), .int (6 : Int32)]) (rest := []) K hw hl.1 (c_Model_in (l := l) (D := D) (cA := cA) (ad := ad) (s0 := s0)   rfl) (tb_gS w_986 w_987 w_80 w_988) a_Model_in ⟨rfl, rfl, Nat.le_of_ble_eq_true rfl, Nat.le_of_ble_eq_true rfl⟩ rfl rfl (Nat.le_of_ble_eq_true rfl) d_Model_taken_4 (fun H locs hw => ?_)
  refine lv_if_ne (tgt := 13) hx hb d_Model_taken_7 (by decide) (fun c_1 => ?_) (fun c_1 => ?_)
  · replace hF := ifT hF c_1
    refine lv_iload_n hx hb d_Model_taken_13 rfl (lv_at hl 1 rfl) ?_
    refine lv_iconst (v := 0) hx hb d_Model_taken_14 (by decide) ?_
    refine lv_bipush (v := 11) hx hb d_Model_taken_15 (by decide) ?_
    refine r_callSI (As := [.int v1, .int (0 : Int32), .int (11 : Int32)]) (rest := []) K hw hl.1 (c_Model_in (l := l) (D := D) (cA := cA) (ad := ad) (s0 := s0)   rfl) (tb_gS w_986 w_987 w_80 w_988) a_Model_in ⟨rfl, rfl, Nat.le_of_ble_eq_true rfl, Nat.le_of_ble_eq_true rfl⟩ rfl rfl (Nat.le_of_ble_eq_true rfl) d_Model_taken_17 (fun H locs hw => ?_)
    refine lv_if_ne (tgt := 26) hx hb d_Model_taken_20 (by decide) (fun c_2 => ?_) (fun c_2 => ?_)
    · replace hF := ifT hF c_2
      refine lv_iload_n hx hb d_Model_taken_26 rfl (lv_at hl 1 rfl) ?_
      refine lv_bipush (v := 6) hx hb d_Model_taken_27 (by decide) ?_
      refine lv_icmp_ge (tgt := 71) hx hb d_Model_taken_29 (by decide) (fun c_3 => ?_) (fun c_3 => ?_)
      · replace hF := ifT hF c_3
        refine lv_iload_n hx hb d_Model_taken_71 rfl (lv_at hl 1 rfl) ?_
        refine lv_bipush (v := 6) hx hb d_Model_taken_72 (by decide) ?_
        refine lv_isub hx hb d_Model_taken_74 ?_
        refine lv_aload_n hx hb d_Model_taken_75 rfl (lv_at hl 0 rfl) ?_
        refine r_get (v := .int (s0.1 0 0)) K hw i_Model sh_Model rfl 0 (by decide) w_1025 rfl rfl rfl d_Model_taken_76 ?_
        refine lv_icmp_ge (tgt := 94) hx hb d_Model_taken_79 (by decide) (fun c_4 => ?_) (fun c_4 => ?_)
        · replace hF := ifT hF c_4
          refine lv_iconst (v := 0) hx hb d_Model_taken_94 (by decide) ?_
          exact q_Model_taken_95 s0 K _ _ _ _ _  hw (lv_sub hl [2] rfl) hF
        · replace hF := ifF hF c_4
          refine lv_aload_n hx hb d_Model_taken_82 rfl (lv_at hl 0 rfl) ?_
          refine r_get (v := .ref (ad 4)) K hw i_Model sh_Model rfl 4 (by decide) w_1029 rfl rfl rfl d_Model_taken_83 ?_
          refine lv_iload_n hx hb d_Model_taken_86 rfl (lv_at hl 1 rfl) ?_
          refine lv_bipush (v := 6) hx hb d_Model_taken_87 (by decide) ?_
          refine lv_isub hx hb d_Model_taken_89 ?_
          obtain ⟨g_7, hF⟩ := ifG hF
          refine r_iald (k := (v1 - (6 : Int32)).toNatClampNeg) K hw (show shM[4]? = some (.inr (.inl 6)) from rfl) rfl (inB_vp g_7) d_Model_taken_90 ?_
          refine lv_goto (tgt := 95) hx hb d_Model_taken_91 (by decide) ?_
          exact q_Model_taken_95 s0 K _ _ _ _ _  hw (lv_sub hl [2] rfl) hF
      · replace hF := ifF hF c_3
        refine lv_iload_n hx hb d_Model_taken_32 rfl (lv_at hl 1 rfl) ?_
        refine lv_aload_n hx hb d_Model_taken_33 rfl (lv_at hl 0 rfl) ?_
        refine r_get (v := .int (s0.1 0 0)) K hw i_Model sh_Model rfl 0 (by decide) w_1025 rfl rfl rfl d_Model_taken_34 ?_
        refine lv_icmp_lt (tgt := 45) hx hb d_Model_taken_37 (by decide) (fun c_8 => ?_) (fun c_8 => ?_)
        · replace hF := ifT hF c_8
          refine lv_iload_n hx hb d_Model_taken_45 rfl (lv_at hl 2 rfl) ?_
          refine lv_bipush (v := 6) hx hb d_Model_taken_46 (by decide) ?_
          refine lv_icmp_ge (tgt := 68) hx hb d_Model_taken_48 (by decide) (fun c_9 => ?_) (fun c_9 => ?_)
          · replace hF := ifT hF c_9
            refine lv_bipush (v := -13) hx hb d_Model_taken_68 (by decide) ?_
            replace hF := sE1 hF
            subst hF
            exact r_iret K hw d_Model_taken_70
          · replace hF := ifF hF c_9
            refine lv_aload_n hx hb d_Model_taken_51 rfl (lv_at hl 0 rfl) ?_
            refine r_get (v := .ref (ad 1)) K hw i_Model sh_Model rfl 1 (by decide) w_1026 rfl rfl rfl d_Model_taken_52 ?_
            refine lv_iload_n hx hb d_Model_taken_55 rfl (lv_at hl 1 rfl) ?_
            obtain ⟨g_10, hF⟩ := ifG hF
            refine r_iald (k := v1.toNatClampNeg) K hw (show shM[1]? = some (.inr (.inl 6)) from rfl) rfl (inB_vp g_10) d_Model_taken_56 ?_
            refine lv_iload_n hx hb d_Model_taken_57 rfl (lv_at hl 2 rfl) ?_
            refine r_callSI (As := [.int (s0.1 1 v1.toNatClampNeg), .int v2]) (rest := []) K hw hl.1 (c_Model_isUnder (l := l) (D := D) (cA := cA) (ad := ad) (s0 := s0)   rfl) (tb_gS w_1412 w_1413 w_80 w_1414) a_Model_isUnder ⟨rfl, rfl, Nat.le_of_ble_eq_true rfl, Nat.le_of_ble_eq_true rfl⟩ rfl rfl (Nat.le_of_ble_eq_true rfl) d_Model_taken_58 (fun H locs hw => ?_)
            refine lv_if_eq (tgt := 68) hx hb d_Model_taken_61 (by decide) (fun c_11 => ?_) (fun c_11 => ?_)
            · replace hF := ifT hF c_11
              refine lv_bipush (v := -13) hx hb d_Model_taken_68 (by decide) ?_
              replace hF := sE1 hF
              subst hF
              exact r_iret K hw d_Model_taken_70
            · replace hF := ifF hF c_11
              refine lv_iload_n hx hb d_Model_taken_64 rfl (lv_at hl 1 rfl) ?_
              refine lv_goto (tgt := 70) hx hb d_Model_taken_65 (by decide) ?_
              replace hF := sE1 hF
              subst hF
              exact r_iret K hw d_Model_taken_70
        · replace hF := ifF hF c_8
          refine lv_bipush (v := -11) hx hb d_Model_taken_40 (by decide) ?_
          refine lv_goto (tgt := 70) hx hb d_Model_taken_42 (by decide) ?_
          replace hF := sE1 hF
          subst hF
          exact r_iret K hw d_Model_taken_70
    · replace hF := ifN hF c_2
      refine lv_bipush (v := -12) hx hb d_Model_taken_23 (by decide) ?_
      replace hF := sE1 hF
      subst hF
      exact r_iret K hw d_Model_taken_25
  · replace hF := ifN hF c_1
    refine lv_bipush (v := -2) hx hb d_Model_taken_10 (by decide) ?_
    replace hF := sE1 hF
    subst hF
    exact r_iret K hw d_Model_taken_12
end S_Model_taken
noncomputable abbrev F_Model_taken := F_Model_taken_0
theorem c_Model_taken {l : Launch} {D : va_G} {cA : Nat → ClassId} {ad : Nat → Nat} {s0 : St} {r : Int32} {v1 : Int32} {v2 : Int32}  (hF : F_Model_taken s0 v1 v2 = (some r)) : MI l D cA ad shM y_Model_taken (wT y_Model_taken b_Model_taken 4 (some .int)) rm_Model_taken [.ref (ad 0), .int v1, .int v2] s0 r s0 := fun sz => m_start (Qc := fun A => QcI D cA ad shM A r s0) (by decide +kernel) w_1411 (Nat.le_of_ble_eq_true rfl) (fun p e s m below meth c ls K hl hw => q_Model_taken_0 s0 K _ _ _ _ _  hw hl hF)
