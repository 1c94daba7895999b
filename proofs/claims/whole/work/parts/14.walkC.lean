/-! Text.worth(II[I)I -/
abbrev b_Text_worth : ByteArray := prog_10_method_6_code
def y_Text_worth : MethodName := ⟨R_Text, "worth", "(II[I)I"⟩
theorem a_Text_worth : y_Text_worth.cls = R_Text ∧ y_Text_worth.cls ≠ "java/lang/invoke/MethodHandle" ∧ y_Text_worth.cls ≠ "java/lang/invoke/VarHandle" ∧ (parseMethodDescriptor y_Text_worth.desc).map (fun d => d.parameters.length) = some 3 := by decide +kernel
abbrev rm_Text_worth : Room := { frames := 1, cells := 0, slots := 0, locals := 22 }
theorem w_207 : Cond.fieldLink R_Text 15 R_Text "stack" "[I" ∈ TB := tb_in 207 (by decide +kernel) (by decide +kernel)
theorem w_679 : Cond.methodLink R_Text 40 y_Text_ofTwo ∈ TB := tb_in 679 (by decide +kernel) (by decide +kernel)
theorem w_680 : Cond.static y_Text_ofTwo ∈ TB := tb_in 680 (by decide +kernel) (by decide +kernel)
theorem w_676 : Cond.methodLink R_Text 36 y_Text_ofOne ∈ TB := tb_in 676 (by decide +kernel) (by decide +kernel)
theorem w_677 : Cond.static y_Text_ofOne ∈ TB := tb_in 677 (by decide +kernel) (by decide +kernel)
theorem w_675 : Cond.code y_Text_worth b_Text_worth 7 (some .int) ∈ TB := tb_in 675 (by decide +kernel) (by decide +kernel)
theorem d_Text_worth_0 : decode b_Text_worth 0 = .ok (.iconst 0, 1) := by decide +kernel
theorem d_Text_worth_1 : decode b_Text_worth 1 = .ok (.istore 4, 2) := by decide +kernel
theorem d_Text_worth_3 : decode b_Text_worth 3 = .ok (.iload_n 1, 1) := by decide +kernel
theorem d_Text_worth_4 : decode b_Text_worth 4 = .ok (.istore 5, 2) := by decide +kernel
theorem d_Text_worth_6 : decode b_Text_worth 6 = .ok (.iload 5, 2) := by decide +kernel
theorem d_Text_worth_8 : decode b_Text_worth 8 = .ok (.iload_n 2, 1) := by decide +kernel
theorem d_Text_worth_9 : decode b_Text_worth 9 = .ok (.if_icmp .ge 158, 3) := by decide +kernel
theorem d_Text_worth_12 : decode b_Text_worth 12 = .ok (.iload 5, 2) := by decide +kernel
theorem d_Text_worth_14 : decode b_Text_worth 14 = .ok (.aload_n 0, 1) := by decide +kernel
theorem d_Text_worth_15 : decode b_Text_worth 15 = .ok (.getfield 9, 3) := by decide +kernel
theorem d_Text_worth_18 : decode b_Text_worth 18 = .ok (.arraylength, 1) := by decide +kernel
theorem d_Text_worth_19 : decode b_Text_worth 19 = .ok (.if_icmp .ge 148, 3) := by decide +kernel
theorem d_Text_worth_22 : decode b_Text_worth 22 = .ok (.aload_n 0, 1) := by decide +kernel
theorem d_Text_worth_23 : decode b_Text_worth 23 = .ok (.getfield 9, 3) := by decide +kernel
theorem d_Text_worth_26 : decode b_Text_worth 26 = .ok (.iload 5, 2) := by decide +kernel
theorem d_Text_worth_28 : decode b_Text_worth 28 = .ok (.iaload, 1) := by decide +kernel
theorem d_Text_worth_29 : decode b_Text_worth 29 = .ok (.istore 6, 2) := by decide +kernel
theorem d_Text_worth_31 : decode b_Text_worth 31 = .ok (.iload 6, 2) := by decide +kernel
theorem d_Text_worth_33 : decode b_Text_worth 33 = .ok (.bipush (-6), 2) := by decide +kernel
theorem d_Text_worth_35 : decode b_Text_worth 35 = .ok (.if_icmp .lt 44, 3) := by decide +kernel
theorem d_Text_worth_38 : decode b_Text_worth 38 = .ok (.iload 4, 2) := by decide +kernel
theorem d_Text_worth_40 : decode b_Text_worth 40 = .ok (.aload_n 0, 1) := by decide +kernel
theorem d_Text_worth_41 : decode b_Text_worth 41 = .ok (.getfield 15, 3) := by decide +kernel
theorem d_Text_worth_44 : decode b_Text_worth 44 = .ok (.arraylength, 1) := by decide +kernel
theorem d_Text_worth_45 : decode b_Text_worth 45 = .ok (.if_icmp .lt 5, 3) := by decide +kernel
theorem d_Text_worth_48 : decode b_Text_worth 48 = .ok (.iconst 0, 1) := by decide +kernel
theorem d_Text_worth_49 : decode b_Text_worth 49 = .ok (.ireturn, 1) := by decide +kernel
theorem d_Text_worth_50 : decode b_Text_worth 50 = .ok (.aload_n 0, 1) := by decide +kernel
theorem d_Text_worth_51 : decode b_Text_worth 51 = .ok (.getfield 15, 3) := by decide +kernel
theorem d_Text_worth_54 : decode b_Text_worth 54 = .ok (.iload 4, 2) := by decide +kernel
theorem d_Text_worth_56 : decode b_Text_worth 56 = .ok (.iload 6, 2) := by decide +kernel
theorem d_Text_worth_58 : decode b_Text_worth 58 = .ok (.ifCond .lt 8, 3) := by decide +kernel
theorem d_Text_worth_61 : decode b_Text_worth 61 = .ok (.iload 6, 2) := by decide +kernel
theorem d_Text_worth_63 : decode b_Text_worth 63 = .ok (.goto 9, 3) := by decide +kernel
theorem d_Text_worth_66 : decode b_Text_worth 66 = .ok (.aload_n 3, 1) := by decide +kernel
theorem d_Text_worth_67 : decode b_Text_worth 67 = .ok (.iconst (-1), 1) := by decide +kernel
theorem d_Text_worth_68 : decode b_Text_worth 68 = .ok (.iload 6, 2) := by decide +kernel
theorem d_Text_worth_70 : decode b_Text_worth 70 = .ok (.isub, 1) := by decide +kernel
theorem d_Text_worth_71 : decode b_Text_worth 71 = .ok (.iaload, 1) := by decide +kernel
theorem d_Text_worth_72 : decode b_Text_worth 72 = .ok (.iastore, 1) := by decide +kernel
theorem d_Text_worth_73 : decode b_Text_worth 73 = .ok (.iinc 4 1, 3) := by decide +kernel
theorem d_Text_worth_76 : decode b_Text_worth 76 = .ok (.goto 85, 3) := by decide +kernel
theorem d_Text_worth_79 : decode b_Text_worth 79 = .ok (.iload 6, 2) := by decide +kernel
theorem d_Text_worth_81 : decode b_Text_worth 81 = .ok (.bipush (-12), 2) := by decide +kernel
theorem d_Text_worth_83 : decode b_Text_worth 83 = .ok (.if_icmp .lt 37, 3) := by decide +kernel
theorem d_Text_worth_86 : decode b_Text_worth 86 = .ok (.iload 4, 2) := by decide +kernel
theorem d_Text_worth_88 : decode b_Text_worth 88 = .ok (.iconst 1, 1) := by decide +kernel
theorem d_Text_worth_89 : decode b_Text_worth 89 = .ok (.if_icmp .ge 5, 3) := by decide +kernel
theorem d_Text_worth_92 : decode b_Text_worth 92 = .ok (.iconst 0, 1) := by decide +kernel
theorem d_Text_worth_93 : decode b_Text_worth 93 = .ok (.ireturn, 1) := by decide +kernel
theorem d_Text_worth_94 : decode b_Text_worth 94 = .ok (.aload_n 0, 1) := by decide +kernel
theorem d_Text_worth_95 : decode b_Text_worth 95 = .ok (.getfield 15, 3) := by decide +kernel
theorem d_Text_worth_98 : decode b_Text_worth 98 = .ok (.iload 4, 2) := by decide +kernel
theorem d_Text_worth_100 : decode b_Text_worth 100 = .ok (.iconst 1, 1) := by decide +kernel
theorem d_Text_worth_101 : decode b_Text_worth 101 = .ok (.isub, 1) := by decide +kernel
theorem d_Text_worth_102 : decode b_Text_worth 102 = .ok (.iload 6, 2) := by decide +kernel
theorem d_Text_worth_104 : decode b_Text_worth 104 = .ok (.aload_n 0, 1) := by decide +kernel
theorem d_Text_worth_105 : decode b_Text_worth 105 = .ok (.getfield 15, 3) := by decide +kernel
theorem d_Text_worth_108 : decode b_Text_worth 108 = .ok (.iload 4, 2) := by decide +kernel
theorem d_Text_worth_110 : decode b_Text_worth 110 = .ok (.iconst 1, 1) := by decide +kernel
theorem d_Text_worth_111 : decode b_Text_worth 111 = .ok (.isub, 1) := by decide +kernel
theorem d_Text_worth_112 : decode b_Text_worth 112 = .ok (.iaload, 1) := by decide +kernel
theorem d_Text_worth_113 : decode b_Text_worth 113 = .ok (.invokestatic 36, 3) := by decide +kernel
theorem d_Text_worth_116 : decode b_Text_worth 116 = .ok (.iastore, 1) := by decide +kernel
theorem d_Text_worth_117 : decode b_Text_worth 117 = .ok (.goto 44, 3) := by decide +kernel
theorem d_Text_worth_120 : decode b_Text_worth 120 = .ok (.iload 4, 2) := by decide +kernel
theorem d_Text_worth_122 : decode b_Text_worth 122 = .ok (.iconst 2, 1) := by decide +kernel
theorem d_Text_worth_123 : decode b_Text_worth 123 = .ok (.if_icmp .ge 5, 3) := by decide +kernel
theorem d_Text_worth_126 : decode b_Text_worth 126 = .ok (.iconst 0, 1) := by decide +kernel
theorem d_Text_worth_127 : decode b_Text_worth 127 = .ok (.ireturn, 1) := by decide +kernel
theorem d_Text_worth_128 : decode b_Text_worth 128 = .ok (.iinc 4 (-1), 3) := by decide +kernel
theorem d_Text_worth_131 : decode b_Text_worth 131 = .ok (.aload_n 0, 1) := by decide +kernel
theorem d_Text_worth_132 : decode b_Text_worth 132 = .ok (.getfield 15, 3) := by decide +kernel
theorem d_Text_worth_135 : decode b_Text_worth 135 = .ok (.iload 4, 2) := by decide +kernel
theorem d_Text_worth_137 : decode b_Text_worth 137 = .ok (.iconst 1, 1) := by decide +kernel
theorem d_Text_worth_138 : decode b_Text_worth 138 = .ok (.isub, 1) := by decide +kernel
theorem d_Text_worth_139 : decode b_Text_worth 139 = .ok (.iload 6, 2) := by decide +kernel
theorem d_Text_worth_141 : decode b_Text_worth 141 = .ok (.aload_n 0, 1) := by decide +kernel
theorem d_Text_worth_142 : decode b_Text_worth 142 = .ok (.getfield 15, 3) := by decide +kernel
theorem d_Text_worth_145 : decode b_Text_worth 145 = .ok (.iload 4, 2) := by decide +kernel
theorem d_Text_worth_147 : decode b_Text_worth 147 = .ok (.iconst 1, 1) := by decide +kernel
theorem d_Text_worth_148 : decode b_Text_worth 148 = .ok (.isub, 1) := by decide +kernel
theorem d_Text_worth_149 : decode b_Text_worth 149 = .ok (.iaload, 1) := by decide +kernel
theorem d_Text_worth_150 : decode b_Text_worth 150 = .ok (.aload_n 0, 1) := by decide +kernel
theorem d_Text_worth_151 : decode b_Text_worth 151 = .ok (.getfield 15, 3) := by decide +kernel
theorem d_Text_worth_154 : decode b_Text_worth 154 = .ok (.iload 4, 2) := by decide +kernel
theorem d_Text_worth_156 : decode b_Text_worth 156 = .ok (.iaload, 1) := by decide +kernel
theorem d_Text_worth_157 : decode b_Text_worth 157 = .ok (.invokestatic 40, 3) := by decide +kernel
theorem d_Text_worth_160 : decode b_Text_worth 160 = .ok (.iastore, 1) := by decide +kernel
theorem d_Text_worth_161 : decode b_Text_worth 161 = .ok (.iinc 5 1, 3) := by decide +kernel
theorem d_Text_worth_164 : decode b_Text_worth 164 = .ok (.goto (-158), 3) := by decide +kernel
theorem d_Text_worth_167 : decode b_Text_worth 167 = .ok (.iload 4, 2) := by decide +kernel
theorem d_Text_worth_169 : decode b_Text_worth 169 = .ok (.iconst 1, 1) := by decide +kernel
theorem d_Text_worth_170 : decode b_Text_worth 170 = .ok (.if_icmp .ge 7, 3) := by decide +kernel
theorem d_Text_worth_173 : decode b_Text_worth 173 = .ok (.iconst 0, 1) := by decide +kernel
theorem d_Text_worth_174 : decode b_Text_worth 174 = .ok (.goto 12, 3) := by decide +kernel
theorem d_Text_worth_177 : decode b_Text_worth 177 = .ok (.aload_n 0, 1) := by decide +kernel
theorem d_Text_worth_178 : decode b_Text_worth 178 = .ok (.getfield 15, 3) := by decide +kernel
theorem d_Text_worth_181 : decode b_Text_worth 181 = .ok (.iload 4, 2) := by decide +kernel
theorem d_Text_worth_183 : decode b_Text_worth 183 = .ok (.iconst 1, 1) := by decide +kernel
theorem d_Text_worth_184 : decode b_Text_worth 184 = .ok (.isub, 1) := by decide +kernel
theorem d_Text_worth_185 : decode b_Text_worth 185 = .ok (.iaload, 1) := by decide +kernel
theorem d_Text_worth_186 : decode b_Text_worth 186 = .ok (.ireturn, 1) := by decide +kernel
section S_Text_worth
variable {p : Program} {l : Launch} {e : Env} {s : State} {m : MethodId} {args : Array Value} {below : List Frame} {meth : Method} {c : Code} {D : va_G} {cA : Nat → ClassId} {ad : Nat → Nat} {nC : Nat} {A : Nat → Prop} {r : Int32} {τ : St}
noncomputable def F_Text_worth_167 (s0 : St) (v0 : Nat) (v4 : Int32) : Option (Int32 × St) := (if (1 : Int32) ≤ v4 then (if inB (v4 - (1 : Int32)) 160 = true then (some ((s0.1 7 (v4 - (1 : Int32)).toNatClampNeg), s0)) else none) else (some ((0 : Int32), s0)))
set_option maxHeartbeats 4000000 in
set_option maxRecDepth 100000 in
theorem q_Text_worth_167 (hn : 46 ≤ nC) (K : Fx p s m args meth c b_Text_worth 7 R_Text (some .int))  : ∀ (H : Heap) (locs : List Loc) (ls : Array Slot) (s0 : St) (v0 : Nat) (v4 : Int32) (g_v0 : P_Text v0), Wh D cA ad (shC.take nC) A s s0 H locs → lv_has ls 7 [(0, .ref (ad v0)), (4, .int v4)] → F_Text_worth_167 s0 v0 v4 = (some (r, τ)) → W p l e rm_Text_worth s m args below meth c H locs 0 0 (MQ below (QcI D cA ad (shC.take nC) A r τ) args s 0 0 A) (F0 m 167 ls []) := by
  have hx := K.1.1; have hb := K.1.2.1
  intro H locs ls s0 v0 v4 g_v0 hw hl hF
  unfold F_Text_worth_167 at hF
  refine lv_iload hx hb d_Text_worth_167 (lv_at hl 1 rfl) ?_
  refine lv_iconst (v := 1) hx hb d_Text_worth_169 (by decide) ?_
  refine lv_icmp_ge (tgt := 177) hx hb d_Text_worth_170 (by decide) (fun c_2 => ?_) (fun c_2 => ?_)
  · replace hF := ifT hF c_2
    refine lv_aload_n hx hb d_Text_worth_177 rfl (lv_at hl 0 rfl) ?_
    refine r_get (v := .ref (ad 7)) K hw i_Text (sh_Text g_v0 (Nat.le_trans (Nat.le_of_ble_eq_true rfl) hn)) rfl 0 (by decide) w_207 rfl rfl rfl d_Text_worth_178 ?_
    refine lv_iload hx hb d_Text_worth_181 (lv_at hl 1 rfl) ?_
    refine lv_iconst (v := 1) hx hb d_Text_worth_183 (by decide) ?_
    refine lv_isub hx hb d_Text_worth_184 ?_
    obtain ⟨g_3, hF⟩ := ifG hF
    refine r_iald (k := (v4 - (1 : Int32)).toNatClampNeg) K hw (sh_a7 (Nat.le_trans (Nat.le_of_ble_eq_true rfl) hn)) rfl (inB_vp g_3) d_Text_worth_185 ?_
    obtain ⟨hF, hG⟩ := sE2 hF
    subst hF
    subst hG
    exact r_iret K hw d_Text_worth_186
  · replace hF := ifF hF c_2
    refine lv_iconst (v := 0) hx hb d_Text_worth_173 (by decide) ?_
    refine lv_goto (tgt := 186) hx hb d_Text_worth_174 (by decide) ?_
    obtain ⟨hF, hG⟩ := sE2 hF
    subst hF
    subst hG
    exact r_iret K hw d_Text_worth_186
noncomputable def F_Text_worth_161 (k4 : (St → Nat → Int32 → Nat → Int32 → Int32 → Option (Int32 × St))) (s0 : St) (v0 : Nat) (v2 : Int32) (v3 : Nat) (v4 : Int32) (v5 : Int32) : Option (Int32 × St) := (k4 s0 v0 v2 v3 v4 (v5 + 1))
set_option maxHeartbeats 4000000 in
set_option maxRecDepth 100000 in
theorem q_Text_worth_161 (hn : 46 ≤ nC) (K : Fx p s m args meth c b_Text_worth 7 R_Text (some .int)) (k4 : (St → Nat → Int32 → Nat → Int32 → Int32 → Option (Int32 × St))) (hk4 : ∀ (H : Heap) (locs : List Loc) (ls : Array Slot) (s0 : St) (v0 : Nat) (v2 : Int32) (v3 : Nat) (v4 : Int32) (v5 : Int32) (g_v0 : P_Text v0) (g_v3 : P_names v3), Wh D cA ad (shC.take nC) A s s0 H locs → lv_has ls 7 [(0, .ref (ad v0)), (2, .int v2), (3, .ref (ad v3)), (4, .int v4), (5, .int v5)] → k4 s0 v0 v2 v3 v4 v5 = (some (r, τ)) → W p l e rm_Text_worth s m args below meth c H locs 0 0 (MQ below (QcI D cA ad (shC.take nC) A r τ) args s 0 0 A) (F0 m 6 ls [])) : ∀ (H : Heap) (locs : List Loc) (ls : Array Slot) (s0 : St) (v0 : Nat) (v2 : Int32) (v3 : Nat) (v4 : Int32) (v5 : Int32) (g_v0 : P_Text v0) (g_v3 : P_names v3), Wh D cA ad (shC.take nC) A s s0 H locs → lv_has ls 7 [(0, .ref (ad v0)), (2, .int v2), (3, .ref (ad v3)), (4, .int v4), (5, .int v5)] → F_Text_worth_161 k4 s0 v0 v2 v3 v4 v5 = (some (r, τ)) → W p l e rm_Text_worth s m args below meth c H locs 0 0 (MQ below (QcI D cA ad (shC.take nC) A r τ) args s 0 0 A) (F0 m 161 ls []) := by
  have hx := K.1.1; have hb := K.1.2.1
  intro H locs ls s0 v0 v2 v3 v4 v5 g_v0 g_v3 hw hl hF
  unfold F_Text_worth_161 at hF
  refine lv_iinc (v := (v5 + 1)) (lv' := [(5, .int (v5 + 1)), (0, .ref (ad v0)), (2, .int v2), (3, .ref (ad v3)), (4, .int v4)]) hx hb d_Text_worth_161 hl (k := 4) rfl rfl (by decide) rfl (fun ls hl => ?_)
  refine lv_goto (tgt := 6) hx hb d_Text_worth_164 (by decide) ?_
  exact hk4 _ _ _ _ _ _ _ _ _ g_v0 g_v3 hw (lv_sub hl [1, 2, 3, 4, 0] rfl) hF
noncomputable def F_Text_worth_72 (k4 : (St → Nat → Int32 → Nat → Int32 → Int32 → Option (Int32 × St))) (s0 : St) (v0 : Nat) (v2 : Int32) (v3 : Nat) (v4 : Int32) (v5 : Int32) (t1 : Int32) (t2 : Int32) : Option (Int32 × St) := (if inB t1 160 = true then (lt (up1 s0 7 t1.toNatClampNeg t2) (fun s_21 => (F_Text_worth_161 k4 s_21 v0 v2 v3 (v4 + 1) v5))) else none)
set_option maxHeartbeats 4000000 in
set_option maxRecDepth 100000 in
theorem q_Text_worth_72 (hn : 46 ≤ nC) (K : Fx p s m args meth c b_Text_worth 7 R_Text (some .int)) (k4 : (St → Nat → Int32 → Nat → Int32 → Int32 → Option (Int32 × St))) (hk4 : ∀ (H : Heap) (locs : List Loc) (ls : Array Slot) (s0 : St) (v0 : Nat) (v2 : Int32) (v3 : Nat) (v4 : Int32) (v5 : Int32) (g_v0 : P_Text v0) (g_v3 : P_names v3), Wh D cA ad (shC.take nC) A s s0 H locs → lv_has ls 7 [(0, .ref (ad v0)), (2, .int v2), (3, .ref (ad v3)), (4, .int v4), (5, .int v5)] → k4 s0 v0 v2 v3 v4 v5 = (some (r, τ)) → W p l e rm_Text_worth s m args below meth c H locs 0 0 (MQ below (QcI D cA ad (shC.take nC) A r τ) args s 0 0 A) (F0 m 6 ls [])) : ∀ (H : Heap) (locs : List Loc) (ls : Array Slot) (s0 : St) (v0 : Nat) (v2 : Int32) (v3 : Nat) (v4 : Int32) (v5 : Int32) (t1 : Int32) (t2 : Int32) (g_v0 : P_Text v0) (g_v3 : P_names v3), Wh D cA ad (shC.take nC) A s s0 H locs → lv_has ls 7 [(0, .ref (ad v0)), (2, .int v2), (3, .ref (ad v3)), (4, .int v4), (5, .int v5)] → F_Text_worth_72 k4 s0 v0 v2 v3 v4 v5 t1 t2 = (some (r, τ)) → W p l e rm_Text_worth s m args below meth c H locs 0 0 (MQ below (QcI D cA ad (shC.take nC) A r τ) args s 0 0 A) (F0 m 72 ls [.int t2, .int t1, .ref (ad 7)]) := by
  have hx := K.1.1; have hb := K.1.2.1
  intro H locs ls s0 v0 v2 v3 v4 v5 t1 t2 g_v0 g_v3 hw hl hF
  unfold F_Text_worth_72 at hF
  obtain ⟨g_20, hF⟩ := ifG hF
  refine r_iast (k := t1.toNatClampNeg) K hw (sh_a7 (Nat.le_trans (Nat.le_of_ble_eq_true rfl) hn)) rfl (inB_vp g_20) d_Text_worth_72 (fun s_21 f_s_21 H locs hw => ?_)
  replace hF := ltN hF f_s_21
  refine lv_iinc (v := (v4 + 1)) (lv' := [(4, .int (v4 + 1)), (0, .ref (ad v0)), (2, .int v2), (3, .ref (ad v3)), (5, .int v5)]) hx hb d_Text_worth_73 hl (k := 3) rfl rfl (by decide) rfl (fun ls hl => ?_)
  refine lv_goto (tgt := 161) hx hb d_Text_worth_76 (by decide) ?_
  exact q_Text_worth_161 hn K k4 hk4 _ _ _ _ _ _ _ _ _ g_v0 g_v3 hw (lv_sub hl [1, 2, 3, 0, 4] rfl) hF
noncomputable def F_Text_worth_6 : Nat → St → Nat → Int32 → Nat → Int32 → Int32 → Option (Int32 × St)
  | 0, _, _, _, _, _, _ => none
  | n + 1, s0, v0, v2, v3, v4, v5 => (if v2 ≤ v5 then (F_Text_worth_167 s0 v0 v4) else (if (160 : Int32) ≤ v5 then (F_Text_worth_167 s0 v0 v4) else (if inB v5 160 = true then (if (s0.1 (v0 + 6) v5.toNatClampNeg) < (-6 : Int32) then (if (s0.1 (v0 + 6) v5.toNatClampNeg) < (-12 : Int32) then (if (2 : Int32) ≤ v4 then (if inB ((v4 + (-1)) - (1 : Int32)) 160 = true then (if inB (v4 + (-1)) 160 = true then (if inB ((v4 + (-1)) - (1 : Int32)) 160 = true then (lt (up1 s0 7 ((v4 + (-1)) - (1 : Int32)).toNatClampNeg (F_Text_ofTwo (s0.1 (v0 + 6) v5.toNatClampNeg) (s0.1 7 ((v4 + (-1)) - (1 : Int32)).toNatClampNeg) (s0.1 7 (v4 + (-1)).toNatClampNeg))) (fun s_12 => (F_Text_worth_161 (fun z0 zv0 zv2 zv3 zv4 zv5 => F_Text_worth_6 n z0 zv0 zv2 zv3 zv4 zv5) s_12 v0 v2 v3 (v4 + (-1)) v5))) else none) else none) else none) else (some ((0 : Int32), s0))) else (if (1 : Int32) ≤ v4 then (if inB (v4 - (1 : Int32)) 160 = true then (if inB (v4 - (1 : Int32)) 160 = true then (lt (up1 s0 7 (v4 - (1 : Int32)).toNatClampNeg (F_Text_ofOne (s0.1 (v0 + 6) v5.toNatClampNeg) (s0.1 7 (v4 - (1 : Int32)).toNatClampNeg))) (fun s_16 => (F_Text_worth_161 (fun z0 zv0 zv2 zv3 zv4 zv5 => F_Text_worth_6 n z0 zv0 zv2 zv3 zv4 zv5) s_16 v0 v2 v3 v4 v5))) else none) else none) else (some ((0 : Int32), s0)))) else (if v4 < (160 : Int32) then (if (s0.1 (v0 + 6) v5.toNatClampNeg) < 0 then (if inB ((-1 : Int32) - (s0.1 (v0 + 6) v5.toNatClampNeg)) 6 = true then (F_Text_worth_72 (fun z0 zv0 zv2 zv3 zv4 zv5 => F_Text_worth_6 n z0 zv0 zv2 zv3 zv4 zv5) s0 v0 v2 v3 v4 v5 v4 (s0.1 v3 ((-1 : Int32) - (s0.1 (v0 + 6) v5.toNatClampNeg)).toNatClampNeg)) else none) else (F_Text_worth_72 (fun z0 zv0 zv2 zv3 zv4 zv5 => F_Text_worth_6 n z0 zv0 zv2 zv3 zv4 zv5) s0 v0 v2 v3 v4 v5 v4 (s0.1 (v0 + 6) v5.toNatClampNeg))) else (some ((0 : Int32), s0)))) else none)))
set_option maxHeartbeats 4000000 in
set_option maxRecDepth 100000 in
theorem q_Text_worth_6 (hn : 46 ≤ nC) (K : Fx p s m args meth c b_Text_worth 7 R_Text (some .int))  : ∀ (n : Nat), ∀ (H : Heap) (locs : List Loc) (ls : Array Slot) (s0 : St) (v0 : Nat) (v2 : Int32) (v3 : Nat) (v4 : Int32) (v5 : Int32) (g_v0 : P_Text v0) (g_v3 : P_names v3), Wh D cA ad (shC.take nC) A s s0 H locs → lv_has ls 7 [(0, .ref (ad v0)), (2, .int v2), (3, .ref (ad v3)), (4, .int v4), (5, .int v5)] → F_Text_worth_6 n s0 v0 v2 v3 v4 v5 = (some (r, τ)) → W p l e rm_Text_worth s m args below meth c H locs 0 0 (MQ below (QcI D cA ad (shC.take nC) A r τ) args s 0 0 A) (F0 m 6 ls []) := by
  have hx := K.1.1; have hb := K.1.2.1
  intro n
  induction n with
  | zero =>
    intro H locs ls s0 v0 v2 v3 v4 v5 g_v0 g_v3 hw hl hF
    exact absurd hF (by rw [F_Text_worth_6]; exact nofun)
  | succ n ih =>
    intro H locs ls s0 v0 v2 v3 v4 v5 g_v0 g_v3 hw hl hF
    rw [F_Text_worth_6] at hF
    refine lv_iload hx hb d_Text_worth_6 (lv_at hl 4 rfl) ?_
    refine lv_iload_n hx hb d_Text_worth_8 rfl (lv_at hl 1 rfl) ?_
    refine lv_icmp_ge (tgt := 167) hx hb d_Text_worth_9 (by decide) (fun c_1 => ?_) (fun c_1 => ?_)
    · replace hF := ifT hF c_1
      exact q_Text_worth_167 hn K _ _ _ _ _ _ g_v0 hw (lv_sub hl [0, 3] rfl) hF
    · replace hF := ifF hF c_1
      refine lv_iload hx hb d_Text_worth_12 (lv_at hl 4 rfl) ?_
      refine lv_aload_n hx hb d_Text_worth_14 rfl (lv_at hl 0 rfl) ?_
      refine r_get (v := .ref (ad (v0 + 6))) K hw i_Text (sh_Text g_v0 (Nat.le_trans (Nat.le_of_ble_eq_true rfl) hn)) rfl 1 (by decide) w_208 rfl rfl rfl d_Text_worth_15 ?_
      refine r_alen (v := 160) K hw (sh_stepsOf g_v0 (Nat.le_trans (Nat.le_of_ble_eq_true rfl) hn)) (by decide) d_Text_worth_18 ?_
      refine lv_icmp_ge (tgt := 167) hx hb d_Text_worth_19 (by decide) (fun c_4 => ?_) (fun c_4 => ?_)
      · replace hF := ifT hF c_4
        exact q_Text_worth_167 hn K _ _ _ _ _ _ g_v0 hw (lv_sub hl [0, 3] rfl) hF
      · replace hF := ifF hF c_4
        refine lv_aload_n hx hb d_Text_worth_22 rfl (lv_at hl 0 rfl) ?_
        refine r_get (v := .ref (ad (v0 + 6))) K hw i_Text (sh_Text g_v0 (Nat.le_trans (Nat.le_of_ble_eq_true rfl) hn)) rfl 1 (by decide) w_208 rfl rfl rfl d_Text_worth_23 ?_
        refine lv_iload hx hb d_Text_worth_26 (lv_at hl 4 rfl) ?_
        obtain ⟨g_5, hF⟩ := ifG hF
        refine r_iald (k := v5.toNatClampNeg) K hw (sh_stepsOf g_v0 (Nat.le_trans (Nat.le_of_ble_eq_true rfl) hn)) rfl (inB_vp g_5) d_Text_worth_28 ?_
        refine lv_istore (lv' := [(6, .int (s0.1 (v0 + 6) v5.toNatClampNeg)), (0, .ref (ad v0)), (2, .int v2), (3, .ref (ad v3)), (4, .int v4), (5, .int v5)]) hx hb d_Text_worth_29 hl (by decide) rfl (fun ls hl => ?_)
        refine lv_iload hx hb d_Text_worth_31 (lv_at hl 0 rfl) ?_
        refine lv_bipush (v := -6) hx hb d_Text_worth_33 (by decide) ?_
        refine lv_icmp_lt (tgt := 79) hx hb d_Text_worth_35 (by decide) (fun c_6 => ?_) (fun c_6 => ?_)
        · replace hF := ifT hF c_6
          refine lv_iload hx hb d_Text_worth_79 (lv_at hl 0 rfl) ?_
          refine lv_bipush (v := -12) hx hb d_Text_worth_81 (by decide) ?_
          refine lv_icmp_lt (tgt := 120) hx hb d_Text_worth_83 (by decide) (fun c_7 => ?_) (fun c_7 => ?_)
          · replace hF := ifT hF c_7
            refine lv_iload hx hb d_Text_worth_120 (lv_at hl 4 rfl) ?_
            refine lv_iconst (v := 2) hx hb d_Text_worth_122 (by decide) ?_
            refine lv_icmp_ge (tgt := 128) hx hb d_Text_worth_123 (by decide) (fun c_8 => ?_) (fun c_8 => ?_)
            · replace hF := ifT hF c_8
              refine lv_iinc (v := (v4 + (-1))) (lv' := [(4, .int (v4 + (-1))), (6, .int (s0.1 (v0 + 6) v5.toNatClampNeg)), (0, .ref (ad v0)), (2, .int v2), (3, .ref (ad v3)), (5, .int v5)]) hx hb d_Text_worth_128 hl (k := 4) rfl rfl (by decide) rfl (fun ls hl => ?_)
              refine lv_aload_n hx hb d_Text_worth_131 rfl (lv_at hl 2 rfl) ?_
              refine r_get (v := .ref (ad 7)) K hw i_Text (sh_Text g_v0 (Nat.le_trans (Nat.le_of_ble_eq_true rfl) hn)) rfl 0 (by decide) w_207 rfl rfl rfl d_Text_worth_132 ?_
              refine lv_iload hx hb d_Text_worth_135 (lv_at hl 0 rfl) ?_
              refine lv_iconst (v := 1) hx hb d_Text_worth_137 (by decide) ?_
              refine lv_isub hx hb d_Text_worth_138 ?_
              refine lv_iload hx hb d_Text_worth_139 (lv_at hl 1 rfl) ?_
              refine lv_aload_n hx hb d_Text_worth_141 rfl (lv_at hl 2 rfl) ?_
              refine r_get (v := .ref (ad 7)) K hw i_Text (sh_Text g_v0 (Nat.le_trans (Nat.le_of_ble_eq_true rfl) hn)) rfl 0 (by decide) w_207 rfl rfl rfl d_Text_worth_142 ?_
              refine lv_iload hx hb d_Text_worth_145 (lv_at hl 0 rfl) ?_
              refine lv_iconst (v := 1) hx hb d_Text_worth_147 (by decide) ?_
              refine lv_isub hx hb d_Text_worth_148 ?_
              obtain ⟨g_9, hF⟩ := ifG hF
              refine r_iald (k := ((v4 + (-1)) - (1 : Int32)).toNatClampNeg) K hw (sh_a7 (Nat.le_trans (Nat.le_of_ble_eq_true rfl) hn)) rfl (inB_vp g_9) d_Text_worth_149 ?_
              refine lv_aload_n hx hb d_Text_worth_150 rfl (lv_at hl 2 rfl) ?_
              refine r_get (v := .ref (ad 7)) K hw i_Text (sh_Text g_v0 (Nat.le_trans (Nat.le_of_ble_eq_true rfl) hn)) rfl 0 (by decide) w_207 rfl rfl rfl d_Text_worth_151 ?_
              refine lv_iload hx hb d_Text_worth_154 (lv_at hl 0 rfl) ?_
              obtain ⟨g_10, hF⟩ := ifG hF
              refine r_iald (k := (v4 + (-1)).toNatClampNeg) K hw (sh_a7 (Nat.le_trans (Nat.le_of_ble_eq_true rfl) hn)) rfl (inB_vp g_10) d_Text_worth_156 ?_
              refine r_callSI (As := [.int (s0.1 (v0 + 6) v5.toNatClampNeg), .int (s0.1 7 ((v4 + (-1)) - (1 : Int32)).toNatClampNeg), .int (s0.1 7 (v4 + (-1)).toNatClampNeg)]) (rest := [.int ((v4 + (-1)) - (1 : Int32)), .ref (ad 7)]) K hw hl.1 (c_Text_ofTwo (l := l) (D := D) (cA := cA) (ad := ad) (s0 := s0) (Nat.le_trans (Nat.le_of_ble_eq_true rfl) hn)  rfl) (tb_gS w_679 w_680 w_68 w_681) a_Text_ofTwo ⟨rfl, rfl, Nat.le_of_ble_eq_true rfl, Nat.le_of_ble_eq_true rfl⟩ rfl rfl (Nat.le_of_ble_eq_true rfl) d_Text_worth_157 (fun H locs hw => ?_)
              obtain ⟨g_11, hF⟩ := ifG hF
              refine r_iast (k := ((v4 + (-1)) - (1 : Int32)).toNatClampNeg) K hw (sh_a7 (Nat.le_trans (Nat.le_of_ble_eq_true rfl) hn)) rfl (inB_vp g_11) d_Text_worth_160 (fun s_12 f_s_12 H locs hw => ?_)
              replace hF := ltN hF f_s_12
              exact q_Text_worth_161 hn K (fun z0 zv0 zv2 zv3 zv4 zv5 => F_Text_worth_6 n z0 zv0 zv2 zv3 zv4 zv5) ih _ _ _ _ _ _ _ _ _ g_v0 g_v3 hw (lv_sub hl [2, 3, 4, 0, 5] rfl) hF
            · replace hF := ifF hF c_8
              refine lv_iconst (v := 0) hx hb d_Text_worth_126 (by decide) ?_
              obtain ⟨hF, hG⟩ := sE2 hF
              subst hF
              subst hG
              exact r_iret K hw d_Text_worth_127
          · replace hF := ifF hF c_7
            refine lv_iload hx hb d_Text_worth_86 (lv_at hl 4 rfl) ?_
            refine lv_iconst (v := 1) hx hb d_Text_worth_88 (by decide) ?_
            refine lv_icmp_ge (tgt := 94) hx hb d_Text_worth_89 (by decide) (fun c_13 => ?_) (fun c_13 => ?_)
            · replace hF := ifT hF c_13
              refine lv_aload_n hx hb d_Text_worth_94 rfl (lv_at hl 1 rfl) ?_
              refine r_get (v := .ref (ad 7)) K hw i_Text (sh_Text g_v0 (Nat.le_trans (Nat.le_of_ble_eq_true rfl) hn)) rfl 0 (by decide) w_207 rfl rfl rfl d_Text_worth_95 ?_
              refine lv_iload hx hb d_Text_worth_98 (lv_at hl 4 rfl) ?_
              refine lv_iconst (v := 1) hx hb d_Text_worth_100 (by decide) ?_
              refine lv_isub hx hb d_Text_worth_101 ?_
              refine lv_iload hx hb d_Text_worth_102 (lv_at hl 0 rfl) ?_
              refine lv_aload_n hx hb d_Text_worth_104 rfl (lv_at hl 1 rfl) ?_
              refine r_get (v := .ref (ad 7)) K hw i_Text (sh_Text g_v0 (Nat.le_trans (Nat.le_of_ble_eq_true rfl) hn)) rfl 0 (by decide) w_207 rfl rfl rfl d_Text_worth_105 ?_
              refine lv_iload hx hb d_Text_worth_108 (lv_at hl 4 rfl) ?_
              refine lv_iconst (v := 1) hx hb d_Text_worth_110 (by decide) ?_
              refine lv_isub hx hb d_Text_worth_111 ?_
              obtain ⟨g_14, hF⟩ := ifG hF
              refine r_iald (k := (v4 - (1 : Int32)).toNatClampNeg) K hw (sh_a7 (Nat.le_trans (Nat.le_of_ble_eq_true rfl) hn)) rfl (inB_vp g_14) d_Text_worth_112 ?_
              refine r_callSI (As := [.int (s0.1 (v0 + 6) v5.toNatClampNeg), .int (s0.1 7 (v4 - (1 : Int32)).toNatClampNeg)]) (rest := [.int (v4 - (1 : Int32)), .ref (ad 7)]) K hw hl.1 (c_Text_ofOne (l := l) (D := D) (cA := cA) (ad := ad) (s0 := s0) (Nat.le_trans (Nat.le_of_ble_eq_true rfl) hn)  rfl) (tb_gS w_676 w_677 w_68 w_678) a_Text_ofOne ⟨rfl, rfl, Nat.le_of_ble_eq_true rfl, Nat.le_of_ble_eq_true rfl⟩ rfl rfl (Nat.le_of_ble_eq_true rfl) d_Text_worth_113 (fun H locs hw => ?_)
              obtain ⟨g_15, hF⟩ := ifG hF
              refine r_iast (k := (v4 - (1 : Int32)).toNatClampNeg) K hw (sh_a7 (Nat.le_trans (Nat.le_of_ble_eq_true rfl) hn)) rfl (inB_vp g_15) d_Text_worth_116 (fun s_16 f_s_16 H locs hw => ?_)
              replace hF := ltN hF f_s_16
              refine lv_goto (tgt := 161) hx hb d_Text_worth_117 (by decide) ?_
              exact q_Text_worth_161 hn K (fun z0 zv0 zv2 zv3 zv4 zv5 => F_Text_worth_6 n z0 zv0 zv2 zv3 zv4 zv5) ih _ _ _ _ _ _ _ _ _ g_v0 g_v3 hw (lv_sub hl [1, 2, 3, 4, 5] rfl) hF
            · replace hF := ifF hF c_13
              refine lv_iconst (v := 0) hx hb d_Text_worth_92 (by decide) ?_
              obtain ⟨hF, hG⟩ := sE2 hF
              subst hF
              subst hG
              exact r_iret K hw d_Text_worth_93
        · replace hF := ifF hF c_6
          refine lv_iload hx hb d_Text_worth_38 (lv_at hl 4 rfl) ?_
          refine lv_aload_n hx hb d_Text_worth_40 rfl (lv_at hl 1 rfl) ?_
          refine r_get (v := .ref (ad 7)) K hw i_Text (sh_Text g_v0 (Nat.le_trans (Nat.le_of_ble_eq_true rfl) hn)) rfl 0 (by decide) w_207 rfl rfl rfl d_Text_worth_41 ?_
          refine r_alen (v := 160) K hw (sh_a7 (Nat.le_trans (Nat.le_of_ble_eq_true rfl) hn)) (by decide) d_Text_worth_44 ?_
          refine lv_icmp_lt (tgt := 50) hx hb d_Text_worth_45 (by decide) (fun c_17 => ?_) (fun c_17 => ?_)
          · replace hF := ifT hF c_17
            refine lv_aload_n hx hb d_Text_worth_50 rfl (lv_at hl 1 rfl) ?_
            refine r_get (v := .ref (ad 7)) K hw i_Text (sh_Text g_v0 (Nat.le_trans (Nat.le_of_ble_eq_true rfl) hn)) rfl 0 (by decide) w_207 rfl rfl rfl d_Text_worth_51 ?_
            refine lv_iload hx hb d_Text_worth_54 (lv_at hl 4 rfl) ?_
            refine lv_iload hx hb d_Text_worth_56 (lv_at hl 0 rfl) ?_
            refine lv_if_lt (tgt := 66) hx hb d_Text_worth_58 (by decide) (fun c_18 => ?_) (fun c_18 => ?_)
            · replace hF := ifT hF c_18
              refine lv_aload_n hx hb d_Text_worth_66 rfl (lv_at hl 3 rfl) ?_
              refine lv_iconst (v := -1) hx hb d_Text_worth_67 (by decide) ?_
              refine lv_iload hx hb d_Text_worth_68 (lv_at hl 0 rfl) ?_
              refine lv_isub hx hb d_Text_worth_70 ?_
              obtain ⟨g_19, hF⟩ := ifG hF
              refine r_iald (k := ((-1 : Int32) - (s0.1 (v0 + 6) v5.toNatClampNeg)).toNatClampNeg) K hw (sh_names g_v3 (Nat.le_trans (Nat.le_of_ble_eq_true rfl) hn)) rfl (inB_vp g_19) d_Text_worth_71 ?_
              exact q_Text_worth_72 hn K (fun z0 zv0 zv2 zv3 zv4 zv5 => F_Text_worth_6 n z0 zv0 zv2 zv3 zv4 zv5) ih _ _ _ _ _ _ _ _ _ _ _ g_v0 g_v3 hw (lv_sub hl [1, 2, 3, 4, 5] rfl) hF
            · replace hF := ifF hF c_18
              refine lv_iload hx hb d_Text_worth_61 (lv_at hl 0 rfl) ?_
              refine lv_goto (tgt := 72) hx hb d_Text_worth_63 (by decide) ?_
              exact q_Text_worth_72 hn K (fun z0 zv0 zv2 zv3 zv4 zv5 => F_Text_worth_6 n z0 zv0 zv2 zv3 zv4 zv5) ih _ _ _ _ _ _ _ _ _ _ _ g_v0 g_v3 hw (lv_sub hl [1, 2, 3, 4, 5] rfl) hF
          · replace hF := ifF hF c_17
            refine lv_iconst (v := 0) hx hb d_Text_worth_48 (by decide) ?_
            obtain ⟨hF, hG⟩ := sE2 hF
            subst hF
            subst hG
            exact r_iret K hw d_Text_worth_49
noncomputable def F_Text_worth_0 (s0 : St) (v0 : Nat) (v1 : Int32) (v2 : Int32) (v3 : Nat) : Option (Int32 × St) := (F_Text_worth_6 FU s0 v0 v2 v3 (0 : Int32) v1)
set_option maxHeartbeats 4000000 in
set_option maxRecDepth 100000 in
theorem q_Text_worth_0 (hn : 46 ≤ nC) (K : Fx p s m args meth c b_Text_worth 7 R_Text (some .int))  : ∀ (H : Heap) (locs : List Loc) (ls : Array Slot) (s0 : St) (v0 : Nat) (v1 : Int32) (v2 : Int32) (v3 : Nat) (g_v0 : P_Text v0) (g_v3 : P_names v3), Wh D cA ad (shC.take nC) A s s0 H locs → lv_has ls 7 [(0, .ref (ad v0)), (1, .int v1), (2, .int v2), (3, .ref (ad v3))] → F_Text_worth_0 s0 v0 v1 v2 v3 = (some (r, τ)) → W p l e rm_Text_worth s m args below meth c H locs 0 0 (MQ below (QcI D cA ad (shC.take nC) A r τ) args s 0 0 A) (F0 m 0 ls []) := by
  have hx := K.1.1; have hb := K.1.2.1
  intro H locs ls s0 v0 v1 v2 v3 g_v0 g_v3 hw hl hF
  unfold F_Text_worth_0 at hF
  refine lv_iconst (v := 0) hx hb d_Text_worth_0 (by decide) ?_
  refine lv_istore (lv' := [(4, .int (0 : Int32)), (0, .ref (ad v0)), (1, .int v1), (2, .int v2), (3, .ref (ad v3))]) hx hb d_Text_worth_1 hl (by decide) rfl (fun ls hl => ?_)
  refine lv_iload_n hx hb d_Text_worth_3 rfl (lv_at hl 2 rfl) ?_
  refine lv_istore (lv' := [(5, .int v1), (4, .int (0 : Int32)), (0, .ref (ad v0)), (1, .int v1), (2, .int v2), (3, .ref (ad v3))]) hx hb d_Text_worth_4 hl (by decide) rfl (fun ls hl => ?_)
  exact q_Text_worth_6 hn K FU _ _ _ _ _ _ _ _ _ g_v0 g_v3 hw (lv_sub hl [2, 4, 5, 1, 0] rfl) hF
end S_Text_worth
noncomputable abbrev F_Text_worth := F_Text_worth_0
theorem c_Text_worth {l : Launch} {D : va_G} {cA : Nat → ClassId} {ad : Nat → Nat} {s0 τ : St} {nC : Nat} (hn : 46 ≤ nC) {r : Int32} {v0 : Nat} {v1 : Int32} {v2 : Int32} {v3 : Nat} (g_v0 : P_Text v0) (g_v3 : P_names v3) (hF : F_Text_worth s0 v0 v1 v2 v3 = (some (r, τ))) : MI l D cA ad (shC.take nC) y_Text_worth (wT y_Text_worth b_Text_worth 7 (some .int)) rm_Text_worth [.ref (ad v0), .int v1, .int v2, .ref (ad v3)] s0 r τ := fun sz => m_start (Qc := fun A => QcI D cA ad (shC.take nC) A r τ) (by decide +kernel) w_675 (Nat.le_of_ble_eq_true rfl) (fun p e s m below meth c ls K hl hw => q_Text_worth_0 hn K _ _ _ _ _ _ _ _ g_v0 g_v3 hw hl hF)

/-! Text.says(I[I)I -/
abbrev b_Text_says : ByteArray := prog_10_method_5_code
def y_Text_says : MethodName := ⟨R_Text, "says", "(I[I)I"⟩
theorem a_Text_says : y_Text_says.cls = R_Text ∧ y_Text_says.cls ≠ "java/lang/invoke/MethodHandle" ∧ y_Text_says.cls ≠ "java/lang/invoke/VarHandle" ∧ (parseMethodDescriptor y_Text_says.desc).map (fun d => d.parameters.length) = some 2 := by decide +kernel
abbrev rm_Text_says : Room := { frames := 2, cells := 0, slots := 0, locals := 48 }
theorem w_672 : Cond.methodLink R_Text 28 y_Text_worth ∈ TB := tb_in 672 (by decide +kernel) (by decide +kernel)
theorem w_674 : Cond.instanceMethod y_Text_worth ∈ TB := tb_in 674 (by decide +kernel) (by decide +kernel)
theorem w_14 : Cond.selects R_Text y_Text_worth y_Text_worth ∈ TB := tb_in 14 (by decide +kernel) (by decide +kernel)
theorem w_683 : Cond.static y_Main_bounded ∈ TB := tb_in 683 (by decide +kernel) (by decide +kernel)
theorem w_671 : Cond.code y_Text_says b_Text_says 3 (some .int) ∈ TB := tb_in 671 (by decide +kernel) (by decide +kernel)
theorem nw_682 : Cond.methodLinkNest R_Text 32 y_Main_bounded R_Main ∈ NWS := List.mem_of_getElem? (i := 5) (by decide +kernel)
theorem d_Text_says_0 : decode b_Text_says 0 = .ok (.iload_n 1, 1) := by decide +kernel
theorem d_Text_says_1 : decode b_Text_says 1 = .ok (.lookupswitch 65 #[(0, 27), (1, 45)], 27) := by decide +kernel
theorem d_Text_says_28 : decode b_Text_says 28 = .ok (.aload_n 0, 1) := by decide +kernel
theorem d_Text_says_29 : decode b_Text_says 29 = .ok (.iconst 0, 1) := by decide +kernel
theorem d_Text_says_30 : decode b_Text_says 30 = .ok (.aload_n 0, 1) := by decide +kernel
theorem d_Text_says_31 : decode b_Text_says 31 = .ok (.getfield 22, 3) := by decide +kernel
theorem d_Text_says_34 : decode b_Text_says 34 = .ok (.aload_n 2, 1) := by decide +kernel
theorem d_Text_says_35 : decode b_Text_says 35 = .ok (.invokevirtual 28, 3) := by decide +kernel
theorem d_Text_says_38 : decode b_Text_says 38 = .ok (.iconst 0, 1) := by decide +kernel
theorem d_Text_says_39 : decode b_Text_says 39 = .ok (.sipush 200, 3) := by decide +kernel
theorem d_Text_says_42 : decode b_Text_says 42 = .ok (.invokestatic 32, 3) := by decide +kernel
theorem d_Text_says_45 : decode b_Text_says 45 = .ok (.ireturn, 1) := by decide +kernel
theorem d_Text_says_46 : decode b_Text_says 46 = .ok (.aload_n 0, 1) := by decide +kernel
theorem d_Text_says_47 : decode b_Text_says 47 = .ok (.aload_n 0, 1) := by decide +kernel
theorem d_Text_says_48 : decode b_Text_says 48 = .ok (.getfield 22, 3) := by decide +kernel
theorem d_Text_says_51 : decode b_Text_says 51 = .ok (.aload_n 0, 1) := by decide +kernel
theorem d_Text_says_52 : decode b_Text_says 52 = .ok (.getfield 25, 3) := by decide +kernel
theorem d_Text_says_55 : decode b_Text_says 55 = .ok (.aload_n 2, 1) := by decide +kernel
theorem d_Text_says_56 : decode b_Text_says 56 = .ok (.invokevirtual 28, 3) := by decide +kernel
theorem d_Text_says_59 : decode b_Text_says 59 = .ok (.iconst 0, 1) := by decide +kernel
theorem d_Text_says_60 : decode b_Text_says 60 = .ok (.bipush 9, 2) := by decide +kernel
theorem d_Text_says_62 : decode b_Text_says 62 = .ok (.invokestatic 32, 3) := by decide +kernel
theorem d_Text_says_65 : decode b_Text_says 65 = .ok (.ireturn, 1) := by decide +kernel
theorem d_Text_says_66 : decode b_Text_says 66 = .ok (.aload_n 0, 1) := by decide +kernel
theorem d_Text_says_67 : decode b_Text_says 67 = .ok (.aload_n 0, 1) := by decide +kernel
theorem d_Text_says_68 : decode b_Text_says 68 = .ok (.getfield 25, 3) := by decide +kernel
theorem d_Text_says_71 : decode b_Text_says 71 = .ok (.aload_n 0, 1) := by decide +kernel
theorem d_Text_says_72 : decode b_Text_says 72 = .ok (.getfield 18, 3) := by decide +kernel
theorem d_Text_says_75 : decode b_Text_says 75 = .ok (.aload_n 2, 1) := by decide +kernel
theorem d_Text_says_76 : decode b_Text_says 76 = .ok (.invokevirtual 28, 3) := by decide +kernel
theorem d_Text_says_79 : decode b_Text_says 79 = .ok (.iconst 0, 1) := by decide +kernel
theorem d_Text_says_80 : decode b_Text_says 80 = .ok (.bipush 100, 2) := by decide +kernel
theorem d_Text_says_82 : decode b_Text_says 82 = .ok (.invokestatic 32, 3) := by decide +kernel
theorem d_Text_says_85 : decode b_Text_says 85 = .ok (.ireturn, 1) := by decide +kernel
section S_Text_says
variable {p : Program} {l : Launch} {e : Env} {s : State} {m : MethodId} {args : Array Value} {below : List Frame} {meth : Method} {c : Code} {D : va_G} {cA : Nat → ClassId} {ad : Nat → Nat} {nC : Nat} {A : Nat → Prop} {r : Int32} {τ : St}
noncomputable def F_Text_says_0 (s0 : St) (v0 : Nat) (v1 : Int32) (v2 : Nat) : Option (Int32 × St) := (if v1 = 0 then (ob2 (F_Text_worth s0 v0 (0 : Int32) (s0.1 v0 3) v2) (fun r_2 s_3 => (some ((F_Main_bounded r_2 (0 : Int32) (200 : Int32)), s_3)))) else (if v1 = 1 then (ob2 (F_Text_worth s0 v0 (s0.1 v0 3) (s0.1 v0 4) v2) (fun r_5 s_6 => (some ((F_Main_bounded r_5 (0 : Int32) (9 : Int32)), s_6)))) else (ob2 (F_Text_worth s0 v0 (s0.1 v0 4) (s0.1 v0 2) v2) (fun r_7 s_8 => (some ((F_Main_bounded r_7 (0 : Int32) (100 : Int32)), s_8))))))
set_option maxHeartbeats 4000000 in
set_option maxRecDepth 100000 in
theorem q_Text_says_0 (hn : 46 ≤ nC) (K : Fx p s m args meth c b_Text_says 3 R_Text (some .int))  : ∀ (H : Heap) (locs : List Loc) (ls : Array Slot) (s0 : St) (v0 : Nat) (v1 : Int32) (v2 : Nat) (g_v0 : P_Text v0) (g_v2 : P_names v2), Wh D cA ad (shC.take nC) A s s0 H locs → lv_has ls 3 [(0, .ref (ad v0)), (1, .int v1), (2, .ref (ad v2))] → F_Text_says_0 s0 v0 v1 v2 = (some (r, τ)) → W p l e rm_Text_says s m args below meth c H locs 0 0 (MQ below (QcI D cA ad (shC.take nC) A r τ) args s 0 0 A) (F0 m 0 ls []) := by
  have hx := K.1.1; have hb := K.1.2.1
  intro H locs ls s0 v0 v1 v2 g_v0 g_v2 hw hl hF
  unfold F_Text_says_0 at hF
  refine lv_iload_n hx hb d_Text_says_0 rfl (lv_at hl 1 rfl) ?_
  by_cases c_1 : v1 = 0
  · replace hF := ifT hF c_1
    refine lv_lookup (tgt := 28) hx hb d_Text_says_1 (by decide) (by rw [c_1] <;> rfl) (by decide) ?_
    refine lv_aload_n hx hb d_Text_says_28 rfl (lv_at hl 0 rfl) ?_
    refine lv_iconst (v := 0) hx hb d_Text_says_29 (by decide) ?_
    refine lv_aload_n hx hb d_Text_says_30 rfl (lv_at hl 0 rfl) ?_
    refine r_get (v := .int (s0.1 v0 3)) K hw i_Text (sh_Text g_v0 (Nat.le_trans (Nat.le_of_ble_eq_true rfl) hn)) rfl 3 (by decide) w_210 rfl rfl rfl d_Text_says_31 ?_
    refine lv_aload_n hx hb d_Text_says_34 rfl (lv_at hl 2 rfl) ?_
    obtain ⟨r_2, s_3, h_s_3, hF⟩ := ob2E hF
    refine r_callVI (As := [.int (0 : Int32), .int (s0.1 v0 3), .ref (ad v2)]) (rest := []) K hw hl.1 (c_Text_worth (l := l) (D := D) (cA := cA) (ad := ad) (s0 := s0) (Nat.le_trans (Nat.le_of_ble_eq_true rfl) hn) g_v0 g_v2 h_s_3) (sh_Text g_v0 (Nat.le_trans (Nat.le_of_ble_eq_true rfl) hn)) rfl (tb_gV w_672 w_674 w_14 w_68 w_675) a_Text_worth ⟨rfl, rfl, Nat.le_of_ble_eq_true rfl, Nat.le_of_ble_eq_true rfl⟩ rfl rfl (Nat.le_of_ble_eq_true rfl) d_Text_says_35 (fun H locs hw => ?_)
    refine lv_iconst (v := 0) hx hb d_Text_says_38 (by decide) ?_
    refine lv_sipush (v := 200) hx hb d_Text_says_39 (by decide) ?_
    refine r_callNI (As := [.int r_2, .int (0 : Int32), .int (200 : Int32)]) (rest := []) K hw hl.1 (c_Main_bounded (l := l) (D := D) (cA := cA) (ad := ad) (s0 := s_3) (Nat.le_trans (Nat.le_of_ble_eq_true rfl) hn)  rfl) (nw_682) w_683 w_63 w_684 a_Main_bounded.2 ⟨rfl, rfl, Nat.le_of_ble_eq_true rfl, Nat.le_of_ble_eq_true rfl⟩ rfl rfl (Nat.le_of_ble_eq_true rfl) d_Text_says_42 (fun H locs hw => ?_)
    obtain ⟨hF, hG⟩ := sE2 hF
    subst hF
    subst hG
    exact r_iret K hw d_Text_says_45
  replace hF := ifF hF c_1
  by_cases c_4 : v1 = 1
  · replace hF := ifT hF c_4
    refine lv_lookup (tgt := 46) hx hb d_Text_says_1 (by decide) (by rw [c_4] <;> rfl) (by decide) ?_
    refine lv_aload_n hx hb d_Text_says_46 rfl (lv_at hl 0 rfl) ?_
    refine lv_aload_n hx hb d_Text_says_47 rfl (lv_at hl 0 rfl) ?_
    refine r_get (v := .int (s0.1 v0 3)) K hw i_Text (sh_Text g_v0 (Nat.le_trans (Nat.le_of_ble_eq_true rfl) hn)) rfl 3 (by decide) w_210 rfl rfl rfl d_Text_says_48 ?_
    refine lv_aload_n hx hb d_Text_says_51 rfl (lv_at hl 0 rfl) ?_
    refine r_get (v := .int (s0.1 v0 4)) K hw i_Text (sh_Text g_v0 (Nat.le_trans (Nat.le_of_ble_eq_true rfl) hn)) rfl 4 (by decide) w_211 rfl rfl rfl d_Text_says_52 ?_
    refine lv_aload_n hx hb d_Text_says_55 rfl (lv_at hl 2 rfl) ?_
    obtain ⟨r_5, s_6, h_s_6, hF⟩ := ob2E hF
    refine r_callVI (As := [.int (s0.1 v0 3), .int (s0.1 v0 4), .ref (ad v2)]) (rest := []) K hw hl.1 (c_Text_worth (l := l) (D := D) (cA := cA) (ad := ad) (s0 := s0) (Nat.le_trans (Nat.le_of_ble_eq_true rfl) hn) g_v0 g_v2 h_s_6) (sh_Text g_v0 (Nat.le_trans (Nat.le_of_ble_eq_true rfl) hn)) rfl (tb_gV w_672 w_674 w_14 w_68 w_675) a_Text_worth ⟨rfl, rfl, Nat.le_of_ble_eq_true rfl, Nat.le_of_ble_eq_true rfl⟩ rfl rfl (Nat.le_of_ble_eq_true rfl) d_Text_says_56 (fun H locs hw => ?_)
    refine lv_iconst (v := 0) hx hb d_Text_says_59 (by decide) ?_
    refine lv_bipush (v := 9) hx hb d_Text_says_60 (by decide) ?_
    refine r_callNI (As := [.int r_5, .int (0 : Int32), .int (9 : Int32)]) (rest := []) K hw hl.1 (c_Main_bounded (l := l) (D := D) (cA := cA) (ad := ad) (s0 := s_6) (Nat.le_trans (Nat.le_of_ble_eq_true rfl) hn)  rfl) (nw_682) w_683 w_63 w_684 a_Main_bounded.2 ⟨rfl, rfl, Nat.le_of_ble_eq_true rfl, Nat.le_of_ble_eq_true rfl⟩ rfl rfl (Nat.le_of_ble_eq_true rfl) d_Text_says_62 (fun H locs hw => ?_)
    obtain ⟨hF, hG⟩ := sE2 hF
    subst hF
    subst hG
    exact r_iret K hw d_Text_says_65
  replace hF := ifF hF c_4
  have nc_1 : ¬ (v1).toInt = 0 := lv_neT c_1 rfl
  have nc_4 : ¬ (v1).toInt = 1 := lv_neT c_4 rfl
  refine lv_lookup (off := 65) (tgt := 66) hx hb d_Text_says_1 (by decide) (by exact (lv_osw c_1 rfl).trans ((lv_osw c_4 rfl).trans (rfl))) (by decide) ?_
  refine lv_aload_n hx hb d_Text_says_66 rfl (lv_at hl 0 rfl) ?_
  refine lv_aload_n hx hb d_Text_says_67 rfl (lv_at hl 0 rfl) ?_
  refine r_get (v := .int (s0.1 v0 4)) K hw i_Text (sh_Text g_v0 (Nat.le_trans (Nat.le_of_ble_eq_true rfl) hn)) rfl 4 (by decide) w_211 rfl rfl rfl d_Text_says_68 ?_
  refine lv_aload_n hx hb d_Text_says_71 rfl (lv_at hl 0 rfl) ?_
  refine r_get (v := .int (s0.1 v0 2)) K hw i_Text (sh_Text g_v0 (Nat.le_trans (Nat.le_of_ble_eq_true rfl) hn)) rfl 2 (by decide) w_209 rfl rfl rfl d_Text_says_72 ?_
  refine lv_aload_n hx hb d_Text_says_75 rfl (lv_at hl 2 rfl) ?_
  obtain ⟨r_7, s_8, h_s_8, hF⟩ := ob2E hF
  refine r_callVI (As := [.int (s0.1 v0 4), .int (s0.1 v0 2), .ref (ad v2)]) (rest := []) K hw hl.1 (c_Text_worth (l := l) (D := D) (cA := cA) (ad := ad) (s0 := s0) (Nat.le_trans (Nat.le_of_ble_eq_true rfl) hn) g_v0 g_v2 h_s_8) (sh_Text g_v0 (Nat.le_trans (Nat.le_of_ble_eq_true rfl) hn)) rfl (tb_gV w_672 w_674 w_14 w_68 w_675) a_Text_worth ⟨rfl, rfl, Nat.le_of_ble_eq_true rfl, Nat.le_of_ble_eq_true rfl⟩ rfl rfl (Nat.le_of_ble_eq_true rfl) d_Text_says_76 (fun H locs hw => ?_)
  refine lv_iconst (v := 0) hx hb d_Text_says_79 (by decide) ?_
  refine lv_bipush (v := 100) hx hb d_Text_says_80 (by decide) ?_
  refine r_callNI (As := [.int r_7, .int (0 : Int32), .int (100 : Int32)]) (rest := []) K hw hl.1 (c_Main_bounded (l := l) (D := D) (cA := cA) (ad := ad) (s0 := s_8) (Nat.le_trans (Nat.le_of_ble_eq_true rfl) hn)  rfl) (nw_682) w_683 w_63 w_684 a_Main_bounded.2 ⟨rfl, rfl, Nat.le_of_ble_eq_true rfl, Nat.le_of_ble_eq_true rfl⟩ rfl rfl (Nat.le_of_ble_eq_true rfl) d_Text_says_82 (fun H locs hw => ?_)
  obtain ⟨hF, hG⟩ := sE2 hF
  subst hF
  subst hG
  exact r_iret K hw d_Text_says_85
end S_Text_says
noncomputable abbrev F_Text_says := F_Text_says_0
theorem c_Text_says {l : Launch} {D : va_G} {cA : Nat → ClassId} {ad : Nat → Nat} {s0 τ : St} {nC : Nat} (hn : 46 ≤ nC) {r : Int32} {v0 : Nat} {v1 : Int32} {v2 : Nat} (g_v0 : P_Text v0) (g_v2 : P_names v2) (hF : F_Text_says s0 v0 v1 v2 = (some (r, τ))) : MI l D cA ad (shC.take nC) y_Text_says (wT y_Text_says b_Text_says 3 (some .int)) rm_Text_says [.ref (ad v0), .int v1, .ref (ad v2)] s0 r τ := fun sz => m_start (Qc := fun A => QcI D cA ad (shC.take nC) A r τ) (by decide +kernel) w_671 (Nat.le_of_ble_eq_true rfl) (fun p e s m below meth c ls K hl hw => q_Text_says_0 hn K _ _ _ _ _ _ _ g_v0 g_v2 hw hl hF)

/-! Main.asks(IIIII)I -/
abbrev b_Main_asks : ByteArray := prog_1_method_6_code
def y_Main_asks : MethodName := ⟨R_Main, "asks", "(IIIII)I"⟩
theorem a_Main_asks : y_Main_asks.cls = R_Main ∧ y_Main_asks.cls ≠ "java/lang/invoke/MethodHandle" ∧ y_Main_asks.cls ≠ "java/lang/invoke/VarHandle" ∧ (parseMethodDescriptor y_Main_asks.desc).map (fun d => d.parameters.length) = some 5 := by decide +kernel
abbrev rm_Main_asks : Room := { frames := 3, cells := 0, slots := 0, locals := 70 }
theorem w_656 : Cond.methodLink R_Main 120 y_Main_isArm ∈ TB := tb_in 656 (by decide +kernel) (by decide +kernel)
theorem w_658 : Cond.instanceMethod y_Main_isArm ∈ TB := tb_in 658 (by decide +kernel) (by decide +kernel)
theorem w_13 : Cond.selects R_Main y_Main_isArm y_Main_isArm ∈ TB := tb_in 13 (by decide +kernel) (by decide +kernel)
theorem w_605 : Cond.fieldLink R_Main 86 R_Main "bout" "LArmAgainstArm$Bout;" ∈ TB := tb_in 605 (by decide +kernel) (by decide +kernel)
theorem w_532 : Cond.fieldLink R_Main 123 R_Bout "a" "LArmAgainstArm$Side;" ∈ TB := tb_in 532 (by decide +kernel) (by decide +kernel)
theorem w_598 : Cond.fieldLink R_Main 11 R_Main "arms" "[LArmAgainstArm$Arm;" ∈ TB := tb_in 598 (by decide +kernel) (by decide +kernel)
theorem w_660 : Cond.methodLink R_Main 127 y_Side_begin ∈ TB := tb_in 660 (by decide +kernel) (by decide +kernel)
theorem w_661 : Cond.instanceMethod y_Side_begin ∈ TB := tb_in 661 (by decide +kernel) (by decide +kernel)
theorem w_662 : Cond.selects R_Side y_Side_begin y_Side_begin ∈ TB := tb_in 662 (by decide +kernel) (by decide +kernel)
theorem w_78 : Cond.initialized R_Side ∈ TB := tb_in 78 (by decide +kernel) (by decide +kernel)
theorem w_513 : Cond.fieldLink R_Main 133 R_Side "hold" "I" ∈ TB := tb_in 513 (by decide +kernel) (by decide +kernel)
theorem w_664 : Cond.methodLink R_Main 136 y_Side_looks ∈ TB := tb_in 664 (by decide +kernel) (by decide +kernel)
theorem w_665 : Cond.instanceMethod y_Side_looks ∈ TB := tb_in 665 (by decide +kernel) (by decide +kernel)
theorem w_666 : Cond.selects R_Side y_Side_looks y_Side_looks ∈ TB := tb_in 666 (by decide +kernel) (by decide +kernel)
theorem w_510 : Cond.fieldLink R_Main 140 R_Side "names" "[I" ∈ TB := tb_in 510 (by decide +kernel) (by decide +kernel)
theorem w_668 : Cond.methodLink R_Main 144 y_Text_says ∈ TB := tb_in 668 (by decide +kernel) (by decide +kernel)
theorem w_669 : Cond.instanceMethod y_Text_says ∈ TB := tb_in 669 (by decide +kernel) (by decide +kernel)
theorem w_670 : Cond.selects R_Text y_Text_says y_Text_says ∈ TB := tb_in 670 (by decide +kernel) (by decide +kernel)
theorem w_655 : Cond.code y_Main_asks b_Main_asks 7 (some .int) ∈ TB := tb_in 655 (by decide +kernel) (by decide +kernel)
theorem d_Main_asks_0 : decode b_Main_asks 0 = .ok (.aload_n 0, 1) := by decide +kernel
theorem d_Main_asks_1 : decode b_Main_asks 1 = .ok (.iload_n 2, 1) := by decide +kernel
theorem d_Main_asks_2 : decode b_Main_asks 2 = .ok (.invokevirtual 120, 3) := by decide +kernel
theorem d_Main_asks_5 : decode b_Main_asks 5 = .ok (.ifCond .ne 6, 3) := by decide +kernel
theorem d_Main_asks_8 : decode b_Main_asks 8 = .ok (.bipush (-5), 2) := by decide +kernel
theorem d_Main_asks_10 : decode b_Main_asks 10 = .ok (.ireturn, 1) := by decide +kernel
theorem d_Main_asks_11 : decode b_Main_asks 11 = .ok (.iload_n 1, 1) := by decide +kernel
theorem d_Main_asks_12 : decode b_Main_asks 12 = .ok (.iconst 0, 1) := by decide +kernel
theorem d_Main_asks_13 : decode b_Main_asks 13 = .ok (.iconst 2, 1) := by decide +kernel
theorem d_Main_asks_14 : decode b_Main_asks 14 = .ok (.invokestatic 108, 3) := by decide +kernel
theorem d_Main_asks_17 : decode b_Main_asks 17 = .ok (.ifCond .ne 6, 3) := by decide +kernel
theorem d_Main_asks_20 : decode b_Main_asks 20 = .ok (.bipush (-7), 2) := by decide +kernel
theorem d_Main_asks_22 : decode b_Main_asks 22 = .ok (.ireturn, 1) := by decide +kernel
theorem d_Main_asks_23 : decode b_Main_asks 23 = .ok (.iload_n 3, 1) := by decide +kernel
theorem d_Main_asks_24 : decode b_Main_asks 24 = .ok (.iconst 0, 1) := by decide +kernel
theorem d_Main_asks_25 : decode b_Main_asks 25 = .ok (.sipush 243, 3) := by decide +kernel
theorem d_Main_asks_28 : decode b_Main_asks 28 = .ok (.invokestatic 108, 3) := by decide +kernel
theorem d_Main_asks_31 : decode b_Main_asks 31 = .ok (.ifCond .eq 11, 3) := by decide +kernel
theorem d_Main_asks_34 : decode b_Main_asks 34 = .ok (.iload_n 3, 1) := by decide +kernel
theorem d_Main_asks_35 : decode b_Main_asks 35 = .ok (.bipush 10, 2) := by decide +kernel
theorem d_Main_asks_37 : decode b_Main_asks 37 = .ok (.irem, 1) := by decide +kernel
theorem d_Main_asks_38 : decode b_Main_asks 38 = .ok (.iconst 3, 1) := by decide +kernel
theorem d_Main_asks_39 : decode b_Main_asks 39 = .ok (.if_icmp .le 6, 3) := by decide +kernel
theorem d_Main_asks_42 : decode b_Main_asks 42 = .ok (.bipush (-7), 2) := by decide +kernel
theorem d_Main_asks_44 : decode b_Main_asks 44 = .ok (.ireturn, 1) := by decide +kernel
theorem d_Main_asks_45 : decode b_Main_asks 45 = .ok (.iload 4, 2) := by decide +kernel
theorem d_Main_asks_47 : decode b_Main_asks 47 = .ok (.bipush (-30), 2) := by decide +kernel
theorem d_Main_asks_49 : decode b_Main_asks 49 = .ok (.bipush 30, 2) := by decide +kernel
theorem d_Main_asks_51 : decode b_Main_asks 51 = .ok (.invokestatic 108, 3) := by decide +kernel
theorem d_Main_asks_54 : decode b_Main_asks 54 = .ok (.ifCond .eq 14, 3) := by decide +kernel
theorem d_Main_asks_57 : decode b_Main_asks 57 = .ok (.iload 5, 2) := by decide +kernel
theorem d_Main_asks_59 : decode b_Main_asks 59 = .ok (.iconst 0, 1) := by decide +kernel
theorem d_Main_asks_60 : decode b_Main_asks 60 = .ok (.bipush 40, 2) := by decide +kernel
theorem d_Main_asks_62 : decode b_Main_asks 62 = .ok (.invokestatic 108, 3) := by decide +kernel
theorem d_Main_asks_65 : decode b_Main_asks 65 = .ok (.ifCond .ne 6, 3) := by decide +kernel
theorem d_Main_asks_68 : decode b_Main_asks 68 = .ok (.bipush (-7), 2) := by decide +kernel
theorem d_Main_asks_70 : decode b_Main_asks 70 = .ok (.ireturn, 1) := by decide +kernel
theorem d_Main_asks_71 : decode b_Main_asks 71 = .ok (.aload_n 0, 1) := by decide +kernel
theorem d_Main_asks_72 : decode b_Main_asks 72 = .ok (.getfield 86, 3) := by decide +kernel
theorem d_Main_asks_75 : decode b_Main_asks 75 = .ok (.getfield 123, 3) := by decide +kernel
theorem d_Main_asks_78 : decode b_Main_asks 78 = .ok (.astore 6, 2) := by decide +kernel
theorem d_Main_asks_80 : decode b_Main_asks 80 = .ok (.aload 6, 2) := by decide +kernel
theorem d_Main_asks_82 : decode b_Main_asks 82 = .ok (.aload_n 0, 1) := by decide +kernel
theorem d_Main_asks_83 : decode b_Main_asks 83 = .ok (.getfield 11, 3) := by decide +kernel
theorem d_Main_asks_86 : decode b_Main_asks 86 = .ok (.iload_n 2, 1) := by decide +kernel
theorem d_Main_asks_87 : decode b_Main_asks 87 = .ok (.aaload, 1) := by decide +kernel
theorem d_Main_asks_88 : decode b_Main_asks 88 = .ok (.invokevirtual 127, 3) := by decide +kernel
theorem d_Main_asks_91 : decode b_Main_asks 91 = .ok (.aload 6, 2) := by decide +kernel
theorem d_Main_asks_93 : decode b_Main_asks 93 = .ok (.iload_n 3, 1) := by decide +kernel
theorem d_Main_asks_94 : decode b_Main_asks 94 = .ok (.bipush 10, 2) := by decide +kernel
theorem d_Main_asks_96 : decode b_Main_asks 96 = .ok (.idiv, 1) := by decide +kernel
theorem d_Main_asks_97 : decode b_Main_asks 97 = .ok (.putfield 133, 3) := by decide +kernel
theorem d_Main_asks_100 : decode b_Main_asks 100 = .ok (.aload 6, 2) := by decide +kernel
theorem d_Main_asks_102 : decode b_Main_asks 102 = .ok (.iload_n 3, 1) := by decide +kernel
theorem d_Main_asks_103 : decode b_Main_asks 103 = .ok (.bipush 10, 2) := by decide +kernel
theorem d_Main_asks_105 : decode b_Main_asks 105 = .ok (.irem, 1) := by decide +kernel
theorem d_Main_asks_106 : decode b_Main_asks 106 = .ok (.iload 4, 2) := by decide +kernel
theorem d_Main_asks_108 : decode b_Main_asks 108 = .ok (.iload 5, 2) := by decide +kernel
theorem d_Main_asks_110 : decode b_Main_asks 110 = .ok (.invokevirtual 136, 3) := by decide +kernel
theorem d_Main_asks_113 : decode b_Main_asks 113 = .ok (.aload_n 0, 1) := by decide +kernel
theorem d_Main_asks_114 : decode b_Main_asks 114 = .ok (.getfield 17, 3) := by decide +kernel
theorem d_Main_asks_117 : decode b_Main_asks 117 = .ok (.aload_n 0, 1) := by decide +kernel
theorem d_Main_asks_118 : decode b_Main_asks 118 = .ok (.getfield 102, 3) := by decide +kernel
theorem d_Main_asks_121 : decode b_Main_asks 121 = .ok (.aaload, 1) := by decide +kernel
theorem d_Main_asks_122 : decode b_Main_asks 122 = .ok (.iload_n 1, 1) := by decide +kernel
theorem d_Main_asks_123 : decode b_Main_asks 123 = .ok (.aload 6, 2) := by decide +kernel
theorem d_Main_asks_125 : decode b_Main_asks 125 = .ok (.getfield 140, 3) := by decide +kernel
theorem d_Main_asks_128 : decode b_Main_asks 128 = .ok (.invokevirtual 144, 3) := by decide +kernel
theorem d_Main_asks_131 : decode b_Main_asks 131 = .ok (.ireturn, 1) := by decide +kernel
section S_Main_asks
variable {p : Program} {l : Launch} {e : Env} {s : State} {m : MethodId} {args : Array Value} {below : List Frame} {meth : Method} {c : Code} {D : va_G} {cA : Nat → ClassId} {ad : Nat → Nat} {nC : Nat} {A : Nat → Prop} {r : Int32} {τ : St}
noncomputable def F_Main_asks_0 (s0 : St) (v1 : Int32) (v2 : Int32) (v3 : Int32) (v4 : Int32) (v5 : Int32) : Option (Int32 × St) := (ob1 (F_Main_isArm s0 v2) (fun r_1 => (if ¬ r_1 = 0 then (if ¬ (F_Main_isWithin v1 (0 : Int32) (2 : Int32)) = 0 then (if (F_Main_isWithin v3 (0 : Int32) (243 : Int32)) = 0 then (some ((-7 : Int32), s0)) else (if (jrem v3 (10 : Int32)) ≤ (3 : Int32) then (if (F_Main_isWithin v4 (-30 : Int32) (30 : Int32)) = 0 then (some ((-7 : Int32), s0)) else (if ¬ (F_Main_isWithin v5 (0 : Int32) (40 : Int32)) = 0 then (if inB v2 6 = true then (lt (F_Side_begin s0 42 (27 + v2.toNatClampNeg)) (fun s_9 => (lt (up1 s_9 42 1 (v3 / (10 : Int32))) (fun s_10 => (lt (F_Side_looks s_10 42 (jrem v3 (10 : Int32)) v4 v5) (fun s_11 => (if inB (s_11.1 20 4) 6 = true then (ob2 (F_Text_says s_11 (8 + (s_11.1 20 4).toNatClampNeg) v1 43) (fun r_13 s_14 => (some (r_13, s_14)))) else none))))))) else none) else (some ((-7 : Int32), s0)))) else (some ((-7 : Int32), s0)))) else (some ((-7 : Int32), s0))) else (some ((-5 : Int32), s0)))))
set_option maxHeartbeats 4000000 in
set_option maxRecDepth 100000 in
theorem q_Main_asks_0 (hn : 46 ≤ nC) (K : Fx p s m args meth c b_Main_asks 7 R_Main (some .int))  : ∀ (H : Heap) (locs : List Loc) (ls : Array Slot) (s0 : St) (v1 : Int32) (v2 : Int32) (v3 : Int32) (v4 : Int32) (v5 : Int32), Wh D cA ad (shC.take nC) A s s0 H locs → lv_has ls 7 [(0, .ref (ad 20)), (1, .int v1), (2, .int v2), (3, .int v3), (4, .int v4), (5, .int v5)] → F_Main_asks_0 s0 v1 v2 v3 v4 v5 = (some (r, τ)) → W p l e rm_Main_asks s m args below meth c H locs 0 0 (MQ below (QcI D cA ad (shC.take nC) A r τ) args s 0 0 A) (F0 m 0 ls []) := by
  have hx := K.1.1; have hb := K.1.2.1
  intro H locs ls s0 v1 v2 v3 v4 v5 hw hl hF
  unfold F_Main_asks_0 at hF
  refine lv_aload_n hx hb d_Main_asks_0 rfl (lv_at hl 0 rfl) ?_
  refine lv_iload_n hx hb d_Main_asks_1 rfl (lv_at hl 2 rfl) ?_
  obtain ⟨r_1, h_r_1, hF⟩ := ob1E hF
  refine r_callVI (As := [.int v2]) (rest := []) K hw hl.1 (c_Main_isArm (l := l) (D := D) (cA := cA) (ad := ad) (s0 := s0) (Nat.le_trans (Nat.le_of_ble_eq_true rfl) hn)  h_r_1) (sh_Main (Nat.le_trans (Nat.le_of_ble_eq_true rfl) hn)) rfl (tb_gV w_656 w_658 w_13 w_63 w_659) a_Main_isArm ⟨rfl, rfl, Nat.le_of_ble_eq_true rfl, Nat.le_of_ble_eq_true rfl⟩ rfl rfl (Nat.le_of_ble_eq_true rfl) d_Main_asks_2 (fun H locs hw => ?_)
  refine lv_if_ne (tgt := 11) hx hb d_Main_asks_5 (by decide) (fun c_2 => ?_) (fun c_2 => ?_)
  · replace hF := ifT hF c_2
    refine lv_iload_n hx hb d_Main_asks_11 rfl (lv_at hl 1 rfl) ?_
    refine lv_iconst (v := 0) hx hb d_Main_asks_12 (by decide) ?_
    refine lv_iconst (v := 2) hx hb d_Main_asks_13 (by decide) ?_
    refine r_callSI (As := [.int v1, .int (0 : Int32), .int (2 : Int32)]) (rest := []) K hw hl.1 (c_Main_isWithin (l := l) (D := D) (cA := cA) (ad := ad) (s0 := s0) (Nat.le_trans (Nat.le_of_ble_eq_true rfl) hn)  rfl) (tb_gS w_640 w_347 w_63 w_348) a_Main_isWithin ⟨rfl, rfl, Nat.le_of_ble_eq_true rfl, Nat.le_of_ble_eq_true rfl⟩ rfl rfl (Nat.le_of_ble_eq_true rfl) d_Main_asks_14 (fun H locs hw => ?_)
    refine lv_if_ne (tgt := 23) hx hb d_Main_asks_17 (by decide) (fun c_3 => ?_) (fun c_3 => ?_)
    · replace hF := ifT hF c_3
      refine lv_iload_n hx hb d_Main_asks_23 rfl (lv_at hl 3 rfl) ?_
      refine lv_iconst (v := 0) hx hb d_Main_asks_24 (by decide) ?_
      refine lv_sipush (v := 243) hx hb d_Main_asks_25 (by decide) ?_
      refine r_callSI (As := [.int v3, .int (0 : Int32), .int (243 : Int32)]) (rest := []) K hw hl.1 (c_Main_isWithin (l := l) (D := D) (cA := cA) (ad := ad) (s0 := s0) (Nat.le_trans (Nat.le_of_ble_eq_true rfl) hn)  rfl) (tb_gS w_640 w_347 w_63 w_348) a_Main_isWithin ⟨rfl, rfl, Nat.le_of_ble_eq_true rfl, Nat.le_of_ble_eq_true rfl⟩ rfl rfl (Nat.le_of_ble_eq_true rfl) d_Main_asks_28 (fun H locs hw => ?_)
      refine lv_if_eq (tgt := 42) hx hb d_Main_asks_31 (by decide) (fun c_4 => ?_) (fun c_4 => ?_)
      · replace hF := ifT hF c_4
        refine lv_bipush (v := -7) hx hb d_Main_asks_42 (by decide) ?_
        obtain ⟨hF, hG⟩ := sE2 hF
        subst hF
        subst hG
        exact r_iret K hw d_Main_asks_44
      · replace hF := ifF hF c_4
        refine lv_iload_n hx hb d_Main_asks_34 rfl (lv_at hl 3 rfl) ?_
        refine lv_bipush (v := 10) hx hb d_Main_asks_35 (by decide) ?_
        refine lv_irem hx hb d_Main_asks_37 (by decide) ?_
        refine lv_iconst (v := 3) hx hb d_Main_asks_38 (by decide) ?_
        refine lv_icmp_le (tgt := 45) hx hb d_Main_asks_39 (by decide) (fun c_5 => ?_) (fun c_5 => ?_)
        · replace hF := ifT hF c_5
          refine lv_iload hx hb d_Main_asks_45 (lv_at hl 4 rfl) ?_
          refine lv_bipush (v := -30) hx hb d_Main_asks_47 (by decide) ?_
          refine lv_bipush (v := 30) hx hb d_Main_asks_49 (by decide) ?_
          refine r_callSI (As := [.int v4, .int (-30 : Int32), .int (30 : Int32)]) (rest := []) K hw hl.1 (c_Main_isWithin (l := l) (D := D) (cA := cA) (ad := ad) (s0 := s0) (Nat.le_trans (Nat.le_of_ble_eq_true rfl) hn)  rfl) (tb_gS w_640 w_347 w_63 w_348) a_Main_isWithin ⟨rfl, rfl, Nat.le_of_ble_eq_true rfl, Nat.le_of_ble_eq_true rfl⟩ rfl rfl (Nat.le_of_ble_eq_true rfl) d_Main_asks_51 (fun H locs hw => ?_)
          refine lv_if_eq (tgt := 68) hx hb d_Main_asks_54 (by decide) (fun c_6 => ?_) (fun c_6 => ?_)
          · replace hF := ifT hF c_6
            refine lv_bipush (v := -7) hx hb d_Main_asks_68 (by decide) ?_
            obtain ⟨hF, hG⟩ := sE2 hF
            subst hF
            subst hG
            exact r_iret K hw d_Main_asks_70
          · replace hF := ifF hF c_6
            refine lv_iload hx hb d_Main_asks_57 (lv_at hl 5 rfl) ?_
            refine lv_iconst (v := 0) hx hb d_Main_asks_59 (by decide) ?_
            refine lv_bipush (v := 40) hx hb d_Main_asks_60 (by decide) ?_
            refine r_callSI (As := [.int v5, .int (0 : Int32), .int (40 : Int32)]) (rest := []) K hw hl.1 (c_Main_isWithin (l := l) (D := D) (cA := cA) (ad := ad) (s0 := s0) (Nat.le_trans (Nat.le_of_ble_eq_true rfl) hn)  rfl) (tb_gS w_640 w_347 w_63 w_348) a_Main_isWithin ⟨rfl, rfl, Nat.le_of_ble_eq_true rfl, Nat.le_of_ble_eq_true rfl⟩ rfl rfl (Nat.le_of_ble_eq_true rfl) d_Main_asks_62 (fun H locs hw => ?_)
            refine lv_if_ne (tgt := 71) hx hb d_Main_asks_65 (by decide) (fun c_7 => ?_) (fun c_7 => ?_)
            · replace hF := ifT hF c_7
              refine lv_aload_n hx hb d_Main_asks_71 rfl (lv_at hl 0 rfl) ?_
              refine r_get (v := .ref (ad 41)) K hw i_Main (sh_Main (Nat.le_trans (Nat.le_of_ble_eq_true rfl) hn)) rfl 7 (by decide) w_605 rfl rfl rfl d_Main_asks_72 ?_
              refine r_get (v := .ref (ad 42)) K hw i_Bout (sh_Bout (Nat.le_trans (Nat.le_of_ble_eq_true rfl) hn)) rfl 0 (by decide) w_532 rfl rfl rfl d_Main_asks_75 ?_
              refine lv_astore (lv' := [(6, .ref (ad 42)), (0, .ref (ad 20)), (1, .int v1), (2, .int v2), (3, .int v3), (4, .int v4), (5, .int v5)]) hx hb d_Main_asks_78 hl (by decide) rfl (fun ls hl => ?_)
              refine lv_aload hx hb d_Main_asks_80 (lv_at hl 0 rfl) ?_
              refine lv_aload_n hx hb d_Main_asks_82 rfl (lv_at hl 1 rfl) ?_
              refine r_get (v := .ref (ad 21)) K hw i_Main (sh_Main (Nat.le_trans (Nat.le_of_ble_eq_true rfl) hn)) rfl 0 (by decide) w_598 rfl rfl rfl d_Main_asks_83 ?_
              refine lv_iload_n hx hb d_Main_asks_86 rfl (lv_at hl 3 rfl) ?_
              obtain ⟨g_8, hF⟩ := ifG hF
              refine r_aald (k := v2.toNatClampNeg) K hw (sh_a21 (Nat.le_trans (Nat.le_of_ble_eq_true rfl) hn)) (rfl : (TYS cA)[1]? = some (cA 1, _)) rfl (inB_vp g_8) d_Main_asks_87 ?_
              obtain ⟨s_9, e_s_9, hF⟩ := ltE hF
              refine r_callVV (As := [.ref (ad (27 + v2.toNatClampNeg))]) (rest := []) K hw hl.1 (c_Side_begin (l := l) (D := D) (cA := cA) (ad := ad) (s0 := s0) (Nat.le_trans (Nat.le_of_ble_eq_true rfl) hn) (by decide) (P_Arm_of g_8) e_s_9.symm) (sh_Side (by decide) (Nat.le_trans (Nat.le_of_ble_eq_true rfl) hn)) rfl (tb_gV w_660 w_661 w_662 w_78 w_663) a_Side_begin ⟨rfl, rfl, Nat.le_of_ble_eq_true rfl, Nat.le_of_ble_eq_true rfl⟩ rfl rfl (Nat.le_of_ble_eq_true rfl) d_Main_asks_88 (fun H locs hw => ?_)
              refine lv_aload hx hb d_Main_asks_91 (lv_at hl 0 rfl) ?_
              refine lv_iload_n hx hb d_Main_asks_93 rfl (lv_at hl 4 rfl) ?_
              refine lv_bipush (v := 10) hx hb d_Main_asks_94 (by decide) ?_
              refine lv_idiv hx hb d_Main_asks_96 (by decide) ?_
              refine r_putI K hw i_Side t_Side t_Side_ok n_Side (sh_Side (by decide) (Nat.le_trans (Nat.le_of_ble_eq_true rfl) hn)) rfl 1 (by decide) w_513 rfl rfl rfl rfl rfl d_Main_asks_97 (fun s_10 f_s_10 H locs hw => ?_)
              replace hF := ltN hF f_s_10
              refine lv_aload hx hb d_Main_asks_100 (lv_at hl 0 rfl) ?_
              refine lv_iload_n hx hb d_Main_asks_102 rfl (lv_at hl 4 rfl) ?_
              refine lv_bipush (v := 10) hx hb d_Main_asks_103 (by decide) ?_
              refine lv_irem hx hb d_Main_asks_105 (by decide) ?_
              refine lv_iload hx hb d_Main_asks_106 (lv_at hl 5 rfl) ?_
              refine lv_iload hx hb d_Main_asks_108 (lv_at hl 6 rfl) ?_
              obtain ⟨s_11, e_s_11, hF⟩ := ltE hF
              refine r_callVV (As := [.int (jrem v3 (10 : Int32)), .int v4, .int v5]) (rest := []) K hw hl.1 (c_Side_looks (l := l) (D := D) (cA := cA) (ad := ad) (s0 := s_10) (Nat.le_trans (Nat.le_of_ble_eq_true rfl) hn) (by decide) e_s_11.symm) (sh_Side (by decide) (Nat.le_trans (Nat.le_of_ble_eq_true rfl) hn)) rfl (tb_gV w_664 w_665 w_666 w_78 w_667) a_Side_looks ⟨rfl, rfl, Nat.le_of_ble_eq_true rfl, Nat.le_of_ble_eq_true rfl⟩ rfl rfl (Nat.le_of_ble_eq_true rfl) d_Main_asks_110 (fun H locs hw => ?_)
              refine lv_aload_n hx hb d_Main_asks_113 rfl (lv_at hl 1 rfl) ?_
              refine r_get (v := .ref (ad 22)) K hw i_Main (sh_Main (Nat.le_trans (Nat.le_of_ble_eq_true rfl) hn)) rfl 2 (by decide) w_600 rfl rfl rfl d_Main_asks_114 ?_
              refine lv_aload_n hx hb d_Main_asks_117 rfl (lv_at hl 1 rfl) ?_
              refine r_get (v := .int (s_11.1 20 4)) K hw i_Main (sh_Main (Nat.le_trans (Nat.le_of_ble_eq_true rfl) hn)) rfl 4 (by decide) w_602 rfl rfl rfl d_Main_asks_118 ?_
              obtain ⟨g_12, hF⟩ := ifG hF
              refine r_aald (k := (s_11.1 20 4).toNatClampNeg) K hw (sh_a22 (Nat.le_trans (Nat.le_of_ble_eq_true rfl) hn)) (rfl : (TYS cA)[2]? = some (cA 2, _)) rfl (inB_vp g_12) d_Main_asks_121 ?_
              refine lv_iload_n hx hb d_Main_asks_122 rfl (lv_at hl 2 rfl) ?_
              refine lv_aload hx hb d_Main_asks_123 (lv_at hl 0 rfl) ?_
              refine r_get (v := .ref (ad 43)) K hw i_Side (sh_Side (by decide) (Nat.le_trans (Nat.le_of_ble_eq_true rfl) hn)) rfl 0 (by decide) w_510 rfl rfl rfl d_Main_asks_125 ?_
              obtain ⟨r_13, s_14, h_s_14, hF⟩ := ob2E hF
              refine r_callVI (As := [.int v1, .ref (ad 43)]) (rest := []) K hw hl.1 (c_Text_says (l := l) (D := D) (cA := cA) (ad := ad) (s0 := s_11) (Nat.le_trans (Nat.le_of_ble_eq_true rfl) hn) (P_Text_of g_12) (P_namesOf (by decide)) h_s_14) (sh_Text (P_Text_of g_12) (Nat.le_trans (Nat.le_of_ble_eq_true rfl) hn)) rfl (tb_gV w_668 w_669 w_670 w_68 w_671) a_Text_says ⟨rfl, rfl, Nat.le_of_ble_eq_true rfl, Nat.le_of_ble_eq_true rfl⟩ rfl rfl (Nat.le_of_ble_eq_true rfl) d_Main_asks_128 (fun H locs hw => ?_)
              obtain ⟨hF, hG⟩ := sE2 hF
              subst hF
              subst hG
              exact r_iret K hw d_Main_asks_131
            · replace hF := ifN hF c_7
              refine lv_bipush (v := -7) hx hb d_Main_asks_68 (by decide) ?_
              obtain ⟨hF, hG⟩ := sE2 hF
              subst hF
              subst hG
              exact r_iret K hw d_Main_asks_70
        · replace hF := ifF hF c_5
          refine lv_bipush (v := -7) hx hb d_Main_asks_42 (by decide) ?_
          obtain ⟨hF, hG⟩ := sE2 hF
          subst hF
          subst hG
          exact r_iret K hw d_Main_asks_44
    · replace hF := ifN hF c_3
      refine lv_bipush (v := -7) hx hb d_Main_asks_20 (by decide) ?_
      obtain ⟨hF, hG⟩ := sE2 hF
      subst hF
      subst hG
      exact r_iret K hw d_Main_asks_22
  · replace hF := ifN hF c_2
    refine lv_bipush (v := -5) hx hb d_Main_asks_8 (by decide) ?_
    obtain ⟨hF, hG⟩ := sE2 hF
    subst hF
    subst hG
    exact r_iret K hw d_Main_asks_10
end S_Main_asks
noncomputable abbrev F_Main_asks := F_Main_asks_0
theorem c_Main_asks {l : Launch} {D : va_G} {cA : Nat → ClassId} {ad : Nat → Nat} {s0 τ : St} {nC : Nat} (hn : 46 ≤ nC) {r : Int32} {v1 : Int32} {v2 : Int32} {v3 : Int32} {v4 : Int32} {v5 : Int32}  (hF : F_Main_asks s0 v1 v2 v3 v4 v5 = (some (r, τ))) : MI l D cA ad (shC.take nC) y_Main_asks (wT y_Main_asks b_Main_asks 7 (some .int)) rm_Main_asks [.ref (ad 20), .int v1, .int v2, .int v3, .int v4, .int v5] s0 r τ := fun sz => m_start (Qc := fun A => QcI D cA ad (shC.take nC) A r τ) (by decide +kernel) w_655 (Nat.le_of_ble_eq_true rfl) (fun p e s m below meth c ls K hl hw => q_Main_asks_0 hn K _ _ _ _ _ _ _ _ _  hw hl hF)

/-! Arm.isOf(I)Z -/
abbrev b_Arm_isOf : ByteArray := prog_2_method_3_code
def y_Arm_isOf : MethodName := ⟨R_Arm, "isOf", "(I)Z"⟩
theorem a_Arm_isOf : y_Arm_isOf.cls = R_Arm ∧ y_Arm_isOf.cls ≠ "java/lang/invoke/MethodHandle" ∧ y_Arm_isOf.cls ≠ "java/lang/invoke/VarHandle" ∧ (parseMethodDescriptor y_Arm_isOf.desc).map (fun d => d.parameters.length) = some 1 := by decide +kernel
abbrev rm_Arm_isOf : Room := { frames := 1, cells := 0, slots := 0, locals := 22 }
theorem w_142 : Cond.fieldLink R_Arm 9 R_Arm "kind" "I" ∈ TB := tb_in 142 (by decide +kernel) (by decide +kernel)
theorem w_700 : Cond.code y_Arm_isOf b_Arm_isOf 4 (some .boolean) ∈ TB := tb_in 700 (by decide +kernel) (by decide +kernel)
theorem nw_701 : Cond.fieldLinkNest R_Arm 53 R_Main "KIND_ABOVE" "[I" R_Main ∈ NWS := List.mem_of_getElem? (i := 6) (by decide +kernel)
theorem nw_703 : Cond.methodLinkNest R_Arm 57 y_Main_isWithin R_Main ∈ NWS := List.mem_of_getElem? (i := 7) (by decide +kernel)
theorem d_Arm_isOf_0 : decode b_Arm_isOf 0 = .ok (.aload_n 0, 1) := by decide +kernel
theorem d_Arm_isOf_1 : decode b_Arm_isOf 1 = .ok (.getfield 9, 3) := by decide +kernel
theorem d_Arm_isOf_4 : decode b_Arm_isOf 4 = .ok (.istore_n 2, 1) := by decide +kernel
theorem d_Arm_isOf_5 : decode b_Arm_isOf 5 = .ok (.iconst 0, 1) := by decide +kernel
theorem d_Arm_isOf_6 : decode b_Arm_isOf 6 = .ok (.istore_n 3, 1) := by decide +kernel
theorem d_Arm_isOf_7 : decode b_Arm_isOf 7 = .ok (.iload_n 3, 1) := by decide +kernel
theorem d_Arm_isOf_8 : decode b_Arm_isOf 8 = .ok (.getstatic 53, 3) := by decide +kernel
theorem d_Arm_isOf_11 : decode b_Arm_isOf 11 = .ok (.arraylength, 1) := by decide +kernel
theorem d_Arm_isOf_12 : decode b_Arm_isOf 12 = .ok (.if_icmp .ge 29, 3) := by decide +kernel
theorem d_Arm_isOf_15 : decode b_Arm_isOf 15 = .ok (.iload_n 2, 1) := by decide +kernel
theorem d_Arm_isOf_16 : decode b_Arm_isOf 16 = .ok (.iload_n 1, 1) := by decide +kernel
theorem d_Arm_isOf_17 : decode b_Arm_isOf 17 = .ok (.if_icmp .eq 24, 3) := by decide +kernel
theorem d_Arm_isOf_20 : decode b_Arm_isOf 20 = .ok (.iload_n 2, 1) := by decide +kernel
theorem d_Arm_isOf_21 : decode b_Arm_isOf 21 = .ok (.iconst 0, 1) := by decide +kernel
theorem d_Arm_isOf_22 : decode b_Arm_isOf 22 = .ok (.iconst 5, 1) := by decide +kernel
theorem d_Arm_isOf_23 : decode b_Arm_isOf 23 = .ok (.invokestatic 57, 3) := by decide +kernel
theorem d_Arm_isOf_26 : decode b_Arm_isOf 26 = .ok (.ifCond .eq 15, 3) := by decide +kernel
theorem d_Arm_isOf_29 : decode b_Arm_isOf 29 = .ok (.getstatic 53, 3) := by decide +kernel
theorem d_Arm_isOf_32 : decode b_Arm_isOf 32 = .ok (.iload_n 2, 1) := by decide +kernel
theorem d_Arm_isOf_33 : decode b_Arm_isOf 33 = .ok (.iaload, 1) := by decide +kernel
theorem d_Arm_isOf_34 : decode b_Arm_isOf 34 = .ok (.istore_n 2, 1) := by decide +kernel
theorem d_Arm_isOf_35 : decode b_Arm_isOf 35 = .ok (.iinc 3 1, 3) := by decide +kernel
theorem d_Arm_isOf_38 : decode b_Arm_isOf 38 = .ok (.goto (-31), 3) := by decide +kernel
theorem d_Arm_isOf_41 : decode b_Arm_isOf 41 = .ok (.iload_n 2, 1) := by decide +kernel
theorem d_Arm_isOf_42 : decode b_Arm_isOf 42 = .ok (.iload_n 1, 1) := by decide +kernel
theorem d_Arm_isOf_43 : decode b_Arm_isOf 43 = .ok (.if_icmp .ne 7, 3) := by decide +kernel
theorem d_Arm_isOf_46 : decode b_Arm_isOf 46 = .ok (.iconst 1, 1) := by decide +kernel
theorem d_Arm_isOf_47 : decode b_Arm_isOf 47 = .ok (.goto 4, 3) := by decide +kernel
theorem d_Arm_isOf_50 : decode b_Arm_isOf 50 = .ok (.iconst 0, 1) := by decide +kernel
theorem d_Arm_isOf_51 : decode b_Arm_isOf 51 = .ok (.ireturn, 1) := by decide +kernel
section S_Arm_isOf
variable {p : Program} {l : Launch} {e : Env} {s : State} {m : MethodId} {args : Array Value} {below : List Frame} {meth : Method} {c : Code} {D : va_G} {cA : Nat → ClassId} {ad : Nat → Nat} {nC : Nat} {A : Nat → Prop} {r : Int32} {τ : St}
noncomputable def F_Arm_isOf_41 (s0 : St) (v1 : Int32) (v2 : Int32) : Option Int32 := (if ¬ v2 = v1 then (some (0 : Int32)) else (some (1 : Int32)))
set_option maxHeartbeats 4000000 in
set_option maxRecDepth 100000 in
theorem q_Arm_isOf_41 (hn : 33 ≤ nC) (s0 : St) (K : Fx p s m args meth c b_Arm_isOf 4 R_Arm (some .boolean))  : ∀ (H : Heap) (locs : List Loc) (ls : Array Slot) (v1 : Int32) (v2 : Int32), Wh D cA ad (shC.take nC) A s s0 H locs → lv_has ls 4 [(1, .int v1), (2, .int v2)] → F_Arm_isOf_41 s0 v1 v2 = (some r) → W p l e rm_Arm_isOf s m args below meth c H locs 0 0 (MQ below (QcI D cA ad (shC.take nC) A r s0) args s 0 0 A) (F0 m 41 ls []) := by
  have hx := K.1.1; have hb := K.1.2.1
  intro H locs ls v1 v2 hw hl hF
  unfold F_Arm_isOf_41 at hF
  refine lv_iload_n hx hb d_Arm_isOf_41 rfl (lv_at hl 1 rfl) ?_
  refine lv_iload_n hx hb d_Arm_isOf_42 rfl (lv_at hl 0 rfl) ?_
  refine lv_icmp_ne (tgt := 50) hx hb d_Arm_isOf_43 (by decide) (fun c_2 => ?_) (fun c_2 => ?_)
  · replace hF := ifT hF c_2
    refine lv_iconst (v := 0) hx hb d_Arm_isOf_50 (by decide) ?_
    replace hF := sE1 hF
    subst hF
    exact r_zret K hw (by decide) d_Arm_isOf_51
  · replace hF := ifN hF c_2
    refine lv_iconst (v := 1) hx hb d_Arm_isOf_46 (by decide) ?_
    refine lv_goto (tgt := 51) hx hb d_Arm_isOf_47 (by decide) ?_
    replace hF := sE1 hF
    subst hF
    exact r_zret K hw (by decide) d_Arm_isOf_51
noncomputable def F_Arm_isOf_7 (s0 : St) : Nat → Int32 → Int32 → Int32 → Option Int32
  | 0, _, _, _ => none
  | n + 1, v1, v2, v3 => (if (6 : Int32) ≤ v3 then (F_Arm_isOf_41 s0 v1 v2) else (if v2 = v1 then (F_Arm_isOf_41 s0 v1 v2) else (if (F_Main_isWithin v2 (0 : Int32) (5 : Int32)) = 0 then (F_Arm_isOf_41 s0 v1 v2) else (if inB v2 6 = true then (F_Arm_isOf_7 s0 n v1 (kaF (v2.toNatClampNeg)) (v3 + 1)) else none))))
set_option maxHeartbeats 4000000 in
set_option maxRecDepth 100000 in
theorem q_Arm_isOf_7 (hn : 33 ≤ nC) (s0 : St) (K : Fx p s m args meth c b_Arm_isOf 4 R_Arm (some .boolean))  : ∀ (n : Nat), ∀ (H : Heap) (locs : List Loc) (ls : Array Slot) (v1 : Int32) (v2 : Int32) (v3 : Int32), Wh D cA ad (shC.take nC) A s s0 H locs → lv_has ls 4 [(1, .int v1), (2, .int v2), (3, .int v3)] → F_Arm_isOf_7 s0 n v1 v2 v3 = (some r) → W p l e rm_Arm_isOf s m args below meth c H locs 0 0 (MQ below (QcI D cA ad (shC.take nC) A r s0) args s 0 0 A) (F0 m 7 ls []) := by
  have hx := K.1.1; have hb := K.1.2.1
  intro n
  induction n with
  | zero =>
    intro H locs ls v1 v2 v3 hw hl hF
    exact absurd hF (by rw [F_Arm_isOf_7]; exact nofun)
  | succ n ih =>
    intro H locs ls v1 v2 v3 hw hl hF
    rw [F_Arm_isOf_7] at hF
    refine lv_iload_n hx hb d_Arm_isOf_7 rfl (lv_at hl 2 rfl) ?_
    refine k_gets K hw nw_701 d_Arm_isOf_8 ?_
    refine k_alen K hw d_Arm_isOf_11 ?_
    refine lv_icmp_ge (tgt := 41) hx hb d_Arm_isOf_12 (by decide) (fun c_1 => ?_) (fun c_1 => ?_)
    · replace hF := ifT hF c_1
      exact q_Arm_isOf_41 hn s0 K _ _ _ _ _  hw (lv_sub hl [0, 1] rfl) hF
    · replace hF := ifF hF c_1
      refine lv_iload_n hx hb d_Arm_isOf_15 rfl (lv_at hl 1 rfl) ?_
      refine lv_iload_n hx hb d_Arm_isOf_16 rfl (lv_at hl 0 rfl) ?_
      refine lv_icmp_eq (tgt := 41) hx hb d_Arm_isOf_17 (by decide) (fun c_3 => ?_) (fun c_3 => ?_)
      · replace hF := ifT hF c_3
        exact q_Arm_isOf_41 hn s0 K _ _ _ _ _  hw (lv_sub hl [0, 1] rfl) hF
      · replace hF := ifF hF c_3
        refine lv_iload_n hx hb d_Arm_isOf_20 rfl (lv_at hl 1 rfl) ?_
        refine lv_iconst (v := 0) hx hb d_Arm_isOf_21 (by decide) ?_
        refine lv_iconst (v := 5) hx hb d_Arm_isOf_22 (by decide) ?_
        refine r_callNI (As := [.int v2, .int (0 : Int32), .int (5 : Int32)]) (rest := []) K hw hl.1 (c_Main_isWithin (l := l) (D := D) (cA := cA) (ad := ad) (s0 := s0) (Nat.le_trans (Nat.le_of_ble_eq_true rfl) hn)  rfl) (nw_703) w_347 w_63 w_348 a_Main_isWithin.2 ⟨rfl, rfl, Nat.le_of_ble_eq_true rfl, Nat.le_of_ble_eq_true rfl⟩ rfl rfl (Nat.le_of_ble_eq_true rfl) d_Arm_isOf_23 (fun H locs hw => ?_)
        refine lv_if_eq (tgt := 41) hx hb d_Arm_isOf_26 (by decide) (fun c_4 => ?_) (fun c_4 => ?_)
        · replace hF := ifT hF c_4
          exact q_Arm_isOf_41 hn s0 K _ _ _ _ _  hw (lv_sub hl [0, 1] rfl) hF
        · replace hF := ifF hF c_4
          refine k_gets K hw nw_701 d_Arm_isOf_29 ?_
          refine lv_iload_n hx hb d_Arm_isOf_32 rfl (lv_at hl 1 rfl) ?_
          obtain ⟨g_5, hF⟩ := ifG hF
          refine k_ald (k := v2.toNatClampNeg) K hw rfl (inB_vp g_5) d_Arm_isOf_33 ?_
          refine lv_istore_n (lv' := [(2, .int (kaF (v2.toNatClampNeg))), (1, .int v1), (3, .int v3)]) hx hb d_Arm_isOf_34 rfl hl (by decide) rfl (fun ls hl => ?_)
          refine lv_iinc (v := (v3 + 1)) (lv' := [(3, .int (v3 + 1)), (2, .int (kaF (v2.toNatClampNeg))), (1, .int v1)]) hx hb d_Arm_isOf_35 hl (k := 2) rfl rfl (by decide) rfl (fun ls hl => ?_)
          refine lv_goto (tgt := 7) hx hb d_Arm_isOf_38 (by decide) ?_
          exact ih _ _ _ _ _ _  hw (lv_sub hl [2, 1, 0] rfl) hF
noncomputable def F_Arm_isOf_0 (s0 : St) (v0 : Nat) (v1 : Int32) : Option Int32 := (F_Arm_isOf_7 s0 FU v1 (s0.1 v0 0) (0 : Int32))
set_option maxHeartbeats 4000000 in
set_option maxRecDepth 100000 in
theorem q_Arm_isOf_0 (hn : 33 ≤ nC) (s0 : St) (K : Fx p s m args meth c b_Arm_isOf 4 R_Arm (some .boolean))  : ∀ (H : Heap) (locs : List Loc) (ls : Array Slot) (v0 : Nat) (v1 : Int32) (g_v0 : P_Arm v0), Wh D cA ad (shC.take nC) A s s0 H locs → lv_has ls 4 [(0, .ref (ad v0)), (1, .int v1)] → F_Arm_isOf_0 s0 v0 v1 = (some r) → W p l e rm_Arm_isOf s m args below meth c H locs 0 0 (MQ below (QcI D cA ad (shC.take nC) A r s0) args s 0 0 A) (F0 m 0 ls []) := by
  have hx := K.1.1; have hb := K.1.2.1
  intro H locs ls v0 v1 g_v0 hw hl hF
  unfold F_Arm_isOf_0 at hF
  refine lv_aload_n hx hb d_Arm_isOf_0 rfl (lv_at hl 0 rfl) ?_
  refine r_get (v := .int (s0.1 v0 0)) K hw i_Arm (sh_Arm g_v0 (Nat.le_trans (Nat.le_of_ble_eq_true rfl) hn)) rfl 0 (by decide) w_142 rfl rfl rfl d_Arm_isOf_1 ?_
  refine lv_istore_n (lv' := [(2, .int (s0.1 v0 0)), (0, .ref (ad v0)), (1, .int v1)]) hx hb d_Arm_isOf_4 rfl hl (by decide) rfl (fun ls hl => ?_)
  refine lv_iconst (v := 0) hx hb d_Arm_isOf_5 (by decide) ?_
  refine lv_istore_n (lv' := [(3, .int (0 : Int32)), (2, .int (s0.1 v0 0)), (0, .ref (ad v0)), (1, .int v1)]) hx hb d_Arm_isOf_6 rfl hl (by decide) rfl (fun ls hl => ?_)
  exact q_Arm_isOf_7 hn s0 K FU _ _ _ _ _ _  hw (lv_sub hl [3, 1, 0] rfl) hF
end S_Arm_isOf
noncomputable abbrev F_Arm_isOf := F_Arm_isOf_0
theorem c_Arm_isOf {l : Launch} {D : va_G} {cA : Nat → ClassId} {ad : Nat → Nat} {s0 : St} {nC : Nat} (hn : 33 ≤ nC) {r : Int32} {v0 : Nat} {v1 : Int32} (g_v0 : P_Arm v0) (hF : F_Arm_isOf s0 v0 v1 = (some r)) : MI l D cA ad (shC.take nC) y_Arm_isOf (wT y_Arm_isOf b_Arm_isOf 4 (some .boolean)) rm_Arm_isOf [.ref (ad v0), .int v1] s0 r s0 := fun sz => m_start (Qc := fun A => QcI D cA ad (shC.take nC) A r s0) (by decide +kernel) w_700 (Nat.le_of_ble_eq_true rfl) (fun p e s m below meth c ls K hl hw => q_Arm_isOf_0 hn s0 K _ _ _ _ _ g_v0 hw hl hF)

/-! Arm.become(III)V -/
abbrev b_Arm_become : ByteArray := prog_2_method_2_code
def y_Arm_become : MethodName := ⟨R_Arm, "become", "(III)V"⟩
theorem a_Arm_become : y_Arm_become.cls = R_Arm ∧ y_Arm_become.cls ≠ "java/lang/invoke/MethodHandle" ∧ y_Arm_become.cls ≠ "java/lang/invoke/VarHandle" ∧ (parseMethodDescriptor y_Arm_become.desc).map (fun d => d.parameters.length) = some 3 := by decide +kernel
abbrev rm_Arm_become : Room := { frames := 2, cells := 0, slots := 0, locals := 45 }
theorem w_144 : Cond.fieldLink R_Arm 15 R_Arm "told" "I" ∈ TB := tb_in 144 (by decide +kernel) (by decide +kernel)
theorem w_147 : Cond.fieldLink R_Arm 18 R_Arm "more" "I" ∈ TB := tb_in 147 (by decide +kernel) (by decide +kernel)
theorem w_154 : Cond.fieldLink R_Arm 21 R_Arm "hold" "I" ∈ TB := tb_in 154 (by decide +kernel) (by decide +kernel)
theorem w_157 : Cond.fieldLink R_Arm 24 R_Arm "plan" "I" ∈ TB := tb_in 157 (by decide +kernel) (by decide +kernel)
theorem w_697 : Cond.methodLink R_Arm 27 y_Arm_isOf ∈ TB := tb_in 697 (by decide +kernel) (by decide +kernel)
theorem w_698 : Cond.instanceMethod y_Arm_isOf ∈ TB := tb_in 698 (by decide +kernel) (by decide +kernel)
theorem w_699 : Cond.selects R_Arm y_Arm_isOf y_Arm_isOf ∈ TB := tb_in 699 (by decide +kernel) (by decide +kernel)
theorem w_66 : Cond.initialized R_Arm ∈ TB := tb_in 66 (by decide +kernel) (by decide +kernel)
theorem w_159 : Cond.fieldLink R_Arm 31 R_Arm "strong" "Z" ∈ TB := tb_in 159 (by decide +kernel) (by decide +kernel)
theorem w_160 : Cond.fieldLink R_Arm 35 R_Arm "top" "Z" ∈ TB := tb_in 160 (by decide +kernel) (by decide +kernel)
theorem w_161 : Cond.fieldLink R_Arm 38 R_Arm "hook" "Z" ∈ TB := tb_in 161 (by decide +kernel) (by decide +kernel)
theorem w_162 : Cond.fieldLink R_Arm 41 R_Arm "heavy" "Z" ∈ TB := tb_in 162 (by decide +kernel) (by decide +kernel)
theorem w_151 : Cond.fieldLink R_Arm 50 R_Arm "late" "I" ∈ TB := tb_in 151 (by decide +kernel) (by decide +kernel)
theorem w_704 : Cond.methodLink R_Arm 44 Lib.Math.max.name ∈ TB := tb_in 704 (by decide +kernel) (by decide +kernel)
theorem w_696 : Cond.code y_Arm_become b_Arm_become 4 none ∈ TB := tb_in 696 (by decide +kernel) (by decide +kernel)
theorem d_Arm_become_0 : decode b_Arm_become 0 = .ok (.aload_n 0, 1) := by decide +kernel
theorem d_Arm_become_1 : decode b_Arm_become 1 = .ok (.iload_n 1, 1) := by decide +kernel
theorem d_Arm_become_2 : decode b_Arm_become 2 = .ok (.putfield 9, 3) := by decide +kernel
theorem d_Arm_become_5 : decode b_Arm_become 5 = .ok (.aload_n 0, 1) := by decide +kernel
theorem d_Arm_become_6 : decode b_Arm_become 6 = .ok (.iload_n 2, 1) := by decide +kernel
theorem d_Arm_become_7 : decode b_Arm_become 7 = .ok (.putfield 15, 3) := by decide +kernel
theorem d_Arm_become_10 : decode b_Arm_become 10 = .ok (.aload_n 0, 1) := by decide +kernel
theorem d_Arm_become_11 : decode b_Arm_become 11 = .ok (.iload_n 3, 1) := by decide +kernel
theorem d_Arm_become_12 : decode b_Arm_become 12 = .ok (.putfield 18, 3) := by decide +kernel
theorem d_Arm_become_15 : decode b_Arm_become 15 = .ok (.aload_n 0, 1) := by decide +kernel
theorem d_Arm_become_16 : decode b_Arm_become 16 = .ok (.bipush 24, 2) := by decide +kernel
theorem d_Arm_become_18 : decode b_Arm_become 18 = .ok (.putfield 21, 3) := by decide +kernel
theorem d_Arm_become_21 : decode b_Arm_become 21 = .ok (.aload_n 0, 1) := by decide +kernel
theorem d_Arm_become_22 : decode b_Arm_become 22 = .ok (.sipush 1111, 3) := by decide +kernel
theorem d_Arm_become_25 : decode b_Arm_become 25 = .ok (.putfield 24, 3) := by decide +kernel
theorem d_Arm_become_28 : decode b_Arm_become 28 = .ok (.aload_n 0, 1) := by decide +kernel
theorem d_Arm_become_29 : decode b_Arm_become 29 = .ok (.aload_n 0, 1) := by decide +kernel
theorem d_Arm_become_30 : decode b_Arm_become 30 = .ok (.iconst 1, 1) := by decide +kernel
theorem d_Arm_become_31 : decode b_Arm_become 31 = .ok (.invokevirtual 27, 3) := by decide +kernel
theorem d_Arm_become_34 : decode b_Arm_become 34 = .ok (.putfield 31, 3) := by decide +kernel
theorem d_Arm_become_37 : decode b_Arm_become 37 = .ok (.aload_n 0, 1) := by decide +kernel
theorem d_Arm_become_38 : decode b_Arm_become 38 = .ok (.aload_n 0, 1) := by decide +kernel
theorem d_Arm_become_39 : decode b_Arm_become 39 = .ok (.iconst 3, 1) := by decide +kernel
theorem d_Arm_become_40 : decode b_Arm_become 40 = .ok (.invokevirtual 27, 3) := by decide +kernel
theorem d_Arm_become_43 : decode b_Arm_become 43 = .ok (.putfield 35, 3) := by decide +kernel
theorem d_Arm_become_46 : decode b_Arm_become 46 = .ok (.aload_n 0, 1) := by decide +kernel
theorem d_Arm_become_47 : decode b_Arm_become 47 = .ok (.aload_n 0, 1) := by decide +kernel
theorem d_Arm_become_48 : decode b_Arm_become 48 = .ok (.iconst 4, 1) := by decide +kernel
theorem d_Arm_become_49 : decode b_Arm_become 49 = .ok (.invokevirtual 27, 3) := by decide +kernel
theorem d_Arm_become_52 : decode b_Arm_become 52 = .ok (.putfield 38, 3) := by decide +kernel
theorem d_Arm_become_55 : decode b_Arm_become 55 = .ok (.aload_n 0, 1) := by decide +kernel
theorem d_Arm_become_56 : decode b_Arm_become 56 = .ok (.aload_n 0, 1) := by decide +kernel
theorem d_Arm_become_57 : decode b_Arm_become 57 = .ok (.iconst 5, 1) := by decide +kernel
theorem d_Arm_become_58 : decode b_Arm_become 58 = .ok (.invokevirtual 27, 3) := by decide +kernel
theorem d_Arm_become_61 : decode b_Arm_become 61 = .ok (.putfield 41, 3) := by decide +kernel
theorem d_Arm_become_64 : decode b_Arm_become 64 = .ok (.aload_n 0, 1) := by decide +kernel
theorem d_Arm_become_65 : decode b_Arm_become 65 = .ok (.aload_n 0, 1) := by decide +kernel
theorem d_Arm_become_66 : decode b_Arm_become 66 = .ok (.iconst 2, 1) := by decide +kernel
theorem d_Arm_become_67 : decode b_Arm_become 67 = .ok (.invokevirtual 27, 3) := by decide +kernel
theorem d_Arm_become_70 : decode b_Arm_become 70 = .ok (.ifCond .eq 18, 3) := by decide +kernel
theorem d_Arm_become_73 : decode b_Arm_become 73 = .ok (.iconst 0, 1) := by decide +kernel
theorem d_Arm_become_74 : decode b_Arm_become 74 = .ok (.iconst 1, 1) := by decide +kernel
theorem d_Arm_become_75 : decode b_Arm_become 75 = .ok (.aload_n 0, 1) := by decide +kernel
theorem d_Arm_become_76 : decode b_Arm_become 76 = .ok (.getfield 18, 3) := by decide +kernel
theorem d_Arm_become_79 : decode b_Arm_become 79 = .ok (.iconst 5, 1) := by decide +kernel
theorem d_Arm_become_80 : decode b_Arm_become 80 = .ok (.idiv, 1) := by decide +kernel
theorem d_Arm_become_81 : decode b_Arm_become 81 = .ok (.isub, 1) := by decide +kernel
theorem d_Arm_become_82 : decode b_Arm_become 82 = .ok (.invokestatic 44, 3) := by decide +kernel
theorem d_Arm_become_85 : decode b_Arm_become 85 = .ok (.goto 4, 3) := by decide +kernel
theorem d_Arm_become_88 : decode b_Arm_become 88 = .ok (.iconst 2, 1) := by decide +kernel
theorem d_Arm_become_89 : decode b_Arm_become 89 = .ok (.putfield 50, 3) := by decide +kernel
theorem d_Arm_become_92 : decode b_Arm_become 92 = .ok (.return_, 1) := by decide +kernel
section S_Arm_become
variable {p : Program} {l : Launch} {e : Env} {s : State} {m : MethodId} {args : Array Value} {below : List Frame} {meth : Method} {c : Code} {D : va_G} {cA : Nat → ClassId} {ad : Nat → Nat} {nC : Nat} {A : Nat → Prop} {τ : St}
noncomputable def F_Arm_become_89 (s0 : St) (t0 : Nat) (t1 : Int32) : Option St := (lt (up1 s0 t0 3 t1) (fun s_20 => (some s_20)))
set_option maxHeartbeats 4000000 in
set_option maxRecDepth 100000 in
theorem q_Arm_become_89 (hn : 33 ≤ nC) (K : Fx p s m args meth c b_Arm_become 4 R_Arm none)  : ∀ (H : Heap) (locs : List Loc) (ls : Array Slot) (s0 : St) (t0 : Nat) (t1 : Int32) (g_t0 : P_Arm t0), Wh D cA ad (shC.take nC) A s s0 H locs → lv_has ls 4 [] → F_Arm_become_89 s0 t0 t1 = (some τ) → W p l e rm_Arm_become s m args below meth c H locs 0 0 (MQ below (QcV D cA ad (shC.take nC) A τ) args s 0 0 A) (F0 m 89 ls [.int t1, .ref (ad t0)]) := by
  have hx := K.1.1; have hb := K.1.2.1
  intro H locs ls s0 t0 t1 g_t0 hw hl hF
  unfold F_Arm_become_89 at hF
  refine r_putI K hw i_Arm t_Arm t_Arm_ok n_Arm (sh_Arm g_t0 (Nat.le_trans (Nat.le_of_ble_eq_true rfl) hn)) rfl 3 (by decide) w_151 rfl rfl rfl rfl rfl d_Arm_become_89 (fun s_20 f_s_20 H locs hw => ?_)
  replace hF := ltN hF f_s_20
  replace hF := sE1 hF
  subst hF
  exact r_vret K hw d_Arm_become_92
noncomputable def F_Arm_become_0 (s0 : St) (v0 : Nat) (v1 : Int32) (v2 : Int32) (v3 : Int32) : Option St := (lt (up1 s0 v0 0 v1) (fun s_1 => (lt (up1 s_1 v0 1 v2) (fun s_2 => (lt (up1 s_2 v0 2 v3) (fun s_3 => (lt (up1 s_3 v0 4 (24 : Int32)) (fun s_4 => (lt (up1 s_4 v0 5 (1111 : Int32)) (fun s_5 => (ob1 (F_Arm_isOf s_5 v0 (1 : Int32)) (fun r_6 => (if (r_6 = 0 ∨ r_6 = 1) then (lt (up1 s_5 v0 6 r_6) (fun s_7 => (ob1 (F_Arm_isOf s_7 v0 (3 : Int32)) (fun r_9 => (if (r_9 = 0 ∨ r_9 = 1) then (lt (up1 s_7 v0 7 r_9) (fun s_10 => (ob1 (F_Arm_isOf s_10 v0 (4 : Int32)) (fun r_12 => (if (r_12 = 0 ∨ r_12 = 1) then (lt (up1 s_10 v0 8 r_12) (fun s_13 => (ob1 (F_Arm_isOf s_13 v0 (5 : Int32)) (fun r_15 => (if (r_15 = 0 ∨ r_15 = 1) then (lt (up1 s_13 v0 9 r_15) (fun s_16 => (ob1 (F_Arm_isOf s_16 v0 (2 : Int32)) (fun r_18 => (if r_18 = 0 then (F_Arm_become_89 s_16 v0 (2 : Int32)) else (F_Arm_become_89 s_16 v0 (if (0 : Int32) < ((1 : Int32) - ((s_16.1 v0 2) / (5 : Int32))) then ((1 : Int32) - ((s_16.1 v0 2) / (5 : Int32))) else (0 : Int32)))))))) else none))))) else none))))) else none))))) else none)))))))))))))
set_option maxHeartbeats 4000000 in
set_option maxRecDepth 100000 in
theorem q_Arm_become_0 (hn : 33 ≤ nC) (K : Fx p s m args meth c b_Arm_become 4 R_Arm none)  : ∀ (H : Heap) (locs : List Loc) (ls : Array Slot) (s0 : St) (v0 : Nat) (v1 : Int32) (v2 : Int32) (v3 : Int32) (g_v0 : P_Arm v0), Wh D cA ad (shC.take nC) A s s0 H locs → lv_has ls 4 [(0, .ref (ad v0)), (1, .int v1), (2, .int v2), (3, .int v3)] → F_Arm_become_0 s0 v0 v1 v2 v3 = (some τ) → W p l e rm_Arm_become s m args below meth c H locs 0 0 (MQ below (QcV D cA ad (shC.take nC) A τ) args s 0 0 A) (F0 m 0 ls []) := by
  have hx := K.1.1; have hb := K.1.2.1
  intro H locs ls s0 v0 v1 v2 v3 g_v0 hw hl hF
  unfold F_Arm_become_0 at hF
  refine lv_aload_n hx hb d_Arm_become_0 rfl (lv_at hl 0 rfl) ?_
  refine lv_iload_n hx hb d_Arm_become_1 rfl (lv_at hl 1 rfl) ?_
  refine r_putI K hw i_Arm t_Arm t_Arm_ok n_Arm (sh_Arm g_v0 (Nat.le_trans (Nat.le_of_ble_eq_true rfl) hn)) rfl 0 (by decide) w_142 rfl rfl rfl rfl rfl d_Arm_become_2 (fun s_1 f_s_1 H locs hw => ?_)
  replace hF := ltN hF f_s_1
  refine lv_aload_n hx hb d_Arm_become_5 rfl (lv_at hl 0 rfl) ?_
  refine lv_iload_n hx hb d_Arm_become_6 rfl (lv_at hl 2 rfl) ?_
  refine r_putI K hw i_Arm t_Arm t_Arm_ok n_Arm (sh_Arm g_v0 (Nat.le_trans (Nat.le_of_ble_eq_true rfl) hn)) rfl 1 (by decide) w_144 rfl rfl rfl rfl rfl d_Arm_become_7 (fun s_2 f_s_2 H locs hw => ?_)
  replace hF := ltN hF f_s_2
  refine lv_aload_n hx hb d_Arm_become_10 rfl (lv_at hl 0 rfl) ?_
  refine lv_iload_n hx hb d_Arm_become_11 rfl (lv_at hl 3 rfl) ?_
  refine r_putI K hw i_Arm t_Arm t_Arm_ok n_Arm (sh_Arm g_v0 (Nat.le_trans (Nat.le_of_ble_eq_true rfl) hn)) rfl 2 (by decide) w_147 rfl rfl rfl rfl rfl d_Arm_become_12 (fun s_3 f_s_3 H locs hw => ?_)
  replace hF := ltN hF f_s_3
  refine lv_aload_n hx hb d_Arm_become_15 rfl (lv_at hl 0 rfl) ?_
  refine lv_bipush (v := 24) hx hb d_Arm_become_16 (by decide) ?_
  refine r_putI K hw i_Arm t_Arm t_Arm_ok n_Arm (sh_Arm g_v0 (Nat.le_trans (Nat.le_of_ble_eq_true rfl) hn)) rfl 4 (by decide) w_154 rfl rfl rfl rfl rfl d_Arm_become_18 (fun s_4 f_s_4 H locs hw => ?_)
  replace hF := ltN hF f_s_4
  refine lv_aload_n hx hb d_Arm_become_21 rfl (lv_at hl 0 rfl) ?_
  refine lv_sipush (v := 1111) hx hb d_Arm_become_22 (by decide) ?_
  refine r_putI K hw i_Arm t_Arm t_Arm_ok n_Arm (sh_Arm g_v0 (Nat.le_trans (Nat.le_of_ble_eq_true rfl) hn)) rfl 5 (by decide) w_157 rfl rfl rfl rfl rfl d_Arm_become_25 (fun s_5 f_s_5 H locs hw => ?_)
  replace hF := ltN hF f_s_5
  refine lv_aload_n hx hb d_Arm_become_28 rfl (lv_at hl 0 rfl) ?_
  refine lv_aload_n hx hb d_Arm_become_29 rfl (lv_at hl 0 rfl) ?_
  refine lv_iconst (v := 1) hx hb d_Arm_become_30 (by decide) ?_
  obtain ⟨r_6, h_r_6, hF⟩ := ob1E hF
  refine r_callVI (As := [.int (1 : Int32)]) (rest := [.ref (ad v0)]) K hw hl.1 (c_Arm_isOf (l := l) (D := D) (cA := cA) (ad := ad) (s0 := s_5) (Nat.le_trans (Nat.le_of_ble_eq_true rfl) hn) g_v0 h_r_6) (sh_Arm g_v0 (Nat.le_trans (Nat.le_of_ble_eq_true rfl) hn)) rfl (tb_gV w_697 w_698 w_699 w_66 w_700) a_Arm_isOf ⟨rfl, rfl, Nat.le_of_ble_eq_true rfl, Nat.le_of_ble_eq_true rfl⟩ rfl rfl (Nat.le_of_ble_eq_true rfl) d_Arm_become_31 (fun H locs hw => ?_)
  obtain ⟨g_8, hF⟩ := ifG hF
  refine r_putI K hw i_Arm t_Arm t_Arm_ok n_Arm (sh_Arm g_v0 (Nat.le_trans (Nat.le_of_ble_eq_true rfl) hn)) rfl 6 (by decide) w_159 rfl rfl rfl (zN g_8) (zF g_8) d_Arm_become_34 (fun s_7 f_s_7 H locs hw => ?_)
  replace hF := ltN hF f_s_7
  refine lv_aload_n hx hb d_Arm_become_37 rfl (lv_at hl 0 rfl) ?_
  refine lv_aload_n hx hb d_Arm_become_38 rfl (lv_at hl 0 rfl) ?_
  refine lv_iconst (v := 3) hx hb d_Arm_become_39 (by decide) ?_
  obtain ⟨r_9, h_r_9, hF⟩ := ob1E hF
  refine r_callVI (As := [.int (3 : Int32)]) (rest := [.ref (ad v0)]) K hw hl.1 (c_Arm_isOf (l := l) (D := D) (cA := cA) (ad := ad) (s0 := s_7) (Nat.le_trans (Nat.le_of_ble_eq_true rfl) hn) g_v0 h_r_9) (sh_Arm g_v0 (Nat.le_trans (Nat.le_of_ble_eq_true rfl) hn)) rfl (tb_gV w_697 w_698 w_699 w_66 w_700) a_Arm_isOf ⟨rfl, rfl, Nat.le_of_ble_eq_true rfl, Nat.le_of_ble_eq_true rfl⟩ rfl rfl (Nat.le_of_ble_eq_true rfl) d_Arm_become_40 (fun H locs hw => ?_)
  obtain ⟨g_11, hF⟩ := ifG hF
  refine r_putI K hw i_Arm t_Arm t_Arm_ok n_Arm (sh_Arm g_v0 (Nat.le_trans (Nat.le_of_ble_eq_true rfl) hn)) rfl 7 (by decide) w_160 rfl rfl rfl (zN g_11) (zF g_11) d_Arm_become_43 (fun s_10 f_s_10 H locs hw => ?_)
  replace hF := ltN hF f_s_10
  refine lv_aload_n hx hb d_Arm_become_46 rfl (lv_at hl 0 rfl) ?_
  refine lv_aload_n hx hb d_Arm_become_47 rfl (lv_at hl 0 rfl) ?_
  refine lv_iconst (v := 4) hx hb d_Arm_become_48 (by decide) ?_
  obtain ⟨r_12, h_r_12, hF⟩ := ob1E hF
  refine r_callVI (As := [.int (4 : Int32)]) (rest := [.ref (ad v0)]) K hw hl.1 (c_Arm_isOf (l := l) (D := D) (cA := cA) (ad := ad) (s0 := s_10) (Nat.le_trans (Nat.le_of_ble_eq_true rfl) hn) g_v0 h_r_12) (sh_Arm g_v0 (Nat.le_trans (Nat.le_of_ble_eq_true rfl) hn)) rfl (tb_gV w_697 w_698 w_699 w_66 w_700) a_Arm_isOf ⟨rfl, rfl, Nat.le_of_ble_eq_true rfl, Nat.le_of_ble_eq_true rfl⟩ rfl rfl (Nat.le_of_ble_eq_true rfl) d_Arm_become_49 (fun H locs hw => ?_)
  obtain ⟨g_14, hF⟩ := ifG hF
  refine r_putI K hw i_Arm t_Arm t_Arm_ok n_Arm (sh_Arm g_v0 (Nat.le_trans (Nat.le_of_ble_eq_true rfl) hn)) rfl 8 (by decide) w_161 rfl rfl rfl (zN g_14) (zF g_14) d_Arm_become_52 (fun s_13 f_s_13 H locs hw => ?_)
  replace hF := ltN hF f_s_13
  refine lv_aload_n hx hb d_Arm_become_55 rfl (lv_at hl 0 rfl) ?_
  refine lv_aload_n hx hb d_Arm_become_56 rfl (lv_at hl 0 rfl) ?_
  refine lv_iconst (v := 5) hx hb d_Arm_become_57 (by decide) ?_
  obtain ⟨r_15, h_r_15, hF⟩ := ob1E hF
  refine r_callVI (As := [.int (5 : Int32)]) (rest := [.ref (ad v0)]) K hw hl.1 (c_Arm_isOf (l := l) (D := D) (cA := cA) (ad := ad) (s0 := s_13) (Nat.le_trans (Nat.le_of_ble_eq_true rfl) hn) g_v0 h_r_15) (sh_Arm g_v0 (Nat.le_trans (Nat.le_of_ble_eq_true rfl) hn)) rfl (tb_gV w_697 w_698 w_699 w_66 w_700) a_Arm_isOf ⟨rfl, rfl, Nat.le_of_ble_eq_true rfl, Nat.le_of_ble_eq_true rfl⟩ rfl rfl (Nat.le_of_ble_eq_true rfl) d_Arm_become_58 (fun H locs hw => ?_)
  obtain ⟨g_17, hF⟩ := ifG hF
  refine r_putI K hw i_Arm t_Arm t_Arm_ok n_Arm (sh_Arm g_v0 (Nat.le_trans (Nat.le_of_ble_eq_true rfl) hn)) rfl 9 (by decide) w_162 rfl rfl rfl (zN g_17) (zF g_17) d_Arm_become_61 (fun s_16 f_s_16 H locs hw => ?_)
  replace hF := ltN hF f_s_16
  refine lv_aload_n hx hb d_Arm_become_64 rfl (lv_at hl 0 rfl) ?_
  refine lv_aload_n hx hb d_Arm_become_65 rfl (lv_at hl 0 rfl) ?_
  refine lv_iconst (v := 2) hx hb d_Arm_become_66 (by decide) ?_
  obtain ⟨r_18, h_r_18, hF⟩ := ob1E hF
  refine r_callVI (As := [.int (2 : Int32)]) (rest := [.ref (ad v0)]) K hw hl.1 (c_Arm_isOf (l := l) (D := D) (cA := cA) (ad := ad) (s0 := s_16) (Nat.le_trans (Nat.le_of_ble_eq_true rfl) hn) g_v0 h_r_18) (sh_Arm g_v0 (Nat.le_trans (Nat.le_of_ble_eq_true rfl) hn)) rfl (tb_gV w_697 w_698 w_699 w_66 w_700) a_Arm_isOf ⟨rfl, rfl, Nat.le_of_ble_eq_true rfl, Nat.le_of_ble_eq_true rfl⟩ rfl rfl (Nat.le_of_ble_eq_true rfl) d_Arm_become_67 (fun H locs hw => ?_)
  refine lv_if_eq (tgt := 88) hx hb d_Arm_become_70 (by decide) (fun c_19 => ?_) (fun c_19 => ?_)
  · replace hF := ifT hF c_19
    refine lv_iconst (v := 2) hx hb d_Arm_become_88 (by decide) ?_
    exact q_Arm_become_89 hn K _ _ _ _ _ _ g_v0 hw (lv_sub hl [] rfl) hF
  · replace hF := ifF hF c_19
    refine lv_iconst (v := 0) hx hb d_Arm_become_73 (by decide) ?_
    refine lv_iconst (v := 1) hx hb d_Arm_become_74 (by decide) ?_
    refine lv_aload_n hx hb d_Arm_become_75 rfl (lv_at hl 0 rfl) ?_
    refine r_get (v := .int (s_16.1 v0 2)) K hw i_Arm (sh_Arm g_v0 (Nat.le_trans (Nat.le_of_ble_eq_true rfl) hn)) rfl 2 (by decide) w_147 rfl rfl rfl d_Arm_become_76 ?_
    refine lv_iconst (v := 5) hx hb d_Arm_become_79 (by decide) ?_
    refine lv_idiv hx hb d_Arm_become_80 (by decide) ?_
    refine lv_isub hx hb d_Arm_become_81 ?_
    refine va_mmax (rest := [.ref (ad v0)]) hx hb (K.1.2.2.1.trans hl.1.symm) K.1.2.2.2.1 (K.1.2.2.2.2 _ w_704) (K.1.2.2.2.2 _ w_394) (K.1.2.2.2.2 _ w_75) (K.1.2.2.2.2 _ w_395) (Nat.le_of_ble_eq_true rfl) (Nat.le_of_ble_eq_true rfl) (Nat.zero_le _) (Nat.zero_le _) d_Arm_become_82 ?_
    refine lv_goto (tgt := 89) hx hb d_Arm_become_85 (by decide) ?_
    exact q_Arm_become_89 hn K _ _ _ _ _ _ g_v0 hw (lv_sub hl [] rfl) hF
end S_Arm_become
noncomputable abbrev F_Arm_become := F_Arm_become_0
theorem c_Arm_become {l : Launch} {D : va_G} {cA : Nat → ClassId} {ad : Nat → Nat} {s0 τ : St} {nC : Nat} (hn : 33 ≤ nC) {v0 : Nat} {v1 : Int32} {v2 : Int32} {v3 : Int32} (g_v0 : P_Arm v0) (hF : F_Arm_become s0 v0 v1 v2 v3 = (some τ)) : MV l D cA ad (shC.take nC) y_Arm_become (wT y_Arm_become b_Arm_become 4 none) rm_Arm_become [.ref (ad v0), .int v1, .int v2, .int v3] s0 τ := fun sz => m_start (Qc := fun A => QcV D cA ad (shC.take nC) A τ) (by decide +kernel) w_696 (Nat.le_of_ble_eq_true rfl) (fun p e s m below meth c ls K hl hw => q_Arm_become_0 hn K _ _ _ _ _ _ _ _ g_v0 hw hl hF)

/-! Main.armComes(III)I -/
abbrev b_Main_armComes : ByteArray := prog_1_method_45_code
def y_Main_armComes : MethodName := ⟨R_Main, "armComes", "(III)I"⟩
theorem a_Main_armComes : y_Main_armComes.cls = R_Main ∧ y_Main_armComes.cls ≠ "java/lang/invoke/MethodHandle" ∧ y_Main_armComes.cls ≠ "java/lang/invoke/VarHandle" ∧ (parseMethodDescriptor y_Main_armComes.desc).map (fun d => d.parameters.length) = some 3 := by decide +kernel
abbrev rm_Main_armComes : Room := { frames := 3, cells := 0, slots := 0, locals := 68 }
theorem w_693 : Cond.methodLink R_Main 305 y_Arm_become ∈ TB := tb_in 693 (by decide +kernel) (by decide +kernel)
theorem w_694 : Cond.instanceMethod y_Arm_become ∈ TB := tb_in 694 (by decide +kernel) (by decide +kernel)
theorem w_695 : Cond.selects R_Arm y_Arm_become y_Arm_become ∈ TB := tb_in 695 (by decide +kernel) (by decide +kernel)
theorem w_692 : Cond.code y_Main_armComes b_Main_armComes 4 (some .int) ∈ TB := tb_in 692 (by decide +kernel) (by decide +kernel)
theorem d_Main_armComes_0 : decode b_Main_armComes 0 = .ok (.iload_n 1, 1) := by decide +kernel
theorem d_Main_armComes_1 : decode b_Main_armComes 1 = .ok (.iconst 0, 1) := by decide +kernel
theorem d_Main_armComes_2 : decode b_Main_armComes 2 = .ok (.iconst 5, 1) := by decide +kernel
theorem d_Main_armComes_3 : decode b_Main_armComes 3 = .ok (.invokestatic 108, 3) := by decide +kernel
theorem d_Main_armComes_6 : decode b_Main_armComes 6 = .ok (.ifCond .eq 23, 3) := by decide +kernel
theorem d_Main_armComes_9 : decode b_Main_armComes 9 = .ok (.iload_n 2, 1) := by decide +kernel
theorem d_Main_armComes_10 : decode b_Main_armComes 10 = .ok (.iconst 0, 1) := by decide +kernel
theorem d_Main_armComes_11 : decode b_Main_armComes 11 = .ok (.bipush 99, 2) := by decide +kernel
theorem d_Main_armComes_13 : decode b_Main_armComes 13 = .ok (.invokestatic 108, 3) := by decide +kernel
theorem d_Main_armComes_16 : decode b_Main_armComes 16 = .ok (.ifCond .eq 13, 3) := by decide +kernel
theorem d_Main_armComes_19 : decode b_Main_armComes 19 = .ok (.iload_n 3, 1) := by decide +kernel
theorem d_Main_armComes_20 : decode b_Main_armComes 20 = .ok (.iconst 0, 1) := by decide +kernel
theorem d_Main_armComes_21 : decode b_Main_armComes 21 = .ok (.bipush 9, 2) := by decide +kernel
theorem d_Main_armComes_23 : decode b_Main_armComes 23 = .ok (.invokestatic 108, 3) := by decide +kernel
theorem d_Main_armComes_26 : decode b_Main_armComes 26 = .ok (.ifCond .ne 6, 3) := by decide +kernel
theorem d_Main_armComes_29 : decode b_Main_armComes 29 = .ok (.bipush (-2), 2) := by decide +kernel
theorem d_Main_armComes_31 : decode b_Main_armComes 31 = .ok (.ireturn, 1) := by decide +kernel
theorem d_Main_armComes_32 : decode b_Main_armComes 32 = .ok (.aload_n 0, 1) := by decide +kernel
theorem d_Main_armComes_33 : decode b_Main_armComes 33 = .ok (.getfield 99, 3) := by decide +kernel
theorem d_Main_armComes_36 : decode b_Main_armComes 36 = .ok (.bipush 6, 2) := by decide +kernel
theorem d_Main_armComes_38 : decode b_Main_armComes 38 = .ok (.if_icmp .lt 6, 3) := by decide +kernel
theorem d_Main_armComes_41 : decode b_Main_armComes 41 = .ok (.bipush (-4), 2) := by decide +kernel
theorem d_Main_armComes_43 : decode b_Main_armComes 43 = .ok (.ireturn, 1) := by decide +kernel
theorem d_Main_armComes_44 : decode b_Main_armComes 44 = .ok (.aload_n 0, 1) := by decide +kernel
theorem d_Main_armComes_45 : decode b_Main_armComes 45 = .ok (.getfield 11, 3) := by decide +kernel
theorem d_Main_armComes_48 : decode b_Main_armComes 48 = .ok (.aload_n 0, 1) := by decide +kernel
theorem d_Main_armComes_49 : decode b_Main_armComes 49 = .ok (.getfield 99, 3) := by decide +kernel
theorem d_Main_armComes_52 : decode b_Main_armComes 52 = .ok (.aaload, 1) := by decide +kernel
theorem d_Main_armComes_53 : decode b_Main_armComes 53 = .ok (.iload_n 1, 1) := by decide +kernel
theorem d_Main_armComes_54 : decode b_Main_armComes 54 = .ok (.iload_n 2, 1) := by decide +kernel
theorem d_Main_armComes_55 : decode b_Main_armComes 55 = .ok (.iload_n 3, 1) := by decide +kernel
theorem d_Main_armComes_56 : decode b_Main_armComes 56 = .ok (.invokevirtual 305, 3) := by decide +kernel
theorem d_Main_armComes_59 : decode b_Main_armComes 59 = .ok (.aload_n 0, 1) := by decide +kernel
theorem d_Main_armComes_60 : decode b_Main_armComes 60 = .ok (.dup, 1) := by decide +kernel
theorem d_Main_armComes_61 : decode b_Main_armComes 61 = .ok (.getfield 99, 3) := by decide +kernel
theorem d_Main_armComes_64 : decode b_Main_armComes 64 = .ok (.iconst 1, 1) := by decide +kernel
theorem d_Main_armComes_65 : decode b_Main_armComes 65 = .ok (.iadd, 1) := by decide +kernel
theorem d_Main_armComes_66 : decode b_Main_armComes 66 = .ok (.putfield 99, 3) := by decide +kernel
theorem d_Main_armComes_69 : decode b_Main_armComes 69 = .ok (.aload_n 0, 1) := by decide +kernel
theorem d_Main_armComes_70 : decode b_Main_armComes 70 = .ok (.getfield 99, 3) := by decide +kernel
theorem d_Main_armComes_73 : decode b_Main_armComes 73 = .ok (.iconst 1, 1) := by decide +kernel
theorem d_Main_armComes_74 : decode b_Main_armComes 74 = .ok (.isub, 1) := by decide +kernel
theorem d_Main_armComes_75 : decode b_Main_armComes 75 = .ok (.ireturn, 1) := by decide +kernel
section S_Main_armComes
variable {p : Program} {l : Launch} {e : Env} {s : State} {m : MethodId} {args : Array Value} {below : List Frame} {meth : Method} {c : Code} {D : va_G} {cA : Nat → ClassId} {ad : Nat → Nat} {nC : Nat} {A : Nat → Prop} {r : Int32} {τ : St}
noncomputable def F_Main_armComes_0 (s0 : St) (v1 : Int32) (v2 : Int32) (v3 : Int32) : Option (Int32 × St) := (if (F_Main_isWithin v1 (0 : Int32) (5 : Int32)) = 0 then (some ((-2 : Int32), s0)) else (if (F_Main_isWithin v2 (0 : Int32) (99 : Int32)) = 0 then (some ((-2 : Int32), s0)) else (if ¬ (F_Main_isWithin v3 (0 : Int32) (9 : Int32)) = 0 then (if (s0.1 20 1) < (6 : Int32) then (if inB (s0.1 20 1) 6 = true then (ob1 (F_Arm_become s0 (27 + (s0.1 20 1).toNatClampNeg) v1 v2 v3) (fun s_6 => (lt (up1 s_6 20 1 ((s_6.1 20 1) + (1 : Int32))) (fun s_7 => (some (((s_7.1 20 1) - (1 : Int32)), s_7)))))) else none) else (some ((-4 : Int32), s0))) else (some ((-2 : Int32), s0)))))
set_option maxHeartbeats 4000000 in
set_option maxRecDepth 100000 in
theorem q_Main_armComes_0 (hn : 33 ≤ nC) (K : Fx p s m args meth c b_Main_armComes 4 R_Main (some .int))  : ∀ (H : Heap) (locs : List Loc) (ls : Array Slot) (s0 : St) (v1 : Int32) (v2 : Int32) (v3 : Int32), Wh D cA ad (shC.take nC) A s s0 H locs → lv_has ls 4 [(0, .ref (ad 20)), (1, .int v1), (2, .int v2), (3, .int v3)] → F_Main_armComes_0 s0 v1 v2 v3 = (some (r, τ)) → W p l e rm_Main_armComes s m args below meth c H locs 0 0 (MQ below (QcI D cA ad (shC.take nC) A r τ) args s 0 0 A) (F0 m 0 ls []) := by
  have hx := K.1.1; have hb := K.1.2.1
  intro H locs ls s0 v1 v2 v3 hw hl hF
  unfold F_Main_armComes_0 at hF
  refine lv_iload_n hx hb d_Main_armComes_0 rfl (lv_at hl 1 rfl) ?_
  refine lv_iconst (v := 0) hx hb d_Main_armComes_1 (by decide) ?_
  refine lv_iconst (v := 5) hx hb d_Main_armComes_2 (by decide) ?_
  refine r_callSI (As := [.int v1, .int (0 : Int32), .int (5 : Int32)]) (rest := []) K hw hl.1 (c_Main_isWithin (l := l) (D := D) (cA := cA) (ad := ad) (s0 := s0) (Nat.le_trans (Nat.le_of_ble_eq_true rfl) hn)  rfl) (tb_gS w_640 w_347 w_63 w_348) a_Main_isWithin ⟨rfl, rfl, Nat.le_of_ble_eq_true rfl, Nat.le_of_ble_eq_true rfl⟩ rfl rfl (Nat.le_of_ble_eq_true rfl) d_Main_armComes_3 (fun H locs hw => ?_)
  refine lv_if_eq (tgt := 29) hx hb d_Main_armComes_6 (by decide) (fun c_1 => ?_) (fun c_1 => ?_)
  · replace hF := ifT hF c_1
    refine lv_bipush (v := -2) hx hb d_Main_armComes_29 (by decide) ?_
    obtain ⟨hF, hG⟩ := sE2 hF
    subst hF
    subst hG
    exact r_iret K hw d_Main_armComes_31
  · replace hF := ifF hF c_1
    refine lv_iload_n hx hb d_Main_armComes_9 rfl (lv_at hl 2 rfl) ?_
    refine lv_iconst (v := 0) hx hb d_Main_armComes_10 (by decide) ?_
    refine lv_bipush (v := 99) hx hb d_Main_armComes_11 (by decide) ?_
    refine r_callSI (As := [.int v2, .int (0 : Int32), .int (99 : Int32)]) (rest := []) K hw hl.1 (c_Main_isWithin (l := l) (D := D) (cA := cA) (ad := ad) (s0 := s0) (Nat.le_trans (Nat.le_of_ble_eq_true rfl) hn)  rfl) (tb_gS w_640 w_347 w_63 w_348) a_Main_isWithin ⟨rfl, rfl, Nat.le_of_ble_eq_true rfl, Nat.le_of_ble_eq_true rfl⟩ rfl rfl (Nat.le_of_ble_eq_true rfl) d_Main_armComes_13 (fun H locs hw => ?_)
    refine lv_if_eq (tgt := 29) hx hb d_Main_armComes_16 (by decide) (fun c_2 => ?_) (fun c_2 => ?_)
    · replace hF := ifT hF c_2
      refine lv_bipush (v := -2) hx hb d_Main_armComes_29 (by decide) ?_
      obtain ⟨hF, hG⟩ := sE2 hF
      subst hF
      subst hG
      exact r_iret K hw d_Main_armComes_31
    · replace hF := ifF hF c_2
      refine lv_iload_n hx hb d_Main_armComes_19 rfl (lv_at hl 3 rfl) ?_
      refine lv_iconst (v := 0) hx hb d_Main_armComes_20 (by decide) ?_
      refine lv_bipush (v := 9) hx hb d_Main_armComes_21 (by decide) ?_
      refine r_callSI (As := [.int v3, .int (0 : Int32), .int (9 : Int32)]) (rest := []) K hw hl.1 (c_Main_isWithin (l := l) (D := D) (cA := cA) (ad := ad) (s0 := s0) (Nat.le_trans (Nat.le_of_ble_eq_true rfl) hn)  rfl) (tb_gS w_640 w_347 w_63 w_348) a_Main_isWithin ⟨rfl, rfl, Nat.le_of_ble_eq_true rfl, Nat.le_of_ble_eq_true rfl⟩ rfl rfl (Nat.le_of_ble_eq_true rfl) d_Main_armComes_23 (fun H locs hw => ?_)
      refine lv_if_ne (tgt := 32) hx hb d_Main_armComes_26 (by decide) (fun c_3 => ?_) (fun c_3 => ?_)
      · replace hF := ifT hF c_3
        refine lv_aload_n hx hb d_Main_armComes_32 rfl (lv_at hl 0 rfl) ?_
        refine r_get (v := .int (s0.1 20 1)) K hw i_Main (sh_Main (Nat.le_trans (Nat.le_of_ble_eq_true rfl) hn)) rfl 1 (by decide) w_599 rfl rfl rfl d_Main_armComes_33 ?_
        refine lv_bipush (v := 6) hx hb d_Main_armComes_36 (by decide) ?_
        refine lv_icmp_lt (tgt := 44) hx hb d_Main_armComes_38 (by decide) (fun c_4 => ?_) (fun c_4 => ?_)
        · replace hF := ifT hF c_4
          refine lv_aload_n hx hb d_Main_armComes_44 rfl (lv_at hl 0 rfl) ?_
          refine r_get (v := .ref (ad 21)) K hw i_Main (sh_Main (Nat.le_trans (Nat.le_of_ble_eq_true rfl) hn)) rfl 0 (by decide) w_598 rfl rfl rfl d_Main_armComes_45 ?_
          refine lv_aload_n hx hb d_Main_armComes_48 rfl (lv_at hl 0 rfl) ?_
          refine r_get (v := .int (s0.1 20 1)) K hw i_Main (sh_Main (Nat.le_trans (Nat.le_of_ble_eq_true rfl) hn)) rfl 1 (by decide) w_599 rfl rfl rfl d_Main_armComes_49 ?_
          obtain ⟨g_5, hF⟩ := ifG hF
          refine r_aald (k := (s0.1 20 1).toNatClampNeg) K hw (sh_a21 (Nat.le_trans (Nat.le_of_ble_eq_true rfl) hn)) (rfl : (TYS cA)[1]? = some (cA 1, _)) rfl (inB_vp g_5) d_Main_armComes_52 ?_
          refine lv_iload_n hx hb d_Main_armComes_53 rfl (lv_at hl 1 rfl) ?_
          refine lv_iload_n hx hb d_Main_armComes_54 rfl (lv_at hl 2 rfl) ?_
          refine lv_iload_n hx hb d_Main_armComes_55 rfl (lv_at hl 3 rfl) ?_
          obtain ⟨s_6, h_s_6, hF⟩ := ob1E hF
          refine r_callVV (As := [.int v1, .int v2, .int v3]) (rest := []) K hw hl.1 (c_Arm_become (l := l) (D := D) (cA := cA) (ad := ad) (s0 := s0) (Nat.le_trans (Nat.le_of_ble_eq_true rfl) hn) (P_Arm_of g_5) h_s_6) (sh_Arm (P_Arm_of g_5) (Nat.le_trans (Nat.le_of_ble_eq_true rfl) hn)) rfl (tb_gV w_693 w_694 w_695 w_66 w_696) a_Arm_become ⟨rfl, rfl, Nat.le_of_ble_eq_true rfl, Nat.le_of_ble_eq_true rfl⟩ rfl rfl (Nat.le_of_ble_eq_true rfl) d_Main_armComes_56 (fun H locs hw => ?_)
          refine lv_aload_n hx hb d_Main_armComes_59 rfl (lv_at hl 0 rfl) ?_
          refine lv_dup hx hb d_Main_armComes_60 rfl ?_
          refine r_get (v := .int (s_6.1 20 1)) K hw i_Main (sh_Main (Nat.le_trans (Nat.le_of_ble_eq_true rfl) hn)) rfl 1 (by decide) w_599 rfl rfl rfl d_Main_armComes_61 ?_
          refine lv_iconst (v := 1) hx hb d_Main_armComes_64 (by decide) ?_
          refine lv_iadd hx hb d_Main_armComes_65 ?_
          refine r_putI K hw i_Main t_Main t_Main_ok n_Main (sh_Main (Nat.le_trans (Nat.le_of_ble_eq_true rfl) hn)) rfl 1 (by decide) w_599 rfl rfl rfl rfl rfl d_Main_armComes_66 (fun s_7 f_s_7 H locs hw => ?_)
          replace hF := ltN hF f_s_7
          refine lv_aload_n hx hb d_Main_armComes_69 rfl (lv_at hl 0 rfl) ?_
          refine r_get (v := .int (s_7.1 20 1)) K hw i_Main (sh_Main (Nat.le_trans (Nat.le_of_ble_eq_true rfl) hn)) rfl 1 (by decide) w_599 rfl rfl rfl d_Main_armComes_70 ?_
          refine lv_iconst (v := 1) hx hb d_Main_armComes_73 (by decide) ?_
          refine lv_isub hx hb d_Main_armComes_74 ?_
          obtain ⟨hF, hG⟩ := sE2 hF
          subst hF
          subst hG
          exact r_iret K hw d_Main_armComes_75
        · replace hF := ifF hF c_4
          refine lv_bipush (v := -4) hx hb d_Main_armComes_41 (by decide) ?_
          obtain ⟨hF, hG⟩ := sE2 hF
          subst hF
          subst hG
          exact r_iret K hw d_Main_armComes_43
      · replace hF := ifN hF c_3
        refine lv_bipush (v := -2) hx hb d_Main_armComes_29 (by decide) ?_
        obtain ⟨hF, hG⟩ := sE2 hF
        subst hF
        subst hG
        exact r_iret K hw d_Main_armComes_31
end S_Main_armComes
noncomputable abbrev F_Main_armComes := F_Main_armComes_0
theorem c_Main_armComes {l : Launch} {D : va_G} {cA : Nat → ClassId} {ad : Nat → Nat} {s0 τ : St} {nC : Nat} (hn : 33 ≤ nC) {r : Int32} {v1 : Int32} {v2 : Int32} {v3 : Int32}  (hF : F_Main_armComes s0 v1 v2 v3 = (some (r, τ))) : MI l D cA ad (shC.take nC) y_Main_armComes (wT y_Main_armComes b_Main_armComes 4 (some .int)) rm_Main_armComes [.ref (ad 20), .int v1, .int v2, .int v3] s0 r τ := fun sz => m_start (Qc := fun A => QcI D cA ad (shC.take nC) A r τ) (by decide +kernel) w_692 (Nat.le_of_ble_eq_true rfl) (fun p e s m below meth c ls K hl hw => q_Main_armComes_0 hn K _ _ _ _ _ _ _  hw hl hF)

/-! Main.arm(III)I -/
abbrev b_Main_arm : ByteArray := prog_1_method_7_code
def y_Main_arm : MethodName := ⟨R_Main, "arm", "(III)I"⟩
theorem a_Main_arm : y_Main_arm.cls = R_Main ∧ y_Main_arm.cls ≠ "java/lang/invoke/MethodHandle" ∧ y_Main_arm.cls ≠ "java/lang/invoke/VarHandle" ∧ (parseMethodDescriptor y_Main_arm.desc).map (fun d => d.parameters.length) = some 3 := by decide +kernel
abbrev rm_Main_arm : Room := { frames := 4, cells := 0, slots := 0, locals := 91 }
theorem w_689 : Cond.methodLink R_Main 148 y_Main_armComes ∈ TB := tb_in 689 (by decide +kernel) (by decide +kernel)
theorem w_691 : Cond.instanceMethod y_Main_armComes ∈ TB := tb_in 691 (by decide +kernel) (by decide +kernel)
theorem w_15 : Cond.selects R_Main y_Main_armComes y_Main_armComes ∈ TB := tb_in 15 (by decide +kernel) (by decide +kernel)
theorem w_688 : Cond.code y_Main_arm b_Main_arm 4 (some .int) ∈ TB := tb_in 688 (by decide +kernel) (by decide +kernel)
theorem d_Main_arm_0 : decode b_Main_arm 0 = .ok (.aload_n 0, 1) := by decide +kernel
theorem d_Main_arm_1 : decode b_Main_arm 1 = .ok (.iload_n 1, 1) := by decide +kernel
theorem d_Main_arm_2 : decode b_Main_arm 2 = .ok (.iload_n 2, 1) := by decide +kernel
theorem d_Main_arm_3 : decode b_Main_arm 3 = .ok (.iload_n 3, 1) := by decide +kernel
theorem d_Main_arm_4 : decode b_Main_arm 4 = .ok (.invokevirtual 148, 3) := by decide +kernel
theorem d_Main_arm_7 : decode b_Main_arm 7 = .ok (.ireturn, 1) := by decide +kernel
section S_Main_arm
variable {p : Program} {l : Launch} {e : Env} {s : State} {m : MethodId} {args : Array Value} {below : List Frame} {meth : Method} {c : Code} {D : va_G} {cA : Nat → ClassId} {ad : Nat → Nat} {nC : Nat} {A : Nat → Prop} {r : Int32} {τ : St}
noncomputable def F_Main_arm_0 (s0 : St) (v1 : Int32) (v2 : Int32) (v3 : Int32) : Option (Int32 × St) := (ob2 (F_Main_armComes s0 v1 v2 v3) (fun r_1 s_2 => (some (r_1, s_2))))
set_option maxHeartbeats 4000000 in
set_option maxRecDepth 100000 in
theorem q_Main_arm_0 (hn : 33 ≤ nC) (K : Fx p s m args meth c b_Main_arm 4 R_Main (some .int))  : ∀ (H : Heap) (locs : List Loc) (ls : Array Slot) (s0 : St) (v1 : Int32) (v2 : Int32) (v3 : Int32), Wh D cA ad (shC.take nC) A s s0 H locs → lv_has ls 4 [(0, .ref (ad 20)), (1, .int v1), (2, .int v2), (3, .int v3)] → F_Main_arm_0 s0 v1 v2 v3 = (some (r, τ)) → W p l e rm_Main_arm s m args below meth c H locs 0 0 (MQ below (QcI D cA ad (shC.take nC) A r τ) args s 0 0 A) (F0 m 0 ls []) := by
  have hx := K.1.1; have hb := K.1.2.1
  intro H locs ls s0 v1 v2 v3 hw hl hF
  unfold F_Main_arm_0 at hF
  refine lv_aload_n hx hb d_Main_arm_0 rfl (lv_at hl 0 rfl) ?_
  refine lv_iload_n hx hb d_Main_arm_1 rfl (lv_at hl 1 rfl) ?_
  refine lv_iload_n hx hb d_Main_arm_2 rfl (lv_at hl 2 rfl) ?_
  refine lv_iload_n hx hb d_Main_arm_3 rfl (lv_at hl 3 rfl) ?_
  obtain ⟨r_1, s_2, h_s_2, hF⟩ := ob2E hF
  refine r_callVI (As := [.int v1, .int v2, .int v3]) (rest := []) K hw hl.1 (c_Main_armComes (l := l) (D := D) (cA := cA) (ad := ad) (s0 := s0) (Nat.le_trans (Nat.le_of_ble_eq_true rfl) hn)  h_s_2) (sh_Main (Nat.le_trans (Nat.le_of_ble_eq_true rfl) hn)) rfl (tb_gV w_689 w_691 w_15 w_63 w_692) a_Main_armComes ⟨rfl, rfl, Nat.le_of_ble_eq_true rfl, Nat.le_of_ble_eq_true rfl⟩ rfl rfl (Nat.le_of_ble_eq_true rfl) d_Main_arm_4 (fun H locs hw => ?_)
  obtain ⟨hF, hG⟩ := sE2 hF
  subst hF
  subst hG
  exact r_iret K hw d_Main_arm_7
end S_Main_arm
noncomputable abbrev F_Main_arm := F_Main_arm_0
theorem c_Main_arm {l : Launch} {D : va_G} {cA : Nat → ClassId} {ad : Nat → Nat} {s0 τ : St} {nC : Nat} (hn : 33 ≤ nC) {r : Int32} {v1 : Int32} {v2 : Int32} {v3 : Int32}  (hF : F_Main_arm s0 v1 v2 v3 = (some (r, τ))) : MI l D cA ad (shC.take nC) y_Main_arm (wT y_Main_arm b_Main_arm 4 (some .int)) rm_Main_arm [.ref (ad 20), .int v1, .int v2, .int v3] s0 r τ := fun sz => m_start (Qc := fun A => QcI D cA ad (shC.take nC) A r τ) (by decide +kernel) w_688 (Nat.le_of_ble_eq_true rfl) (fun p e s m below meth c ls K hl hw => q_Main_arm_0 hn K _ _ _ _ _ _ _  hw hl hF)

/-! Main.isPlan(I)Z -/
abbrev b_Main_isPlan : ByteArray := prog_1_method_38_code
def y_Main_isPlan : MethodName := ⟨R_Main, "isPlan", "(I)Z"⟩
theorem a_Main_isPlan : y_Main_isPlan.cls = R_Main ∧ y_Main_isPlan.cls ≠ "java/lang/invoke/MethodHandle" ∧ y_Main_isPlan.cls ≠ "java/lang/invoke/VarHandle" ∧ (parseMethodDescriptor y_Main_isPlan.desc).map (fun d => d.parameters.length) = some 1 := by decide +kernel
abbrev rm_Main_isPlan : Room := { frames := 1, cells := 0, slots := 0, locals := 22 }
theorem w_711 : Cond.code y_Main_isPlan b_Main_isPlan 1 (some .boolean) ∈ TB := tb_in 711 (by decide +kernel) (by decide +kernel)
theorem d_Main_isPlan_0 : decode b_Main_isPlan 0 = .ok (.iload_n 0, 1) := by decide +kernel
theorem d_Main_isPlan_1 : decode b_Main_isPlan 1 = .ok (.iconst 0, 1) := by decide +kernel
theorem d_Main_isPlan_2 : decode b_Main_isPlan 2 = .ok (.sipush 3333, 3) := by decide +kernel
theorem d_Main_isPlan_5 : decode b_Main_isPlan 5 = .ok (.invokestatic 108, 3) := by decide +kernel
theorem d_Main_isPlan_8 : decode b_Main_isPlan 8 = .ok (.ifCond .eq 37, 3) := by decide +kernel
theorem d_Main_isPlan_11 : decode b_Main_isPlan 11 = .ok (.iload_n 0, 1) := by decide +kernel
theorem d_Main_isPlan_12 : decode b_Main_isPlan 12 = .ok (.bipush 100, 2) := by decide +kernel
theorem d_Main_isPlan_14 : decode b_Main_isPlan 14 = .ok (.idiv, 1) := by decide +kernel
theorem d_Main_isPlan_15 : decode b_Main_isPlan 15 = .ok (.bipush 10, 2) := by decide +kernel
theorem d_Main_isPlan_17 : decode b_Main_isPlan 17 = .ok (.irem, 1) := by decide +kernel
theorem d_Main_isPlan_18 : decode b_Main_isPlan 18 = .ok (.iconst 3, 1) := by decide +kernel
theorem d_Main_isPlan_19 : decode b_Main_isPlan 19 = .ok (.if_icmp .gt 26, 3) := by decide +kernel
theorem d_Main_isPlan_22 : decode b_Main_isPlan 22 = .ok (.iload_n 0, 1) := by decide +kernel
theorem d_Main_isPlan_23 : decode b_Main_isPlan 23 = .ok (.bipush 10, 2) := by decide +kernel
theorem d_Main_isPlan_25 : decode b_Main_isPlan 25 = .ok (.idiv, 1) := by decide +kernel
theorem d_Main_isPlan_26 : decode b_Main_isPlan 26 = .ok (.bipush 10, 2) := by decide +kernel
theorem d_Main_isPlan_28 : decode b_Main_isPlan 28 = .ok (.irem, 1) := by decide +kernel
theorem d_Main_isPlan_29 : decode b_Main_isPlan 29 = .ok (.iconst 3, 1) := by decide +kernel
theorem d_Main_isPlan_30 : decode b_Main_isPlan 30 = .ok (.if_icmp .gt 15, 3) := by decide +kernel
theorem d_Main_isPlan_33 : decode b_Main_isPlan 33 = .ok (.iload_n 0, 1) := by decide +kernel
theorem d_Main_isPlan_34 : decode b_Main_isPlan 34 = .ok (.bipush 10, 2) := by decide +kernel
theorem d_Main_isPlan_36 : decode b_Main_isPlan 36 = .ok (.irem, 1) := by decide +kernel
theorem d_Main_isPlan_37 : decode b_Main_isPlan 37 = .ok (.iconst 3, 1) := by decide +kernel
theorem d_Main_isPlan_38 : decode b_Main_isPlan 38 = .ok (.if_icmp .gt 7, 3) := by decide +kernel
theorem d_Main_isPlan_41 : decode b_Main_isPlan 41 = .ok (.iconst 1, 1) := by decide +kernel
theorem d_Main_isPlan_42 : decode b_Main_isPlan 42 = .ok (.goto 4, 3) := by decide +kernel
theorem d_Main_isPlan_45 : decode b_Main_isPlan 45 = .ok (.iconst 0, 1) := by decide +kernel
theorem d_Main_isPlan_46 : decode b_Main_isPlan 46 = .ok (.ireturn, 1) := by decide +kernel
section S_Main_isPlan
variable {p : Program} {l : Launch} {e : Env} {s : State} {m : MethodId} {args : Array Value} {below : List Frame} {meth : Method} {c : Code} {D : va_G} {cA : Nat → ClassId} {ad : Nat → Nat} {nC : Nat} {A : Nat → Prop} {r : Int32} {τ : St}
noncomputable def F_Main_isPlan_0 (v0 : Int32) : Int32 := (if (F_Main_isWithin v0 (0 : Int32) (3333 : Int32)) = 0 then (0 : Int32) else (if (3 : Int32) < (jrem (v0 / (100 : Int32)) (10 : Int32)) then (0 : Int32) else (if (3 : Int32) < (jrem (v0 / (10 : Int32)) (10 : Int32)) then (0 : Int32) else (if (3 : Int32) < (jrem v0 (10 : Int32)) then (0 : Int32) else (1 : Int32)))))
set_option maxHeartbeats 4000000 in
set_option maxRecDepth 100000 in
theorem q_Main_isPlan_0 (hn : 0 ≤ nC) (s0 : St) (K : Fx p s m args meth c b_Main_isPlan 1 R_Main (some .boolean))  : ∀ (H : Heap) (locs : List Loc) (ls : Array Slot) (v0 : Int32), Wh D cA ad (shC.take nC) A s s0 H locs → lv_has ls 1 [(0, .int v0)] → F_Main_isPlan_0 v0 = r → W p l e rm_Main_isPlan s m args below meth c H locs 0 0 (MQ below (QcI D cA ad (shC.take nC) A r s0) args s 0 0 A) (F0 m 0 ls []) := by
  have hx := K.1.1; have hb := K.1.2.1
  intro H locs ls v0 hw hl hF
  unfold F_Main_isPlan_0 at hF
  refine lv_iload_n hx hb d_Main_isPlan_0 rfl (lv_at hl 0 rfl) ?_
  refine lv_iconst (v := 0) hx hb d_Main_isPlan_1 (by decide) ?_
  refine lv_sipush (v := 3333) hx hb d_Main_isPlan_2 (by decide) ?_
  refine r_callSI (As := [.int v0, .int (0 : Int32), .int (3333 : Int32)]) (rest := []) K hw hl.1 (c_Main_isWithin (l := l) (D := D) (cA := cA) (ad := ad) (s0 := s0) (Nat.le_trans (Nat.le_of_ble_eq_true rfl) hn)  rfl) (tb_gS w_640 w_347 w_63 w_348) a_Main_isWithin ⟨rfl, rfl, Nat.le_of_ble_eq_true rfl, Nat.le_of_ble_eq_true rfl⟩ rfl rfl (Nat.le_of_ble_eq_true rfl) d_Main_isPlan_5 (fun H locs hw => ?_)
  refine lv_if_eq (tgt := 45) hx hb d_Main_isPlan_8 (by decide) (fun c_1 => ?_) (fun c_1 => ?_)
  · replace hF := ifT hF c_1
    refine lv_iconst (v := 0) hx hb d_Main_isPlan_45 (by decide) ?_
    subst hF
    exact r_zret K hw (by decide) d_Main_isPlan_46
  · replace hF := ifF hF c_1
    refine lv_iload_n hx hb d_Main_isPlan_11 rfl (lv_at hl 0 rfl) ?_
    refine lv_bipush (v := 100) hx hb d_Main_isPlan_12 (by decide) ?_
    refine lv_idiv hx hb d_Main_isPlan_14 (by decide) ?_
    refine lv_bipush (v := 10) hx hb d_Main_isPlan_15 (by decide) ?_
    refine lv_irem hx hb d_Main_isPlan_17 (by decide) ?_
    refine lv_iconst (v := 3) hx hb d_Main_isPlan_18 (by decide) ?_
    refine lv_icmp_gt (tgt := 45) hx hb d_Main_isPlan_19 (by decide) (fun c_2 => ?_) (fun c_2 => ?_)
    · replace hF := ifT hF c_2
      refine lv_iconst (v := 0) hx hb d_Main_isPlan_45 (by decide) ?_
      subst hF
      exact r_zret K hw (by decide) d_Main_isPlan_46
    · replace hF := ifF hF c_2
      refine lv_iload_n hx hb d_Main_isPlan_22 rfl (lv_at hl 0 rfl) ?_
      refine lv_bipush (v := 10) hx hb d_Main_isPlan_23 (by decide) ?_
      refine lv_idiv hx hb d_Main_isPlan_25 (by decide) ?_
      refine lv_bipush (v := 10) hx hb d_Main_isPlan_26 (by decide) ?_
      refine lv_irem hx hb d_Main_isPlan_28 (by decide) ?_
      refine lv_iconst (v := 3) hx hb d_Main_isPlan_29 (by decide) ?_
      refine lv_icmp_gt (tgt := 45) hx hb d_Main_isPlan_30 (by decide) (fun c_3 => ?_) (fun c_3 => ?_)
      · replace hF := ifT hF c_3
        refine lv_iconst (v := 0) hx hb d_Main_isPlan_45 (by decide) ?_
        subst hF
        exact r_zret K hw (by decide) d_Main_isPlan_46
      · replace hF := ifF hF c_3
        refine lv_iload_n hx hb d_Main_isPlan_33 rfl (lv_at hl 0 rfl) ?_
        refine lv_bipush (v := 10) hx hb d_Main_isPlan_34 (by decide) ?_
        refine lv_irem hx hb d_Main_isPlan_36 (by decide) ?_
        refine lv_iconst (v := 3) hx hb d_Main_isPlan_37 (by decide) ?_
        refine lv_icmp_gt (tgt := 45) hx hb d_Main_isPlan_38 (by decide) (fun c_4 => ?_) (fun c_4 => ?_)
        · replace hF := ifT hF c_4
          refine lv_iconst (v := 0) hx hb d_Main_isPlan_45 (by decide) ?_
          subst hF
          exact r_zret K hw (by decide) d_Main_isPlan_46
        · replace hF := ifF hF c_4
          refine lv_iconst (v := 1) hx hb d_Main_isPlan_41 (by decide) ?_
          refine lv_goto (tgt := 46) hx hb d_Main_isPlan_42 (by decide) ?_
          subst hF
          exact r_zret K hw (by decide) d_Main_isPlan_46
end S_Main_isPlan
noncomputable abbrev F_Main_isPlan := F_Main_isPlan_0
theorem c_Main_isPlan {l : Launch} {D : va_G} {cA : Nat → ClassId} {ad : Nat → Nat} {s0 : St} {nC : Nat} (hn : 0 ≤ nC) {r : Int32} {v0 : Int32}  (hF : F_Main_isPlan v0 = r) : MI l D cA ad (shC.take nC) y_Main_isPlan (wT y_Main_isPlan b_Main_isPlan 1 (some .boolean)) rm_Main_isPlan [.int v0] s0 r s0 := fun sz => m_start (Qc := fun A => QcI D cA ad (shC.take nC) A r s0) (by decide +kernel) w_711 (Nat.le_of_ble_eq_true rfl) (fun p e s m below meth c ls K hl hw => q_Main_isPlan_0 hn s0 K _ _ _ _  hw hl hF)
