/-! Main.rings(I)I -/
abbrev b_Main_rings : ByteArray := prog_1_method_20_code
def y_Main_rings : MethodName := ⟨R_Main, "rings", "(I)I"⟩
theorem a_Main_rings : y_Main_rings.cls = R_Main ∧ y_Main_rings.cls ≠ "java/lang/invoke/MethodHandle" ∧ y_Main_rings.cls ≠ "java/lang/invoke/VarHandle" ∧ (parseMethodDescriptor y_Main_rings.desc).map (fun d => d.parameters.length) = some 1 := by decide +kernel
abbrev rm_Main_rings : Room := { frames := 7, cells := 0, slots := 0, locals := 162 }
theorem w_865 : Cond.code y_Main_rings b_Main_rings 9 (some .int) ∈ TB := tb_in 865 (by decide +kernel) (by decide +kernel)
theorem d_Main_rings_0 : decode b_Main_rings 0 = .ok (.iload_n 1, 1) := by decide +kernel
theorem d_Main_rings_1 : decode b_Main_rings 1 = .ok (.iconst 0, 1) := by decide +kernel
theorem d_Main_rings_2 : decode b_Main_rings 2 = .ok (.iconst 1, 1) := by decide +kernel
theorem d_Main_rings_3 : decode b_Main_rings 3 = .ok (.invokestatic 108, 3) := by decide +kernel
theorem d_Main_rings_6 : decode b_Main_rings 6 = .ok (.ifCond .ne 6, 3) := by decide +kernel
theorem d_Main_rings_9 : decode b_Main_rings 9 = .ok (.bipush (-2), 2) := by decide +kernel
theorem d_Main_rings_11 : decode b_Main_rings 11 = .ok (.ireturn, 1) := by decide +kernel
theorem d_Main_rings_12 : decode b_Main_rings 12 = .ok (.iconst 0, 1) := by decide +kernel
theorem d_Main_rings_13 : decode b_Main_rings 13 = .ok (.istore_n 2, 1) := by decide +kernel
theorem d_Main_rings_14 : decode b_Main_rings 14 = .ok (.iconst (-1), 1) := by decide +kernel
theorem d_Main_rings_15 : decode b_Main_rings 15 = .ok (.istore_n 3, 1) := by decide +kernel
theorem d_Main_rings_16 : decode b_Main_rings 16 = .ok (.iconst 0, 1) := by decide +kernel
theorem d_Main_rings_17 : decode b_Main_rings 17 = .ok (.istore 4, 2) := by decide +kernel
theorem d_Main_rings_19 : decode b_Main_rings 19 = .ok (.iload 4, 2) := by decide +kernel
theorem d_Main_rings_21 : decode b_Main_rings 21 = .ok (.aload_n 0, 1) := by decide +kernel
theorem d_Main_rings_22 : decode b_Main_rings 22 = .ok (.getfield 99, 3) := by decide +kernel
theorem d_Main_rings_25 : decode b_Main_rings 25 = .ok (.if_icmp .ge 136, 3) := by decide +kernel
theorem d_Main_rings_28 : decode b_Main_rings 28 = .ok (.aload_n 0, 1) := by decide +kernel
theorem d_Main_rings_29 : decode b_Main_rings 29 = .ok (.iload 4, 2) := by decide +kernel
theorem d_Main_rings_31 : decode b_Main_rings 31 = .ok (.invokevirtual 242, 3) := by decide +kernel
theorem d_Main_rings_34 : decode b_Main_rings 34 = .ok (.istore 5, 2) := by decide +kernel
theorem d_Main_rings_36 : decode b_Main_rings 36 = .ok (.iload 4, 2) := by decide +kernel
theorem d_Main_rings_38 : decode b_Main_rings 38 = .ok (.iconst 1, 1) := by decide +kernel
theorem d_Main_rings_39 : decode b_Main_rings 39 = .ok (.iadd, 1) := by decide +kernel
theorem d_Main_rings_40 : decode b_Main_rings 40 = .ok (.istore 6, 2) := by decide +kernel
theorem d_Main_rings_42 : decode b_Main_rings 42 = .ok (.iload 6, 2) := by decide +kernel
theorem d_Main_rings_44 : decode b_Main_rings 44 = .ok (.aload_n 0, 1) := by decide +kernel
theorem d_Main_rings_45 : decode b_Main_rings 45 = .ok (.getfield 99, 3) := by decide +kernel
theorem d_Main_rings_48 : decode b_Main_rings 48 = .ok (.if_icmp .ge 107, 3) := by decide +kernel
theorem d_Main_rings_51 : decode b_Main_rings 51 = .ok (.iload 5, 2) := by decide +kernel
theorem d_Main_rings_53 : decode b_Main_rings 53 = .ok (.iload 6, 2) := by decide +kernel
theorem d_Main_rings_55 : decode b_Main_rings 55 = .ok (.invokestatic 226, 3) := by decide +kernel
theorem d_Main_rings_58 : decode b_Main_rings 58 = .ok (.ifCond .eq 12, 3) := by decide +kernel
theorem d_Main_rings_61 : decode b_Main_rings 61 = .ok (.aload_n 0, 1) := by decide +kernel
theorem d_Main_rings_62 : decode b_Main_rings 62 = .ok (.iload 6, 2) := by decide +kernel
theorem d_Main_rings_64 : decode b_Main_rings 64 = .ok (.invokevirtual 242, 3) := by decide +kernel
theorem d_Main_rings_67 : decode b_Main_rings 67 = .ok (.goto 4, 3) := by decide +kernel
theorem d_Main_rings_70 : decode b_Main_rings 70 = .ok (.iconst 0, 1) := by decide +kernel
theorem d_Main_rings_71 : decode b_Main_rings 71 = .ok (.istore 7, 2) := by decide +kernel
theorem d_Main_rings_73 : decode b_Main_rings 73 = .ok (.iload 4, 2) := by decide +kernel
theorem d_Main_rings_75 : decode b_Main_rings 75 = .ok (.iconst 1, 1) := by decide +kernel
theorem d_Main_rings_76 : decode b_Main_rings 76 = .ok (.iadd, 1) := by decide +kernel
theorem d_Main_rings_77 : decode b_Main_rings 77 = .ok (.istore 8, 2) := by decide +kernel
theorem d_Main_rings_79 : decode b_Main_rings 79 = .ok (.iload 8, 2) := by decide +kernel
theorem d_Main_rings_81 : decode b_Main_rings 81 = .ok (.aload_n 0, 1) := by decide +kernel
theorem d_Main_rings_82 : decode b_Main_rings 82 = .ok (.getfield 99, 3) := by decide +kernel
theorem d_Main_rings_85 : decode b_Main_rings 85 = .ok (.if_icmp .ge 64, 3) := by decide +kernel
theorem d_Main_rings_88 : decode b_Main_rings 88 = .ok (.iload 7, 2) := by decide +kernel
theorem d_Main_rings_90 : decode b_Main_rings 90 = .ok (.iload 8, 2) := by decide +kernel
theorem d_Main_rings_92 : decode b_Main_rings 92 = .ok (.invokestatic 226, 3) := by decide +kernel
theorem d_Main_rings_95 : decode b_Main_rings 95 = .ok (.ifCond .eq 48, 3) := by decide +kernel
theorem d_Main_rings_98 : decode b_Main_rings 98 = .ok (.aload_n 0, 1) := by decide +kernel
theorem d_Main_rings_99 : decode b_Main_rings 99 = .ok (.iload 8, 2) := by decide +kernel
theorem d_Main_rings_101 : decode b_Main_rings 101 = .ok (.invokevirtual 242, 3) := by decide +kernel
theorem d_Main_rings_104 : decode b_Main_rings 104 = .ok (.iload 4, 2) := by decide +kernel
theorem d_Main_rings_106 : decode b_Main_rings 106 = .ok (.invokestatic 226, 3) := by decide +kernel
theorem d_Main_rings_109 : decode b_Main_rings 109 = .ok (.ifCond .ne 6, 3) := by decide +kernel
theorem d_Main_rings_112 : decode b_Main_rings 112 = .ok (.goto 31, 3) := by decide +kernel
theorem d_Main_rings_115 : decode b_Main_rings 115 = .ok (.iload_n 2, 1) := by decide +kernel
theorem d_Main_rings_116 : decode b_Main_rings 116 = .ok (.ifCond .ne 24, 3) := by decide +kernel
theorem d_Main_rings_119 : decode b_Main_rings 119 = .ok (.bipush 100, 2) := by decide +kernel
theorem d_Main_rings_121 : decode b_Main_rings 121 = .ok (.iload 4, 2) := by decide +kernel
theorem d_Main_rings_123 : decode b_Main_rings 123 = .ok (.iconst 1, 1) := by decide +kernel
theorem d_Main_rings_124 : decode b_Main_rings 124 = .ok (.iadd, 1) := by decide +kernel
theorem d_Main_rings_125 : decode b_Main_rings 125 = .ok (.imul, 1) := by decide +kernel
theorem d_Main_rings_126 : decode b_Main_rings 126 = .ok (.bipush 10, 2) := by decide +kernel
theorem d_Main_rings_128 : decode b_Main_rings 128 = .ok (.iload 6, 2) := by decide +kernel
theorem d_Main_rings_130 : decode b_Main_rings 130 = .ok (.iconst 1, 1) := by decide +kernel
theorem d_Main_rings_131 : decode b_Main_rings 131 = .ok (.iadd, 1) := by decide +kernel
theorem d_Main_rings_132 : decode b_Main_rings 132 = .ok (.imul, 1) := by decide +kernel
theorem d_Main_rings_133 : decode b_Main_rings 133 = .ok (.iadd, 1) := by decide +kernel
theorem d_Main_rings_134 : decode b_Main_rings 134 = .ok (.iload 8, 2) := by decide +kernel
theorem d_Main_rings_136 : decode b_Main_rings 136 = .ok (.iadd, 1) := by decide +kernel
theorem d_Main_rings_137 : decode b_Main_rings 137 = .ok (.iconst 1, 1) := by decide +kernel
theorem d_Main_rings_138 : decode b_Main_rings 138 = .ok (.iadd, 1) := by decide +kernel
theorem d_Main_rings_139 : decode b_Main_rings 139 = .ok (.istore_n 3, 1) := by decide +kernel
theorem d_Main_rings_140 : decode b_Main_rings 140 = .ok (.iinc 2 1, 3) := by decide +kernel
theorem d_Main_rings_143 : decode b_Main_rings 143 = .ok (.iinc 8 1, 3) := by decide +kernel
theorem d_Main_rings_146 : decode b_Main_rings 146 = .ok (.goto (-67), 3) := by decide +kernel
theorem d_Main_rings_149 : decode b_Main_rings 149 = .ok (.iinc 6 1, 3) := by decide +kernel
theorem d_Main_rings_152 : decode b_Main_rings 152 = .ok (.goto (-110), 3) := by decide +kernel
theorem d_Main_rings_155 : decode b_Main_rings 155 = .ok (.iinc 4 1, 3) := by decide +kernel
theorem d_Main_rings_158 : decode b_Main_rings 158 = .ok (.goto (-139), 3) := by decide +kernel
theorem d_Main_rings_161 : decode b_Main_rings 161 = .ok (.iload_n 1, 1) := by decide +kernel
theorem d_Main_rings_162 : decode b_Main_rings 162 = .ok (.ifCond .ne 7, 3) := by decide +kernel
theorem d_Main_rings_165 : decode b_Main_rings 165 = .ok (.iload_n 2, 1) := by decide +kernel
theorem d_Main_rings_166 : decode b_Main_rings 166 = .ok (.goto 4, 3) := by decide +kernel
theorem d_Main_rings_169 : decode b_Main_rings 169 = .ok (.iload_n 3, 1) := by decide +kernel
theorem d_Main_rings_170 : decode b_Main_rings 170 = .ok (.ireturn, 1) := by decide +kernel
section S_Main_rings
variable {p : Program} {l : Launch} {e : Env} {s : State} {m : MethodId} {args : Array Value} {below : List Frame} {meth : Method} {c : Code} {D : va_G} {cA : Nat → ClassId} {ad : Nat → Nat} {A : Nat → Prop} {r : Int32} {τ : St}
def F_Main_rings_143 (k13 : (St → Int32 → Int32 → Int32 → Int32 → Option (Int32 × St))) (k25 : (St → Int32 → Int32 → Int32 → Int32 → Int32 → Int32 → Option (Int32 × St))) (k43 : (St → Int32 → Int32 → Int32 → Int32 → Int32 → Int32 → Int32 → Int32 → Option (Int32 × St))) (s0 : St) (v1 : Int32) (v2 : Int32) (v3 : Int32) (v4 : Int32) (v5 : Int32) (v6 : Int32) (v7 : Int32) (v8 : Int32) : Option (Int32 × St) := (k43 s0 v1 v2 v3 v4 v5 v6 v7 (v8 + 1))
set_option maxHeartbeats 4000000 in
set_option maxRecDepth 100000 in
theorem q_Main_rings_143 (K : Fx p s m args meth c b_Main_rings 9 R_Main (some .int)) (k13 : (St → Int32 → Int32 → Int32 → Int32 → Option (Int32 × St))) (hk13 : ∀ (H : Heap) (locs : List Loc) (ls : Array Slot) (s0 : St) (v1 : Int32) (v2 : Int32) (v3 : Int32) (v4 : Int32), Wh D cA ad shC A s s0 H locs → lv_has ls 9 [(0, .ref (ad 0)), (1, .int v1), (2, .int v2), (3, .int v3), (4, .int v4)] → k13 s0 v1 v2 v3 v4 = (some (r, τ)) → W p l e rm_Main_rings s m args below meth c H locs 0 0 (MQ below (QcI D cA ad shC A r τ) args s 0 0 A) (F0 m 19 ls [])) (k25 : (St → Int32 → Int32 → Int32 → Int32 → Int32 → Int32 → Option (Int32 × St))) (hk25 : ∀ (H : Heap) (locs : List Loc) (ls : Array Slot) (s0 : St) (v1 : Int32) (v2 : Int32) (v3 : Int32) (v4 : Int32) (v5 : Int32) (v6 : Int32), Wh D cA ad shC A s s0 H locs → lv_has ls 9 [(0, .ref (ad 0)), (1, .int v1), (2, .int v2), (3, .int v3), (4, .int v4), (5, .int v5), (6, .int v6)] → k25 s0 v1 v2 v3 v4 v5 v6 = (some (r, τ)) → W p l e rm_Main_rings s m args below meth c H locs 0 0 (MQ below (QcI D cA ad shC A r τ) args s 0 0 A) (F0 m 42 ls [])) (k43 : (St → Int32 → Int32 → Int32 → Int32 → Int32 → Int32 → Int32 → Int32 → Option (Int32 × St))) (hk43 : ∀ (H : Heap) (locs : List Loc) (ls : Array Slot) (s0 : St) (v1 : Int32) (v2 : Int32) (v3 : Int32) (v4 : Int32) (v5 : Int32) (v6 : Int32) (v7 : Int32) (v8 : Int32), Wh D cA ad shC A s s0 H locs → lv_has ls 9 [(0, .ref (ad 0)), (1, .int v1), (2, .int v2), (3, .int v3), (4, .int v4), (5, .int v5), (6, .int v6), (7, .int v7), (8, .int v8)] → k43 s0 v1 v2 v3 v4 v5 v6 v7 v8 = (some (r, τ)) → W p l e rm_Main_rings s m args below meth c H locs 0 0 (MQ below (QcI D cA ad shC A r τ) args s 0 0 A) (F0 m 79 ls [])) : ∀ (H : Heap) (locs : List Loc) (ls : Array Slot) (s0 : St) (v1 : Int32) (v2 : Int32) (v3 : Int32) (v4 : Int32) (v5 : Int32) (v6 : Int32) (v7 : Int32) (v8 : Int32), Wh D cA ad shC A s s0 H locs → lv_has ls 9 [(0, .ref (ad 0)), (1, .int v1), (2, .int v2), (3, .int v3), (4, .int v4), (5, .int v5), (6, .int v6), (7, .int v7), (8, .int v8)] → F_Main_rings_143 k13 k25 k43 s0 v1 v2 v3 v4 v5 v6 v7 v8 = (some (r, τ)) → W p l e rm_Main_rings s m args below meth c H locs 0 0 (MQ below (QcI D cA ad shC A r τ) args s 0 0 A) (F0 m 143 ls []) := by
  have hx := K.1.1; have hb := K.1.2.1
  intro H locs ls s0 v1 v2 v3 v4 v5 v6 v7 v8 hw hl hF
  unfold F_Main_rings_143 at hF
  refine lv_iinc (v := (v8 + 1)) (lv' := [(8, .int (v8 + 1)), (0, .ref (ad 0)), (1, .int v1), (2, .int v2), (3, .int v3), (4, .int v4), (5, .int v5), (6, .int v6), (7, .int v7)]) hx hb d_Main_rings_143 hl (k := 8) rfl rfl (by decide) rfl (fun ls hl => ?_)
  refine lv_goto (tgt := 79) hx hb d_Main_rings_146 (by decide) ?_
  exact hk43 _ _ _ _ _ _ _ _ _ _ _ _  hw (lv_sub hl [1, 2, 3, 4, 5, 6, 7, 8, 0] rfl) hF
def F_Main_rings_140 (k13 : (St → Int32 → Int32 → Int32 → Int32 → Option (Int32 × St))) (k25 : (St → Int32 → Int32 → Int32 → Int32 → Int32 → Int32 → Option (Int32 × St))) (k43 : (St → Int32 → Int32 → Int32 → Int32 → Int32 → Int32 → Int32 → Int32 → Option (Int32 × St))) (s0 : St) (v1 : Int32) (v2 : Int32) (v3 : Int32) (v4 : Int32) (v5 : Int32) (v6 : Int32) (v7 : Int32) (v8 : Int32) : Option (Int32 × St) := (F_Main_rings_143 k13 k25 k43 s0 v1 (v2 + 1) v3 v4 v5 v6 v7 v8)
set_option maxHeartbeats 4000000 in
set_option maxRecDepth 100000 in
theorem q_Main_rings_140 (K : Fx p s m args meth c b_Main_rings 9 R_Main (some .int)) (k13 : (St → Int32 → Int32 → Int32 → Int32 → Option (Int32 × St))) (hk13 : ∀ (H : Heap) (locs : List Loc) (ls : Array Slot) (s0 : St) (v1 : Int32) (v2 : Int32) (v3 : Int32) (v4 : Int32), Wh D cA ad shC A s s0 H locs → lv_has ls 9 [(0, .ref (ad 0)), (1, .int v1), (2, .int v2), (3, .int v3), (4, .int v4)] → k13 s0 v1 v2 v3 v4 = (some (r, τ)) → W p l e rm_Main_rings s m args below meth c H locs 0 0 (MQ below (QcI D cA ad shC A r τ) args s 0 0 A) (F0 m 19 ls [])) (k25 : (St → Int32 → Int32 → Int32 → Int32 → Int32 → Int32 → Option (Int32 × St))) (hk25 : ∀ (H : Heap) (locs : List Loc) (ls : Array Slot) (s0 : St) (v1 : Int32) (v2 : Int32) (v3 : Int32) (v4 : Int32) (v5 : Int32) (v6 : Int32), Wh D cA ad shC A s s0 H locs → lv_has ls 9 [(0, .ref (ad 0)), (1, .int v1), (2, .int v2), (3, .int v3), (4, .int v4), (5, .int v5), (6, .int v6)] → k25 s0 v1 v2 v3 v4 v5 v6 = (some (r, τ)) → W p l e rm_Main_rings s m args below meth c H locs 0 0 (MQ below (QcI D cA ad shC A r τ) args s 0 0 A) (F0 m 42 ls [])) (k43 : (St → Int32 → Int32 → Int32 → Int32 → Int32 → Int32 → Int32 → Int32 → Option (Int32 × St))) (hk43 : ∀ (H : Heap) (locs : List Loc) (ls : Array Slot) (s0 : St) (v1 : Int32) (v2 : Int32) (v3 : Int32) (v4 : Int32) (v5 : Int32) (v6 : Int32) (v7 : Int32) (v8 : Int32), Wh D cA ad shC A s s0 H locs → lv_has ls 9 [(0, .ref (ad 0)), (1, .int v1), (2, .int v2), (3, .int v3), (4, .int v4), (5, .int v5), (6, .int v6), (7, .int v7), (8, .int v8)] → k43 s0 v1 v2 v3 v4 v5 v6 v7 v8 = (some (r, τ)) → W p l e rm_Main_rings s m args below meth c H locs 0 0 (MQ below (QcI D cA ad shC A r τ) args s 0 0 A) (F0 m 79 ls [])) : ∀ (H : Heap) (locs : List Loc) (ls : Array Slot) (s0 : St) (v1 : Int32) (v2 : Int32) (v3 : Int32) (v4 : Int32) (v5 : Int32) (v6 : Int32) (v7 : Int32) (v8 : Int32), Wh D cA ad shC A s s0 H locs → lv_has ls 9 [(0, .ref (ad 0)), (1, .int v1), (2, .int v2), (3, .int v3), (4, .int v4), (5, .int v5), (6, .int v6), (7, .int v7), (8, .int v8)] → F_Main_rings_140 k13 k25 k43 s0 v1 v2 v3 v4 v5 v6 v7 v8 = (some (r, τ)) → W p l e rm_Main_rings s m args below meth c H locs 0 0 (MQ below (QcI D cA ad shC A r τ) args s 0 0 A) (F0 m 140 ls []) := by
  have hx := K.1.1; have hb := K.1.2.1
  intro H locs ls s0 v1 v2 v3 v4 v5 v6 v7 v8 hw hl hF
  unfold F_Main_rings_140 at hF
  refine lv_iinc (v := (v2 + 1)) (lv' := [(2, .int (v2 + 1)), (0, .ref (ad 0)), (1, .int v1), (3, .int v3), (4, .int v4), (5, .int v5), (6, .int v6), (7, .int v7), (8, .int v8)]) hx hb d_Main_rings_140 hl (k := 2) rfl rfl (by decide) rfl (fun ls hl => ?_)
  exact q_Main_rings_143 K k13 hk13 k25 hk25 k43 hk43 _ _ _ _ _ _ _ _ _ _ _ _  hw (lv_sub hl [1, 2, 0, 3, 4, 5, 6, 7, 8] rfl) hF
def F_Main_rings_79 (k13 : (St → Int32 → Int32 → Int32 → Int32 → Option (Int32 × St))) (k25 : (St → Int32 → Int32 → Int32 → Int32 → Int32 → Int32 → Option (Int32 × St))) : Nat → St → Int32 → Int32 → Int32 → Int32 → Int32 → Int32 → Int32 → Int32 → Option (Int32 × St)
  | 0, _, _, _, _, _, _, _, _, _ => none
  | n + 1, s0, v1, v2, v3, v4, v5, v6, v7, v8 => (if (s0.1 0 1) ≤ v8 then (k25 s0 v1 v2 v3 v4 v5 (v6 + 1)) else (if (F_Main_has v7 v8) = 0 then (F_Main_rings_143 k13 k25 (fun z0 zv1 zv2 zv3 zv4 zv5 zv6 zv7 zv8 => F_Main_rings_79 k13 k25 n z0 zv1 zv2 zv3 zv4 zv5 zv6 zv7 zv8) s0 v1 v2 v3 v4 v5 v6 v7 v8) else (ob2 (F_Main_beaten s0 v8) (fun r_10 s_11 => (if ¬ (F_Main_has r_10 v4) = 0 then (if ¬ v2 = 0 then (F_Main_rings_140 k13 k25 (fun z0 zv1 zv2 zv3 zv4 zv5 zv6 zv7 zv8 => F_Main_rings_79 k13 k25 n z0 zv1 zv2 zv3 zv4 zv5 zv6 zv7 zv8) s_11 v1 v2 v3 v4 v5 v6 v7 v8) else (lt ((((((100 : Int32) * (v4 + (1 : Int32))) + ((10 : Int32) * (v6 + (1 : Int32)))) + v8) + (1 : Int32))) (fun w_14 => (F_Main_rings_140 k13 k25 (fun z0 zv1 zv2 zv3 zv4 zv5 zv6 zv7 zv8 => F_Main_rings_79 k13 k25 n z0 zv1 zv2 zv3 zv4 zv5 zv6 zv7 zv8) s_11 v1 v2 w_14 v4 v5 v6 v7 v8)))) else (F_Main_rings_143 k13 k25 (fun z0 zv1 zv2 zv3 zv4 zv5 zv6 zv7 zv8 => F_Main_rings_79 k13 k25 n z0 zv1 zv2 zv3 zv4 zv5 zv6 zv7 zv8) s_11 v1 v2 v3 v4 v5 v6 v7 v8))))))
set_option maxHeartbeats 4000000 in
set_option maxRecDepth 100000 in
theorem q_Main_rings_79 (K : Fx p s m args meth c b_Main_rings 9 R_Main (some .int)) (k13 : (St → Int32 → Int32 → Int32 → Int32 → Option (Int32 × St))) (hk13 : ∀ (H : Heap) (locs : List Loc) (ls : Array Slot) (s0 : St) (v1 : Int32) (v2 : Int32) (v3 : Int32) (v4 : Int32), Wh D cA ad shC A s s0 H locs → lv_has ls 9 [(0, .ref (ad 0)), (1, .int v1), (2, .int v2), (3, .int v3), (4, .int v4)] → k13 s0 v1 v2 v3 v4 = (some (r, τ)) → W p l e rm_Main_rings s m args below meth c H locs 0 0 (MQ below (QcI D cA ad shC A r τ) args s 0 0 A) (F0 m 19 ls [])) (k25 : (St → Int32 → Int32 → Int32 → Int32 → Int32 → Int32 → Option (Int32 × St))) (hk25 : ∀ (H : Heap) (locs : List Loc) (ls : Array Slot) (s0 : St) (v1 : Int32) (v2 : Int32) (v3 : Int32) (v4 : Int32) (v5 : Int32) (v6 : Int32), Wh D cA ad shC A s s0 H locs → lv_has ls 9 [(0, .ref (ad 0)), (1, .int v1), (2, .int v2), (3, .int v3), (4, .int v4), (5, .int v5), (6, .int v6)] → k25 s0 v1 v2 v3 v4 v5 v6 = (some (r, τ)) → W p l e rm_Main_rings s m args below meth c H locs 0 0 (MQ below (QcI D cA ad shC A r τ) args s 0 0 A) (F0 m 42 ls [])) : ∀ (n : Nat), ∀ (H : Heap) (locs : List Loc) (ls : Array Slot) (s0 : St) (v1 : Int32) (v2 : Int32) (v3 : Int32) (v4 : Int32) (v5 : Int32) (v6 : Int32) (v7 : Int32) (v8 : Int32), Wh D cA ad shC A s s0 H locs → lv_has ls 9 [(0, .ref (ad 0)), (1, .int v1), (2, .int v2), (3, .int v3), (4, .int v4), (5, .int v5), (6, .int v6), (7, .int v7), (8, .int v8)] → F_Main_rings_79 k13 k25 n s0 v1 v2 v3 v4 v5 v6 v7 v8 = (some (r, τ)) → W p l e rm_Main_rings s m args below meth c H locs 0 0 (MQ below (QcI D cA ad shC A r τ) args s 0 0 A) (F0 m 79 ls []) := by
  have hx := K.1.1; have hb := K.1.2.1
  intro n
  induction n with
  | zero =>
    intro H locs ls s0 v1 v2 v3 v4 v5 v6 v7 v8 hw hl hF
    exact absurd hF (by rw [F_Main_rings_79]; exact nofun)
  | succ n ih =>
    intro H locs ls s0 v1 v2 v3 v4 v5 v6 v7 v8 hw hl hF
    rw [F_Main_rings_79] at hF
    refine lv_iload hx hb d_Main_rings_79 (lv_at hl 8 rfl) ?_
    refine lv_aload_n hx hb d_Main_rings_81 rfl (lv_at hl 0 rfl) ?_
    refine r_get (v := .int (s0.1 0 1)) K hw i_Main sh_Main rfl 1 (by decide) w_599 rfl rfl rfl d_Main_rings_82 ?_
    refine lv_icmp_ge (tgt := 149) hx hb d_Main_rings_85 (by decide) (fun c_8 => ?_) (fun c_8 => ?_)
    · replace hF := ifT hF c_8
      refine lv_iinc (v := (v6 + 1)) (lv' := [(6, .int (v6 + 1)), (0, .ref (ad 0)), (1, .int v1), (2, .int v2), (3, .int v3), (4, .int v4), (5, .int v5), (7, .int v7), (8, .int v8)]) hx hb d_Main_rings_149 hl (k := 6) rfl rfl (by decide) rfl (fun ls hl => ?_)
      refine lv_goto (tgt := 42) hx hb d_Main_rings_152 (by decide) ?_
      exact hk25 _ _ _ _ _ _ _ _ _ _  hw (lv_sub hl [1, 2, 3, 4, 5, 6, 0] rfl) hF
    · replace hF := ifF hF c_8
      refine lv_iload hx hb d_Main_rings_88 (lv_at hl 7 rfl) ?_
      refine lv_iload hx hb d_Main_rings_90 (lv_at hl 8 rfl) ?_
      refine r_callSI (As := [.int v7, .int v8]) (rest := []) K hw hl.1 (c_Main_has (l := l) (D := D) (cA := cA) (ad := ad) (s0 := s0)  rfl) (tb_gS w_838 w_839 w_63 w_840) a_Main_has ⟨rfl, rfl, Nat.le_of_ble_eq_true rfl, Nat.le_of_ble_eq_true rfl⟩ rfl rfl (Nat.le_of_ble_eq_true rfl) d_Main_rings_92 (fun H locs hw => ?_)
      refine lv_if_eq (tgt := 143) hx hb d_Main_rings_95 (by decide) (fun c_9 => ?_) (fun c_9 => ?_)
      · replace hF := ifT hF c_9
        exact q_Main_rings_143 K k13 hk13 k25 hk25 (fun z0 zv1 zv2 zv3 zv4 zv5 zv6 zv7 zv8 => F_Main_rings_79 k13 k25 n z0 zv1 zv2 zv3 zv4 zv5 zv6 zv7 zv8) ih _ _ _ _ _ _ _ _ _ _ _ _  hw (lv_sub hl [0, 1, 2, 3, 4, 5, 6, 7, 8] rfl) hF
      · replace hF := ifF hF c_9
        refine lv_aload_n hx hb d_Main_rings_98 rfl (lv_at hl 0 rfl) ?_
        refine lv_iload hx hb d_Main_rings_99 (lv_at hl 8 rfl) ?_
        obtain ⟨r_10, s_11, h_s_11, hF⟩ := ob2E hF
        refine r_callVI (As := [.int v8]) (rest := []) K hw hl.1 (c_Main_beaten (l := l) (D := D) (cA := cA) (ad := ad) (s0 := s0)  h_s_11) sh_Main rfl (tb_gV w_858 w_860 w_26 w_63 w_861) a_Main_beaten ⟨rfl, rfl, Nat.le_of_ble_eq_true rfl, Nat.le_of_ble_eq_true rfl⟩ rfl rfl (Nat.le_of_ble_eq_true rfl) d_Main_rings_101 (fun H locs hw => ?_)
        refine lv_iload hx hb d_Main_rings_104 (lv_at hl 4 rfl) ?_
        refine r_callSI (As := [.int r_10, .int v4]) (rest := []) K hw hl.1 (c_Main_has (l := l) (D := D) (cA := cA) (ad := ad) (s0 := s_11)  rfl) (tb_gS w_838 w_839 w_63 w_840) a_Main_has ⟨rfl, rfl, Nat.le_of_ble_eq_true rfl, Nat.le_of_ble_eq_true rfl⟩ rfl rfl (Nat.le_of_ble_eq_true rfl) d_Main_rings_106 (fun H locs hw => ?_)
        refine lv_if_ne (tgt := 115) hx hb d_Main_rings_109 (by decide) (fun c_12 => ?_) (fun c_12 => ?_)
        · replace hF := ifT hF c_12
          refine lv_iload_n hx hb d_Main_rings_115 rfl (lv_at hl 2 rfl) ?_
          refine lv_if_ne (tgt := 140) hx hb d_Main_rings_116 (by decide) (fun c_13 => ?_) (fun c_13 => ?_)
          · replace hF := ifT hF c_13
            exact q_Main_rings_140 K k13 hk13 k25 hk25 (fun z0 zv1 zv2 zv3 zv4 zv5 zv6 zv7 zv8 => F_Main_rings_79 k13 k25 n z0 zv1 zv2 zv3 zv4 zv5 zv6 zv7 zv8) ih _ _ _ _ _ _ _ _ _ _ _ _  hw (lv_sub hl [0, 1, 2, 3, 4, 5, 6, 7, 8] rfl) hF
          · replace hF := ifN hF c_13
            refine lv_bipush (v := 100) hx hb d_Main_rings_119 (by decide) ?_
            refine lv_iload hx hb d_Main_rings_121 (lv_at hl 4 rfl) ?_
            refine lv_iconst (v := 1) hx hb d_Main_rings_123 (by decide) ?_
            refine lv_iadd hx hb d_Main_rings_124 ?_
            refine lv_imul hx hb d_Main_rings_125 ?_
            refine lv_bipush (v := 10) hx hb d_Main_rings_126 (by decide) ?_
            refine lv_iload hx hb d_Main_rings_128 (lv_at hl 6 rfl) ?_
            refine lv_iconst (v := 1) hx hb d_Main_rings_130 (by decide) ?_
            refine lv_iadd hx hb d_Main_rings_131 ?_
            refine lv_imul hx hb d_Main_rings_132 ?_
            refine lv_iadd hx hb d_Main_rings_133 ?_
            refine lv_iload hx hb d_Main_rings_134 (lv_at hl 8 rfl) ?_
            refine lv_iadd hx hb d_Main_rings_136 ?_
            refine lv_iconst (v := 1) hx hb d_Main_rings_137 (by decide) ?_
            refine lv_iadd hx hb d_Main_rings_138 ?_
            refine lv_topi (fun w_14 f_w_14 => ?_)
            replace hF := ltN hF f_w_14
            refine lv_istore_n (lv' := [(3, .int w_14), (0, .ref (ad 0)), (1, .int v1), (2, .int v2), (4, .int v4), (5, .int v5), (6, .int v6), (7, .int v7), (8, .int v8)]) hx hb d_Main_rings_139 rfl hl (by decide) rfl (fun ls hl => ?_)
            exact q_Main_rings_140 K k13 hk13 k25 hk25 (fun z0 zv1 zv2 zv3 zv4 zv5 zv6 zv7 zv8 => F_Main_rings_79 k13 k25 n z0 zv1 zv2 zv3 zv4 zv5 zv6 zv7 zv8) ih _ _ _ _ _ _ _ _ _ _ _ _  hw (lv_sub hl [1, 2, 3, 0, 4, 5, 6, 7, 8] rfl) hF
        · replace hF := ifN hF c_12
          refine lv_goto (tgt := 143) hx hb d_Main_rings_112 (by decide) ?_
          exact q_Main_rings_143 K k13 hk13 k25 hk25 (fun z0 zv1 zv2 zv3 zv4 zv5 zv6 zv7 zv8 => F_Main_rings_79 k13 k25 n z0 zv1 zv2 zv3 zv4 zv5 zv6 zv7 zv8) ih _ _ _ _ _ _ _ _ _ _ _ _  hw (lv_sub hl [0, 1, 2, 3, 4, 5, 6, 7, 8] rfl) hF
def F_Main_rings_71 (k13 : (St → Int32 → Int32 → Int32 → Int32 → Option (Int32 × St))) (k25 : (St → Int32 → Int32 → Int32 → Int32 → Int32 → Int32 → Option (Int32 × St))) (s0 : St) (v1 : Int32) (v2 : Int32) (v3 : Int32) (v4 : Int32) (v5 : Int32) (v6 : Int32) (t0 : Int32) : Option (Int32 × St) := (F_Main_rings_79 k13 k25 FU s0 v1 v2 v3 v4 v5 v6 t0 (v4 + (1 : Int32)))
set_option maxHeartbeats 4000000 in
set_option maxRecDepth 100000 in
theorem q_Main_rings_71 (K : Fx p s m args meth c b_Main_rings 9 R_Main (some .int)) (k13 : (St → Int32 → Int32 → Int32 → Int32 → Option (Int32 × St))) (hk13 : ∀ (H : Heap) (locs : List Loc) (ls : Array Slot) (s0 : St) (v1 : Int32) (v2 : Int32) (v3 : Int32) (v4 : Int32), Wh D cA ad shC A s s0 H locs → lv_has ls 9 [(0, .ref (ad 0)), (1, .int v1), (2, .int v2), (3, .int v3), (4, .int v4)] → k13 s0 v1 v2 v3 v4 = (some (r, τ)) → W p l e rm_Main_rings s m args below meth c H locs 0 0 (MQ below (QcI D cA ad shC A r τ) args s 0 0 A) (F0 m 19 ls [])) (k25 : (St → Int32 → Int32 → Int32 → Int32 → Int32 → Int32 → Option (Int32 × St))) (hk25 : ∀ (H : Heap) (locs : List Loc) (ls : Array Slot) (s0 : St) (v1 : Int32) (v2 : Int32) (v3 : Int32) (v4 : Int32) (v5 : Int32) (v6 : Int32), Wh D cA ad shC A s s0 H locs → lv_has ls 9 [(0, .ref (ad 0)), (1, .int v1), (2, .int v2), (3, .int v3), (4, .int v4), (5, .int v5), (6, .int v6)] → k25 s0 v1 v2 v3 v4 v5 v6 = (some (r, τ)) → W p l e rm_Main_rings s m args below meth c H locs 0 0 (MQ below (QcI D cA ad shC A r τ) args s 0 0 A) (F0 m 42 ls [])) : ∀ (H : Heap) (locs : List Loc) (ls : Array Slot) (s0 : St) (v1 : Int32) (v2 : Int32) (v3 : Int32) (v4 : Int32) (v5 : Int32) (v6 : Int32) (t0 : Int32), Wh D cA ad shC A s s0 H locs → lv_has ls 9 [(0, .ref (ad 0)), (1, .int v1), (2, .int v2), (3, .int v3), (4, .int v4), (5, .int v5), (6, .int v6)] → F_Main_rings_71 k13 k25 s0 v1 v2 v3 v4 v5 v6 t0 = (some (r, τ)) → W p l e rm_Main_rings s m args below meth c H locs 0 0 (MQ below (QcI D cA ad shC A r τ) args s 0 0 A) (F0 m 71 ls [.int t0]) := by
  have hx := K.1.1; have hb := K.1.2.1
  intro H locs ls s0 v1 v2 v3 v4 v5 v6 t0 hw hl hF
  unfold F_Main_rings_71 at hF
  refine lv_istore (lv' := [(7, .int t0), (0, .ref (ad 0)), (1, .int v1), (2, .int v2), (3, .int v3), (4, .int v4), (5, .int v5), (6, .int v6)]) hx hb d_Main_rings_71 hl (by decide) rfl (fun ls hl => ?_)
  refine lv_iload hx hb d_Main_rings_73 (lv_at hl 5 rfl) ?_
  refine lv_iconst (v := 1) hx hb d_Main_rings_75 (by decide) ?_
  refine lv_iadd hx hb d_Main_rings_76 ?_
  refine lv_istore (lv' := [(8, .int (v4 + (1 : Int32))), (7, .int t0), (0, .ref (ad 0)), (1, .int v1), (2, .int v2), (3, .int v3), (4, .int v4), (5, .int v5), (6, .int v6)]) hx hb d_Main_rings_77 hl (by decide) rfl (fun ls hl => ?_)
  exact q_Main_rings_79 K k13 hk13 k25 hk25 FU _ _ _ _ _ _ _ _ _ _ _ _  hw (lv_sub hl [2, 3, 4, 5, 6, 7, 8, 1, 0] rfl) hF
def F_Main_rings_42 (k13 : (St → Int32 → Int32 → Int32 → Int32 → Option (Int32 × St))) : Nat → St → Int32 → Int32 → Int32 → Int32 → Int32 → Int32 → Option (Int32 × St)
  | 0, _, _, _, _, _, _, _ => none
  | n + 1, s0, v1, v2, v3, v4, v5, v6 => (if (s0.1 0 1) ≤ v6 then (k13 s0 v1 v2 v3 (v4 + 1)) else (if (F_Main_has v5 v6) = 0 then (F_Main_rings_71 k13 (fun z0 zv1 zv2 zv3 zv4 zv5 zv6 => F_Main_rings_42 k13 n z0 zv1 zv2 zv3 zv4 zv5 zv6) s0 v1 v2 v3 v4 v5 v6 (0 : Int32)) else (ob2 (F_Main_beaten s0 v6) (fun r_15 s_16 => (F_Main_rings_71 k13 (fun z0 zv1 zv2 zv3 zv4 zv5 zv6 => F_Main_rings_42 k13 n z0 zv1 zv2 zv3 zv4 zv5 zv6) s_16 v1 v2 v3 v4 v5 v6 r_15)))))
set_option maxHeartbeats 4000000 in
set_option maxRecDepth 100000 in
theorem q_Main_rings_42 (K : Fx p s m args meth c b_Main_rings 9 R_Main (some .int)) (k13 : (St → Int32 → Int32 → Int32 → Int32 → Option (Int32 × St))) (hk13 : ∀ (H : Heap) (locs : List Loc) (ls : Array Slot) (s0 : St) (v1 : Int32) (v2 : Int32) (v3 : Int32) (v4 : Int32), Wh D cA ad shC A s s0 H locs → lv_has ls 9 [(0, .ref (ad 0)), (1, .int v1), (2, .int v2), (3, .int v3), (4, .int v4)] → k13 s0 v1 v2 v3 v4 = (some (r, τ)) → W p l e rm_Main_rings s m args below meth c H locs 0 0 (MQ below (QcI D cA ad shC A r τ) args s 0 0 A) (F0 m 19 ls [])) : ∀ (n : Nat), ∀ (H : Heap) (locs : List Loc) (ls : Array Slot) (s0 : St) (v1 : Int32) (v2 : Int32) (v3 : Int32) (v4 : Int32) (v5 : Int32) (v6 : Int32), Wh D cA ad shC A s s0 H locs → lv_has ls 9 [(0, .ref (ad 0)), (1, .int v1), (2, .int v2), (3, .int v3), (4, .int v4), (5, .int v5), (6, .int v6)] → F_Main_rings_42 k13 n s0 v1 v2 v3 v4 v5 v6 = (some (r, τ)) → W p l e rm_Main_rings s m args below meth c H locs 0 0 (MQ below (QcI D cA ad shC A r τ) args s 0 0 A) (F0 m 42 ls []) := by
  have hx := K.1.1; have hb := K.1.2.1
  intro n
  induction n with
  | zero =>
    intro H locs ls s0 v1 v2 v3 v4 v5 v6 hw hl hF
    exact absurd hF (by rw [F_Main_rings_42]; exact nofun)
  | succ n ih =>
    intro H locs ls s0 v1 v2 v3 v4 v5 v6 hw hl hF
    rw [F_Main_rings_42] at hF
    refine lv_iload hx hb d_Main_rings_42 (lv_at hl 6 rfl) ?_
    refine lv_aload_n hx hb d_Main_rings_44 rfl (lv_at hl 0 rfl) ?_
    refine r_get (v := .int (s0.1 0 1)) K hw i_Main sh_Main rfl 1 (by decide) w_599 rfl rfl rfl d_Main_rings_45 ?_
    refine lv_icmp_ge (tgt := 155) hx hb d_Main_rings_48 (by decide) (fun c_6 => ?_) (fun c_6 => ?_)
    · replace hF := ifT hF c_6
      refine lv_iinc (v := (v4 + 1)) (lv' := [(4, .int (v4 + 1)), (0, .ref (ad 0)), (1, .int v1), (2, .int v2), (3, .int v3), (5, .int v5), (6, .int v6)]) hx hb d_Main_rings_155 hl (k := 4) rfl rfl (by decide) rfl (fun ls hl => ?_)
      refine lv_goto (tgt := 19) hx hb d_Main_rings_158 (by decide) ?_
      exact hk13 _ _ _ _ _ _ _ _  hw (lv_sub hl [1, 2, 3, 4, 0] rfl) hF
    · replace hF := ifF hF c_6
      refine lv_iload hx hb d_Main_rings_51 (lv_at hl 5 rfl) ?_
      refine lv_iload hx hb d_Main_rings_53 (lv_at hl 6 rfl) ?_
      refine r_callSI (As := [.int v5, .int v6]) (rest := []) K hw hl.1 (c_Main_has (l := l) (D := D) (cA := cA) (ad := ad) (s0 := s0)  rfl) (tb_gS w_838 w_839 w_63 w_840) a_Main_has ⟨rfl, rfl, Nat.le_of_ble_eq_true rfl, Nat.le_of_ble_eq_true rfl⟩ rfl rfl (Nat.le_of_ble_eq_true rfl) d_Main_rings_55 (fun H locs hw => ?_)
      refine lv_if_eq (tgt := 70) hx hb d_Main_rings_58 (by decide) (fun c_7 => ?_) (fun c_7 => ?_)
      · replace hF := ifT hF c_7
        refine lv_iconst (v := 0) hx hb d_Main_rings_70 (by decide) ?_
        exact q_Main_rings_71 K k13 hk13 (fun z0 zv1 zv2 zv3 zv4 zv5 zv6 => F_Main_rings_42 k13 n z0 zv1 zv2 zv3 zv4 zv5 zv6) ih _ _ _ _ _ _ _ _ _ _ _  hw (lv_sub hl [0, 1, 2, 3, 4, 5, 6] rfl) hF
      · replace hF := ifF hF c_7
        refine lv_aload_n hx hb d_Main_rings_61 rfl (lv_at hl 0 rfl) ?_
        refine lv_iload hx hb d_Main_rings_62 (lv_at hl 6 rfl) ?_
        obtain ⟨r_15, s_16, h_s_16, hF⟩ := ob2E hF
        refine r_callVI (As := [.int v6]) (rest := []) K hw hl.1 (c_Main_beaten (l := l) (D := D) (cA := cA) (ad := ad) (s0 := s0)  h_s_16) sh_Main rfl (tb_gV w_858 w_860 w_26 w_63 w_861) a_Main_beaten ⟨rfl, rfl, Nat.le_of_ble_eq_true rfl, Nat.le_of_ble_eq_true rfl⟩ rfl rfl (Nat.le_of_ble_eq_true rfl) d_Main_rings_64 (fun H locs hw => ?_)
        refine lv_goto (tgt := 71) hx hb d_Main_rings_67 (by decide) ?_
        exact q_Main_rings_71 K k13 hk13 (fun z0 zv1 zv2 zv3 zv4 zv5 zv6 => F_Main_rings_42 k13 n z0 zv1 zv2 zv3 zv4 zv5 zv6) ih _ _ _ _ _ _ _ _ _ _ _  hw (lv_sub hl [0, 1, 2, 3, 4, 5, 6] rfl) hF
def F_Main_rings_19 : Nat → St → Int32 → Int32 → Int32 → Int32 → Option (Int32 × St)
  | 0, _, _, _, _, _ => none
  | n + 1, s0, v1, v2, v3, v4 => (if (s0.1 0 1) ≤ v4 then (if ¬ v1 = 0 then (some (v3, s0)) else (some (v2, s0))) else (ob2 (F_Main_beaten s0 v4) (fun r_4 s_5 => (F_Main_rings_42 (fun z0 zv1 zv2 zv3 zv4 => F_Main_rings_19 n z0 zv1 zv2 zv3 zv4) FU s_5 v1 v2 v3 v4 r_4 (v4 + (1 : Int32))))))
set_option maxHeartbeats 4000000 in
set_option maxRecDepth 100000 in
theorem q_Main_rings_19 (K : Fx p s m args meth c b_Main_rings 9 R_Main (some .int))  : ∀ (n : Nat), ∀ (H : Heap) (locs : List Loc) (ls : Array Slot) (s0 : St) (v1 : Int32) (v2 : Int32) (v3 : Int32) (v4 : Int32), Wh D cA ad shC A s s0 H locs → lv_has ls 9 [(0, .ref (ad 0)), (1, .int v1), (2, .int v2), (3, .int v3), (4, .int v4)] → F_Main_rings_19 n s0 v1 v2 v3 v4 = (some (r, τ)) → W p l e rm_Main_rings s m args below meth c H locs 0 0 (MQ below (QcI D cA ad shC A r τ) args s 0 0 A) (F0 m 19 ls []) := by
  have hx := K.1.1; have hb := K.1.2.1
  intro n
  induction n with
  | zero =>
    intro H locs ls s0 v1 v2 v3 v4 hw hl hF
    exact absurd hF (by rw [F_Main_rings_19]; exact nofun)
  | succ n ih =>
    intro H locs ls s0 v1 v2 v3 v4 hw hl hF
    rw [F_Main_rings_19] at hF
    refine lv_iload hx hb d_Main_rings_19 (lv_at hl 4 rfl) ?_
    refine lv_aload_n hx hb d_Main_rings_21 rfl (lv_at hl 0 rfl) ?_
    refine r_get (v := .int (s0.1 0 1)) K hw i_Main sh_Main rfl 1 (by decide) w_599 rfl rfl rfl d_Main_rings_22 ?_
    refine lv_icmp_ge (tgt := 161) hx hb d_Main_rings_25 (by decide) (fun c_2 => ?_) (fun c_2 => ?_)
    · replace hF := ifT hF c_2
      refine lv_iload_n hx hb d_Main_rings_161 rfl (lv_at hl 1 rfl) ?_
      refine lv_if_ne (tgt := 169) hx hb d_Main_rings_162 (by decide) (fun c_3 => ?_) (fun c_3 => ?_)
      · replace hF := ifT hF c_3
        refine lv_iload_n hx hb d_Main_rings_169 rfl (lv_at hl 3 rfl) ?_
        obtain ⟨hF, hG⟩ := sE2 hF
        subst hF
        subst hG
        exact r_iret K hw d_Main_rings_170
      · replace hF := ifN hF c_3
        refine lv_iload_n hx hb d_Main_rings_165 rfl (lv_at hl 2 rfl) ?_
        refine lv_goto (tgt := 170) hx hb d_Main_rings_166 (by decide) ?_
        obtain ⟨hF, hG⟩ := sE2 hF
        subst hF
        subst hG
        exact r_iret K hw d_Main_rings_170
    · replace hF := ifF hF c_2
      refine lv_aload_n hx hb d_Main_rings_28 rfl (lv_at hl 0 rfl) ?_
      refine lv_iload hx hb d_Main_rings_29 (lv_at hl 4 rfl) ?_
      obtain ⟨r_4, s_5, h_s_5, hF⟩ := ob2E hF
      refine r_callVI (As := [.int v4]) (rest := []) K hw hl.1 (c_Main_beaten (l := l) (D := D) (cA := cA) (ad := ad) (s0 := s0)  h_s_5) sh_Main rfl (tb_gV w_858 w_860 w_26 w_63 w_861) a_Main_beaten ⟨rfl, rfl, Nat.le_of_ble_eq_true rfl, Nat.le_of_ble_eq_true rfl⟩ rfl rfl (Nat.le_of_ble_eq_true rfl) d_Main_rings_31 (fun H locs hw => ?_)
      refine lv_istore (lv' := [(5, .int r_4), (0, .ref (ad 0)), (1, .int v1), (2, .int v2), (3, .int v3), (4, .int v4)]) hx hb d_Main_rings_34 hl (by decide) rfl (fun ls hl => ?_)
      refine lv_iload hx hb d_Main_rings_36 (lv_at hl 5 rfl) ?_
      refine lv_iconst (v := 1) hx hb d_Main_rings_38 (by decide) ?_
      refine lv_iadd hx hb d_Main_rings_39 ?_
      refine lv_istore (lv' := [(6, .int (v4 + (1 : Int32))), (5, .int r_4), (0, .ref (ad 0)), (1, .int v1), (2, .int v2), (3, .int v3), (4, .int v4)]) hx hb d_Main_rings_40 hl (by decide) rfl (fun ls hl => ?_)
      exact q_Main_rings_42 K (fun z0 zv1 zv2 zv3 zv4 => F_Main_rings_19 n z0 zv1 zv2 zv3 zv4) ih FU _ _ _ _ _ _ _ _ _ _  hw (lv_sub hl [2, 3, 4, 5, 6, 1, 0] rfl) hF
def F_Main_rings_0 (s0 : St) (v1 : Int32) : Option (Int32 × St) := (if ¬ (F_Main_isWithin v1 (0 : Int32) (1 : Int32)) = 0 then (F_Main_rings_19 FU s0 v1 (0 : Int32) (-1 : Int32) (0 : Int32)) else (some ((-2 : Int32), s0)))
set_option maxHeartbeats 4000000 in
set_option maxRecDepth 100000 in
theorem q_Main_rings_0 (K : Fx p s m args meth c b_Main_rings 9 R_Main (some .int))  : ∀ (H : Heap) (locs : List Loc) (ls : Array Slot) (s0 : St) (v1 : Int32), Wh D cA ad shC A s s0 H locs → lv_has ls 9 [(0, .ref (ad 0)), (1, .int v1)] → F_Main_rings_0 s0 v1 = (some (r, τ)) → W p l e rm_Main_rings s m args below meth c H locs 0 0 (MQ below (QcI D cA ad shC A r τ) args s 0 0 A) (F0 m 0 ls []) := by
  have hx := K.1.1; have hb := K.1.2.1
  intro H locs ls s0 v1 hw hl hF
  unfold F_Main_rings_0 at hF
  refine lv_iload_n hx hb d_Main_rings_0 rfl (lv_at hl 1 rfl) ?_
  refine lv_iconst (v := 0) hx hb d_Main_rings_1 (by decide) ?_
  refine lv_iconst (v := 1) hx hb d_Main_rings_2 (by decide) ?_
  refine r_callSI (As := [.int v1, .int (0 : Int32), .int (1 : Int32)]) (rest := []) K hw hl.1 (c_Main_isWithin (l := l) (D := D) (cA := cA) (ad := ad) (s0 := s0)  rfl) (tb_gS w_640 w_347 w_63 w_348) a_Main_isWithin ⟨rfl, rfl, Nat.le_of_ble_eq_true rfl, Nat.le_of_ble_eq_true rfl⟩ rfl rfl (Nat.le_of_ble_eq_true rfl) d_Main_rings_3 (fun H locs hw => ?_)
  refine lv_if_ne (tgt := 12) hx hb d_Main_rings_6 (by decide) (fun c_1 => ?_) (fun c_1 => ?_)
  · replace hF := ifT hF c_1
    refine lv_iconst (v := 0) hx hb d_Main_rings_12 (by decide) ?_
    refine lv_istore_n (lv' := [(2, .int (0 : Int32)), (0, .ref (ad 0)), (1, .int v1)]) hx hb d_Main_rings_13 rfl hl (by decide) rfl (fun ls hl => ?_)
    refine lv_iconst (v := -1) hx hb d_Main_rings_14 (by decide) ?_
    refine lv_istore_n (lv' := [(3, .int (-1 : Int32)), (2, .int (0 : Int32)), (0, .ref (ad 0)), (1, .int v1)]) hx hb d_Main_rings_15 rfl hl (by decide) rfl (fun ls hl => ?_)
    refine lv_iconst (v := 0) hx hb d_Main_rings_16 (by decide) ?_
    refine lv_istore (lv' := [(4, .int (0 : Int32)), (3, .int (-1 : Int32)), (2, .int (0 : Int32)), (0, .ref (ad 0)), (1, .int v1)]) hx hb d_Main_rings_17 hl (by decide) rfl (fun ls hl => ?_)
    exact q_Main_rings_19 K FU _ _ _ _ _ _ _ _  hw (lv_sub hl [3, 4, 2, 1, 0] rfl) hF
  · replace hF := ifN hF c_1
    refine lv_bipush (v := -2) hx hb d_Main_rings_9 (by decide) ?_
    obtain ⟨hF, hG⟩ := sE2 hF
    subst hF
    subst hG
    exact r_iret K hw d_Main_rings_11
end S_Main_rings
abbrev F_Main_rings := F_Main_rings_0
theorem c_Main_rings {l : Launch} {D : va_G} {cA : Nat → ClassId} {ad : Nat → Nat} {s0 τ : St} {r : Int32} {v1 : Int32}  (hF : F_Main_rings s0 v1 = (some (r, τ))) : MI l D cA ad shC y_Main_rings (wT y_Main_rings b_Main_rings 9 (some .int)) rm_Main_rings [.ref (ad 0), .int v1] s0 r τ := fun sz => m_start (Qc := fun A => QcI D cA ad shC A r τ) (by decide +kernel) w_865 (Nat.le_of_ble_eq_true rfl) (fun p e s m below meth c ls K hl hw => q_Main_rings_0 K _ _ _ _ _  hw hl hF)

/-! Sheet.hasPlace(I)Z -/
abbrev b_Sheet_hasPlace : ByteArray := prog_7_method_3_code
def y_Sheet_hasPlace : MethodName := ⟨R_Sheet, "hasPlace", "(I)Z"⟩
theorem a_Sheet_hasPlace : y_Sheet_hasPlace.cls = R_Sheet ∧ y_Sheet_hasPlace.cls ≠ "java/lang/invoke/MethodHandle" ∧ y_Sheet_hasPlace.cls ≠ "java/lang/invoke/VarHandle" ∧ (parseMethodDescriptor y_Sheet_hasPlace.desc).map (fun d => d.parameters.length) = some 1 := by decide +kernel
abbrev rm_Sheet_hasPlace : Room := { frames := 1, cells := 0, slots := 0, locals := 22 }
theorem w_193 : Cond.fieldLink R_Sheet 23 R_Sheet "size" "I" ∈ TB := tb_in 193 (by decide +kernel) (by decide +kernel)
theorem w_888 : Cond.code y_Sheet_hasPlace b_Sheet_hasPlace 2 (some .boolean) ∈ TB := tb_in 888 (by decide +kernel) (by decide +kernel)
theorem nw_889 : Cond.methodLinkNest R_Sheet 26 y_Main_isWithin R_Main ∈ NWS := List.mem_of_getElem? (i := 11) (by decide +kernel)
theorem d_Sheet_hasPlace_0 : decode b_Sheet_hasPlace 0 = .ok (.iload_n 1, 1) := by decide +kernel
theorem d_Sheet_hasPlace_1 : decode b_Sheet_hasPlace 1 = .ok (.iconst 0, 1) := by decide +kernel
theorem d_Sheet_hasPlace_2 : decode b_Sheet_hasPlace 2 = .ok (.aload_n 0, 1) := by decide +kernel
theorem d_Sheet_hasPlace_3 : decode b_Sheet_hasPlace 3 = .ok (.getfield 23, 3) := by decide +kernel
theorem d_Sheet_hasPlace_6 : decode b_Sheet_hasPlace 6 = .ok (.iconst 1, 1) := by decide +kernel
theorem d_Sheet_hasPlace_7 : decode b_Sheet_hasPlace 7 = .ok (.isub, 1) := by decide +kernel
theorem d_Sheet_hasPlace_8 : decode b_Sheet_hasPlace 8 = .ok (.invokestatic 26, 3) := by decide +kernel
theorem d_Sheet_hasPlace_11 : decode b_Sheet_hasPlace 11 = .ok (.ireturn, 1) := by decide +kernel
section S_Sheet_hasPlace
variable {p : Program} {l : Launch} {e : Env} {s : State} {m : MethodId} {args : Array Value} {below : List Frame} {meth : Method} {c : Code} {D : va_G} {cA : Nat → ClassId} {ad : Nat → Nat} {A : Nat → Prop} {r : Int32} {τ : St}
def F_Sheet_hasPlace_0 (s0 : St) (v0 : Nat) (v1 : Int32) : Option Int32 := (if ((F_Main_isWithin v1 (0 : Int32) ((s0.1 v0 2) - (1 : Int32))) = 0 ∨ (F_Main_isWithin v1 (0 : Int32) ((s0.1 v0 2) - (1 : Int32))) = 1) then (some (F_Main_isWithin v1 (0 : Int32) ((s0.1 v0 2) - (1 : Int32)))) else none)
set_option maxHeartbeats 4000000 in
set_option maxRecDepth 100000 in
theorem q_Sheet_hasPlace_0 (s0 : St) (K : Fx p s m args meth c b_Sheet_hasPlace 2 R_Sheet (some .boolean))  : ∀ (H : Heap) (locs : List Loc) (ls : Array Slot) (v0 : Nat) (v1 : Int32) (g_v0 : P_Sheet v0), Wh D cA ad shC A s s0 H locs → lv_has ls 2 [(0, .ref (ad v0)), (1, .int v1)] → F_Sheet_hasPlace_0 s0 v0 v1 = (some r) → W p l e rm_Sheet_hasPlace s m args below meth c H locs 0 0 (MQ below (QcI D cA ad shC A r s0) args s 0 0 A) (F0 m 0 ls []) := by
  have hx := K.1.1; have hb := K.1.2.1
  intro H locs ls v0 v1 g_v0 hw hl hF
  unfold F_Sheet_hasPlace_0 at hF
  refine lv_iload_n hx hb d_Sheet_hasPlace_0 rfl (lv_at hl 1 rfl) ?_
  refine lv_iconst (v := 0) hx hb d_Sheet_hasPlace_1 (by decide) ?_
  refine lv_aload_n hx hb d_Sheet_hasPlace_2 rfl (lv_at hl 0 rfl) ?_
  refine r_get (v := .int (s0.1 v0 2)) K hw i_Sheet (sh_Sheet g_v0) rfl 2 (by decide) w_193 rfl rfl rfl d_Sheet_hasPlace_3 ?_
  refine lv_iconst (v := 1) hx hb d_Sheet_hasPlace_6 (by decide) ?_
  refine lv_isub hx hb d_Sheet_hasPlace_7 ?_
  refine r_callNI (As := [.int v1, .int (0 : Int32), .int ((s0.1 v0 2) - (1 : Int32))]) (rest := []) K hw hl.1 (c_Main_isWithin (l := l) (D := D) (cA := cA) (ad := ad) (s0 := s0)  rfl) (nw_889) w_347 w_63 w_348 a_Main_isWithin.2 ⟨rfl, rfl, Nat.le_of_ble_eq_true rfl, Nat.le_of_ble_eq_true rfl⟩ rfl rfl (Nat.le_of_ble_eq_true rfl) d_Sheet_hasPlace_8 (fun H locs hw => ?_)
  obtain ⟨g_1, hF⟩ := ifG hF
  replace hF := sE1 hF
  subst hF
  exact r_zret K hw (zN g_1) d_Sheet_hasPlace_11
end S_Sheet_hasPlace
abbrev F_Sheet_hasPlace := F_Sheet_hasPlace_0
theorem c_Sheet_hasPlace {l : Launch} {D : va_G} {cA : Nat → ClassId} {ad : Nat → Nat} {s0 : St} {r : Int32} {v0 : Nat} {v1 : Int32} (g_v0 : P_Sheet v0) (hF : F_Sheet_hasPlace s0 v0 v1 = (some r)) : MI l D cA ad shC y_Sheet_hasPlace (wT y_Sheet_hasPlace b_Sheet_hasPlace 2 (some .boolean)) rm_Sheet_hasPlace [.ref (ad v0), .int v1] s0 r s0 := fun sz => m_start (Qc := fun A => QcI D cA ad shC A r s0) (by decide +kernel) w_888 (Nat.le_of_ble_eq_true rfl) (fun p e s m below meth c ls K hl hw => q_Sheet_hasPlace_0 s0 K _ _ _ _ _ g_v0 hw hl hF)

/-! Sheet.at(I)I -/
abbrev b_Sheet_at : ByteArray := prog_7_method_5_code
def y_Sheet_at : MethodName := ⟨R_Sheet, "at", "(I)I"⟩
theorem a_Sheet_at : y_Sheet_at.cls = R_Sheet ∧ y_Sheet_at.cls ≠ "java/lang/invoke/MethodHandle" ∧ y_Sheet_at.cls ≠ "java/lang/invoke/VarHandle" ∧ (parseMethodDescriptor y_Sheet_at.desc).map (fun d => d.parameters.length) = some 1 := by decide +kernel
abbrev rm_Sheet_at : Room := { frames := 2, cells := 0, slots := 0, locals := 43 }
theorem w_885 : Cond.methodLink R_Sheet 30 y_Sheet_hasPlace ∈ TB := tb_in 885 (by decide +kernel) (by decide +kernel)
theorem w_886 : Cond.instanceMethod y_Sheet_hasPlace ∈ TB := tb_in 886 (by decide +kernel) (by decide +kernel)
theorem w_887 : Cond.selects R_Sheet y_Sheet_hasPlace y_Sheet_hasPlace ∈ TB := tb_in 887 (by decide +kernel) (by decide +kernel)
theorem w_67 : Cond.initialized R_Sheet ∈ TB := tb_in 67 (by decide +kernel) (by decide +kernel)
theorem w_189 : Cond.fieldLink R_Sheet 9 R_Sheet "numbers" "[I" ∈ TB := tb_in 189 (by decide +kernel) (by decide +kernel)
theorem w_884 : Cond.code y_Sheet_at b_Sheet_at 2 (some .int) ∈ TB := tb_in 884 (by decide +kernel) (by decide +kernel)
theorem d_Sheet_at_0 : decode b_Sheet_at 0 = .ok (.aload_n 0, 1) := by decide +kernel
theorem d_Sheet_at_1 : decode b_Sheet_at 1 = .ok (.iload_n 1, 1) := by decide +kernel
theorem d_Sheet_at_2 : decode b_Sheet_at 2 = .ok (.invokevirtual 30, 3) := by decide +kernel
theorem d_Sheet_at_5 : decode b_Sheet_at 5 = .ok (.ifCond .eq 21, 3) := by decide +kernel
theorem d_Sheet_at_8 : decode b_Sheet_at 8 = .ok (.iload_n 1, 1) := by decide +kernel
theorem d_Sheet_at_9 : decode b_Sheet_at 9 = .ok (.aload_n 0, 1) := by decide +kernel
theorem d_Sheet_at_10 : decode b_Sheet_at 10 = .ok (.getfield 9, 3) := by decide +kernel
theorem d_Sheet_at_13 : decode b_Sheet_at 13 = .ok (.arraylength, 1) := by decide +kernel
theorem d_Sheet_at_14 : decode b_Sheet_at 14 = .ok (.if_icmp .ge 12, 3) := by decide +kernel
theorem d_Sheet_at_17 : decode b_Sheet_at 17 = .ok (.aload_n 0, 1) := by decide +kernel
theorem d_Sheet_at_18 : decode b_Sheet_at 18 = .ok (.getfield 9, 3) := by decide +kernel
theorem d_Sheet_at_21 : decode b_Sheet_at 21 = .ok (.iload_n 1, 1) := by decide +kernel
theorem d_Sheet_at_22 : decode b_Sheet_at 22 = .ok (.iaload, 1) := by decide +kernel
theorem d_Sheet_at_23 : decode b_Sheet_at 23 = .ok (.goto 4, 3) := by decide +kernel
theorem d_Sheet_at_26 : decode b_Sheet_at 26 = .ok (.iconst 0, 1) := by decide +kernel
theorem d_Sheet_at_27 : decode b_Sheet_at 27 = .ok (.ireturn, 1) := by decide +kernel
section S_Sheet_at
variable {p : Program} {l : Launch} {e : Env} {s : State} {m : MethodId} {args : Array Value} {below : List Frame} {meth : Method} {c : Code} {D : va_G} {cA : Nat → ClassId} {ad : Nat → Nat} {A : Nat → Prop} {r : Int32} {τ : St}
def F_Sheet_at_0 (s0 : St) (v0 : Nat) (v1 : Int32) : Option Int32 := (ob1 (F_Sheet_hasPlace s0 v0 v1) (fun r_1 => (if r_1 = 0 then (some (0 : Int32)) else (if (40 : Int32) ≤ v1 then (some (0 : Int32)) else (if inB v1 40 = true then (some (s0.1 (v0 + 4) v1.toNatClampNeg)) else none)))))
set_option maxHeartbeats 4000000 in
set_option maxRecDepth 100000 in
theorem q_Sheet_at_0 (s0 : St) (K : Fx p s m args meth c b_Sheet_at 2 R_Sheet (some .int))  : ∀ (H : Heap) (locs : List Loc) (ls : Array Slot) (v0 : Nat) (v1 : Int32) (g_v0 : P_Sheet v0), Wh D cA ad shC A s s0 H locs → lv_has ls 2 [(0, .ref (ad v0)), (1, .int v1)] → F_Sheet_at_0 s0 v0 v1 = (some r) → W p l e rm_Sheet_at s m args below meth c H locs 0 0 (MQ below (QcI D cA ad shC A r s0) args s 0 0 A) (F0 m 0 ls []) := by
  have hx := K.1.1; have hb := K.1.2.1
  intro H locs ls v0 v1 g_v0 hw hl hF
  unfold F_Sheet_at_0 at hF
  refine lv_aload_n hx hb d_Sheet_at_0 rfl (lv_at hl 0 rfl) ?_
  refine lv_iload_n hx hb d_Sheet_at_1 rfl (lv_at hl 1 rfl) ?_
  obtain ⟨r_1, h_r_1, hF⟩ := ob1E hF
  refine r_callVI (As := [.int v1]) (rest := []) K hw hl.1 (c_Sheet_hasPlace (l := l) (D := D) (cA := cA) (ad := ad) (s0 := s0) g_v0 h_r_1) (sh_Sheet g_v0) rfl (tb_gV w_885 w_886 w_887 w_67 w_888) a_Sheet_hasPlace ⟨rfl, rfl, Nat.le_of_ble_eq_true rfl, Nat.le_of_ble_eq_true rfl⟩ rfl rfl (Nat.le_of_ble_eq_true rfl) d_Sheet_at_2 (fun H locs hw => ?_)
  refine lv_if_eq (tgt := 26) hx hb d_Sheet_at_5 (by decide) (fun c_2 => ?_) (fun c_2 => ?_)
  · replace hF := ifT hF c_2
    refine lv_iconst (v := 0) hx hb d_Sheet_at_26 (by decide) ?_
    replace hF := sE1 hF
    subst hF
    exact r_iret K hw d_Sheet_at_27
  · replace hF := ifF hF c_2
    refine lv_iload_n hx hb d_Sheet_at_8 rfl (lv_at hl 1 rfl) ?_
    refine lv_aload_n hx hb d_Sheet_at_9 rfl (lv_at hl 0 rfl) ?_
    refine r_get (v := .ref (ad (v0 + 4))) K hw i_Sheet (sh_Sheet g_v0) rfl 0 (by decide) w_189 rfl rfl rfl d_Sheet_at_10 ?_
    refine r_alen (v := 40) K hw (show shC[(v0 + 4)]? = some (.inr (.inl 40)) from (sh_numbersOf g_v0)) (by decide) d_Sheet_at_13 ?_
    refine lv_icmp_ge (tgt := 26) hx hb d_Sheet_at_14 (by decide) (fun c_3 => ?_) (fun c_3 => ?_)
    · replace hF := ifT hF c_3
      refine lv_iconst (v := 0) hx hb d_Sheet_at_26 (by decide) ?_
      replace hF := sE1 hF
      subst hF
      exact r_iret K hw d_Sheet_at_27
    · replace hF := ifF hF c_3
      refine lv_aload_n hx hb d_Sheet_at_17 rfl (lv_at hl 0 rfl) ?_
      refine r_get (v := .ref (ad (v0 + 4))) K hw i_Sheet (sh_Sheet g_v0) rfl 0 (by decide) w_189 rfl rfl rfl d_Sheet_at_18 ?_
      refine lv_iload_n hx hb d_Sheet_at_21 rfl (lv_at hl 1 rfl) ?_
      obtain ⟨g_4, hF⟩ := ifG hF
      refine r_iald (k := v1.toNatClampNeg) K hw (show shC[(v0 + 4)]? = some (.inr (.inl 40)) from (sh_numbersOf g_v0)) rfl (inB_vp g_4) d_Sheet_at_22 ?_
      refine lv_goto (tgt := 27) hx hb d_Sheet_at_23 (by decide) ?_
      replace hF := sE1 hF
      subst hF
      exact r_iret K hw d_Sheet_at_27
end S_Sheet_at
abbrev F_Sheet_at := F_Sheet_at_0
theorem c_Sheet_at {l : Launch} {D : va_G} {cA : Nat → ClassId} {ad : Nat → Nat} {s0 : St} {r : Int32} {v0 : Nat} {v1 : Int32} (g_v0 : P_Sheet v0) (hF : F_Sheet_at s0 v0 v1 = (some r)) : MI l D cA ad shC y_Sheet_at (wT y_Sheet_at b_Sheet_at 2 (some .int)) rm_Sheet_at [.ref (ad v0), .int v1] s0 r s0 := fun sz => m_start (Qc := fun A => QcI D cA ad shC A r s0) (by decide +kernel) w_884 (Nat.le_of_ble_eq_true rfl) (fun p e s m below meth c ls K hl hw => q_Sheet_at_0 s0 K _ _ _ _ _ g_v0 hw hl hF)

/-! Main.firstOtherwise(LSheet;)I -/
abbrev b_Main_firstOtherwise : ByteArray := prog_1_method_52_code
def y_Main_firstOtherwise : MethodName := ⟨R_Main, "firstOtherwise", "(LArmAgainstArm$Sheet;)I"⟩
theorem a_Main_firstOtherwise : y_Main_firstOtherwise.cls = R_Main ∧ y_Main_firstOtherwise.cls ≠ "java/lang/invoke/MethodHandle" ∧ y_Main_firstOtherwise.cls ≠ "java/lang/invoke/VarHandle" ∧ (parseMethodDescriptor y_Main_firstOtherwise.desc).map (fun d => d.parameters.length) = some 1 := by decide +kernel
abbrev rm_Main_firstOtherwise : Room := { frames := 5, cells := 0, slots := 0, locals := 116 }
theorem w_194 : Cond.fieldLink R_Main 309 R_Sheet "size" "I" ∈ TB := tb_in 194 (by decide +kernel) (by decide +kernel)
theorem w_881 : Cond.methodLink R_Main 299 y_Sheet_at ∈ TB := tb_in 881 (by decide +kernel) (by decide +kernel)
theorem w_882 : Cond.instanceMethod y_Sheet_at ∈ TB := tb_in 882 (by decide +kernel) (by decide +kernel)
theorem w_883 : Cond.selects R_Sheet y_Sheet_at y_Sheet_at ∈ TB := tb_in 883 (by decide +kernel) (by decide +kernel)
theorem w_880 : Cond.code y_Main_firstOtherwise b_Main_firstOtherwise 3 (some .int) ∈ TB := tb_in 880 (by decide +kernel) (by decide +kernel)
theorem d_Main_firstOtherwise_0 : decode b_Main_firstOtherwise 0 = .ok (.iconst 0, 1) := by decide +kernel
theorem d_Main_firstOtherwise_1 : decode b_Main_firstOtherwise 1 = .ok (.istore_n 2, 1) := by decide +kernel
theorem d_Main_firstOtherwise_2 : decode b_Main_firstOtherwise 2 = .ok (.iload_n 2, 1) := by decide +kernel
theorem d_Main_firstOtherwise_3 : decode b_Main_firstOtherwise 3 = .ok (.aload_n 1, 1) := by decide +kernel
theorem d_Main_firstOtherwise_4 : decode b_Main_firstOtherwise 4 = .ok (.getfield 309, 3) := by decide +kernel
theorem d_Main_firstOtherwise_7 : decode b_Main_firstOtherwise 7 = .ok (.if_icmp .ge 38, 3) := by decide +kernel
theorem d_Main_firstOtherwise_10 : decode b_Main_firstOtherwise 10 = .ok (.aload_n 0, 1) := by decide +kernel
theorem d_Main_firstOtherwise_11 : decode b_Main_firstOtherwise 11 = .ok (.getfield 86, 3) := by decide +kernel
theorem d_Main_firstOtherwise_14 : decode b_Main_firstOtherwise 14 = .ok (.iconst 5, 1) := by decide +kernel
theorem d_Main_firstOtherwise_15 : decode b_Main_firstOtherwise 15 = .ok (.iload_n 2, 1) := by decide +kernel
theorem d_Main_firstOtherwise_16 : decode b_Main_firstOtherwise 16 = .ok (.iconst 1, 1) := by decide +kernel
theorem d_Main_firstOtherwise_17 : decode b_Main_firstOtherwise 17 = .ok (.iadd, 1) := by decide +kernel
theorem d_Main_firstOtherwise_18 : decode b_Main_firstOtherwise 18 = .ok (.imul, 1) := by decide +kernel
theorem d_Main_firstOtherwise_19 : decode b_Main_firstOtherwise 19 = .ok (.invokevirtual 182, 3) := by decide +kernel
theorem d_Main_firstOtherwise_22 : decode b_Main_firstOtherwise 22 = .ok (.aload_n 0, 1) := by decide +kernel
theorem d_Main_firstOtherwise_23 : decode b_Main_firstOtherwise 23 = .ok (.getfield 86, 3) := by decide +kernel
theorem d_Main_firstOtherwise_26 : decode b_Main_firstOtherwise 26 = .ok (.getfield 185, 3) := by decide +kernel
theorem d_Main_firstOtherwise_29 : decode b_Main_firstOtherwise 29 = .ok (.aload_n 1, 1) := by decide +kernel
theorem d_Main_firstOtherwise_30 : decode b_Main_firstOtherwise 30 = .ok (.iload_n 2, 1) := by decide +kernel
theorem d_Main_firstOtherwise_31 : decode b_Main_firstOtherwise 31 = .ok (.invokevirtual 299, 3) := by decide +kernel
theorem d_Main_firstOtherwise_34 : decode b_Main_firstOtherwise 34 = .ok (.if_icmp .eq 5, 3) := by decide +kernel
theorem d_Main_firstOtherwise_37 : decode b_Main_firstOtherwise 37 = .ok (.iload_n 2, 1) := by decide +kernel
theorem d_Main_firstOtherwise_38 : decode b_Main_firstOtherwise 38 = .ok (.ireturn, 1) := by decide +kernel
theorem d_Main_firstOtherwise_39 : decode b_Main_firstOtherwise 39 = .ok (.iinc 2 1, 3) := by decide +kernel
theorem d_Main_firstOtherwise_42 : decode b_Main_firstOtherwise 42 = .ok (.goto (-40), 3) := by decide +kernel
theorem d_Main_firstOtherwise_45 : decode b_Main_firstOtherwise 45 = .ok (.iconst (-1), 1) := by decide +kernel
theorem d_Main_firstOtherwise_46 : decode b_Main_firstOtherwise 46 = .ok (.ireturn, 1) := by decide +kernel
section S_Main_firstOtherwise
variable {p : Program} {l : Launch} {e : Env} {s : State} {m : MethodId} {args : Array Value} {below : List Frame} {meth : Method} {c : Code} {D : va_G} {cA : Nat → ClassId} {ad : Nat → Nat} {A : Nat → Prop} {r : Int32} {τ : St}
def F_Main_firstOtherwise_2 : Nat → St → Nat → Int32 → Option (Int32 × St)
  | 0, _, _, _ => none
  | n + 1, s0, v1, v2 => (if (s0.1 v1 2) ≤ v2 then (some ((-1 : Int32), s0)) else (ob1 (F_Bout_playTo s0 ((5 : Int32) * (v2 + (1 : Int32)))) (fun s_2 => (ob1 (F_Sheet_at s_2 v1 v2) (fun r_3 => (if (s_2.1 11 3) = r_3 then (F_Main_firstOtherwise_2 n s_2 v1 (v2 + 1)) else (some (v2, s_2))))))))
set_option maxHeartbeats 4000000 in
set_option maxRecDepth 100000 in
theorem q_Main_firstOtherwise_2 (K : Fx p s m args meth c b_Main_firstOtherwise 3 R_Main (some .int))  : ∀ (n : Nat), ∀ (H : Heap) (locs : List Loc) (ls : Array Slot) (s0 : St) (v1 : Nat) (v2 : Int32) (g_v1 : P_Sheet v1), Wh D cA ad shC A s s0 H locs → lv_has ls 3 [(0, .ref (ad 0)), (1, .ref (ad v1)), (2, .int v2)] → F_Main_firstOtherwise_2 n s0 v1 v2 = (some (r, τ)) → W p l e rm_Main_firstOtherwise s m args below meth c H locs 0 0 (MQ below (QcI D cA ad shC A r τ) args s 0 0 A) (F0 m 2 ls []) := by
  have hx := K.1.1; have hb := K.1.2.1
  intro n
  induction n with
  | zero =>
    intro H locs ls s0 v1 v2 g_v1 hw hl hF
    exact absurd hF (by rw [F_Main_firstOtherwise_2]; exact nofun)
  | succ n ih =>
    intro H locs ls s0 v1 v2 g_v1 hw hl hF
    rw [F_Main_firstOtherwise_2] at hF
    refine lv_iload_n hx hb d_Main_firstOtherwise_2 rfl (lv_at hl 2 rfl) ?_
    refine lv_aload_n hx hb d_Main_firstOtherwise_3 rfl (lv_at hl 1 rfl) ?_
    refine r_get (v := .int (s0.1 v1 2)) K hw i_Sheet (sh_Sheet g_v1) rfl 2 (by decide) w_194 rfl rfl rfl d_Main_firstOtherwise_4 ?_
    refine lv_icmp_ge (tgt := 45) hx hb d_Main_firstOtherwise_7 (by decide) (fun c_1 => ?_) (fun c_1 => ?_)
    · replace hF := ifT hF c_1
      refine lv_iconst (v := -1) hx hb d_Main_firstOtherwise_45 (by decide) ?_
      obtain ⟨hF, hG⟩ := sE2 hF
      subst hF
      subst hG
      exact r_iret K hw d_Main_firstOtherwise_46
    · replace hF := ifF hF c_1
      refine lv_aload_n hx hb d_Main_firstOtherwise_10 rfl (lv_at hl 0 rfl) ?_
      refine r_get (v := .ref (ad 11)) K hw i_Main sh_Main rfl 7 (by decide) w_605 rfl rfl rfl d_Main_firstOtherwise_11 ?_
      refine lv_iconst (v := 5) hx hb d_Main_firstOtherwise_14 (by decide) ?_
      refine lv_iload_n hx hb d_Main_firstOtherwise_15 rfl (lv_at hl 2 rfl) ?_
      refine lv_iconst (v := 1) hx hb d_Main_firstOtherwise_16 (by decide) ?_
      refine lv_iadd hx hb d_Main_firstOtherwise_17 ?_
      refine lv_imul hx hb d_Main_firstOtherwise_18 ?_
      obtain ⟨s_2, h_s_2, hF⟩ := ob1E hF
      refine r_callVV (As := [.int ((5 : Int32) * (v2 + (1 : Int32)))]) (rest := []) K hw hl.1 (c_Bout_playTo (l := l) (D := D) (cA := cA) (ad := ad) (s0 := s0)  h_s_2) sh_Bout rfl (tb_gV w_737 w_738 w_739 w_77 w_740) a_Bout_playTo ⟨rfl, rfl, Nat.le_of_ble_eq_true rfl, Nat.le_of_ble_eq_true rfl⟩ rfl rfl (Nat.le_of_ble_eq_true rfl) d_Main_firstOtherwise_19 (fun H locs hw => ?_)
      refine lv_aload_n hx hb d_Main_firstOtherwise_22 rfl (lv_at hl 0 rfl) ?_
      refine r_get (v := .ref (ad 11)) K hw i_Main sh_Main rfl 7 (by decide) w_605 rfl rfl rfl d_Main_firstOtherwise_23 ?_
      refine r_get (v := .int (s_2.1 11 3)) K hw i_Bout sh_Bout rfl 3 (by decide) w_540 rfl rfl rfl d_Main_firstOtherwise_26 ?_
      refine lv_aload_n hx hb d_Main_firstOtherwise_29 rfl (lv_at hl 1 rfl) ?_
      refine lv_iload_n hx hb d_Main_firstOtherwise_30 rfl (lv_at hl 2 rfl) ?_
      obtain ⟨r_3, h_r_3, hF⟩ := ob1E hF
      refine r_callVI (As := [.int v2]) (rest := [.int (s_2.1 11 3)]) K hw hl.1 (c_Sheet_at (l := l) (D := D) (cA := cA) (ad := ad) (s0 := s_2) g_v1 h_r_3) (sh_Sheet g_v1) rfl (tb_gV w_881 w_882 w_883 w_67 w_884) a_Sheet_at ⟨rfl, rfl, Nat.le_of_ble_eq_true rfl, Nat.le_of_ble_eq_true rfl⟩ rfl rfl (Nat.le_of_ble_eq_true rfl) d_Main_firstOtherwise_31 (fun H locs hw => ?_)
      refine lv_icmp_eq (tgt := 39) hx hb d_Main_firstOtherwise_34 (by decide) (fun c_4 => ?_) (fun c_4 => ?_)
      · replace hF := ifT hF c_4
        refine lv_iinc (v := (v2 + 1)) (lv' := [(2, .int (v2 + 1)), (0, .ref (ad 0)), (1, .ref (ad v1))]) hx hb d_Main_firstOtherwise_39 hl (k := 2) rfl rfl (by decide) rfl (fun ls hl => ?_)
        refine lv_goto (tgt := 2) hx hb d_Main_firstOtherwise_42 (by decide) ?_
        exact ih _ _ _ _ _ _ g_v1 hw (lv_sub hl [1, 2, 0] rfl) hF
      · replace hF := ifF hF c_4
        refine lv_iload_n hx hb d_Main_firstOtherwise_37 rfl (lv_at hl 2 rfl) ?_
        obtain ⟨hF, hG⟩ := sE2 hF
        subst hF
        subst hG
        exact r_iret K hw d_Main_firstOtherwise_38
def F_Main_firstOtherwise_0 (s0 : St) (v1 : Nat) : Option (Int32 × St) := (F_Main_firstOtherwise_2 FU s0 v1 (0 : Int32))
set_option maxHeartbeats 4000000 in
set_option maxRecDepth 100000 in
theorem q_Main_firstOtherwise_0 (K : Fx p s m args meth c b_Main_firstOtherwise 3 R_Main (some .int))  : ∀ (H : Heap) (locs : List Loc) (ls : Array Slot) (s0 : St) (v1 : Nat) (g_v1 : P_Sheet v1), Wh D cA ad shC A s s0 H locs → lv_has ls 3 [(0, .ref (ad 0)), (1, .ref (ad v1))] → F_Main_firstOtherwise_0 s0 v1 = (some (r, τ)) → W p l e rm_Main_firstOtherwise s m args below meth c H locs 0 0 (MQ below (QcI D cA ad shC A r τ) args s 0 0 A) (F0 m 0 ls []) := by
  have hx := K.1.1; have hb := K.1.2.1
  intro H locs ls s0 v1 g_v1 hw hl hF
  unfold F_Main_firstOtherwise_0 at hF
  refine lv_iconst (v := 0) hx hb d_Main_firstOtherwise_0 (by decide) ?_
  refine lv_istore_n (lv' := [(2, .int (0 : Int32)), (0, .ref (ad 0)), (1, .ref (ad v1))]) hx hb d_Main_firstOtherwise_1 rfl hl (by decide) rfl (fun ls hl => ?_)
  exact q_Main_firstOtherwise_2 K FU _ _ _ _ _ _ g_v1 hw (lv_sub hl [1, 2, 0] rfl) hF
end S_Main_firstOtherwise
abbrev F_Main_firstOtherwise := F_Main_firstOtherwise_0
theorem c_Main_firstOtherwise {l : Launch} {D : va_G} {cA : Nat → ClassId} {ad : Nat → Nat} {s0 τ : St} {r : Int32} {v1 : Nat} (g_v1 : P_Sheet v1) (hF : F_Main_firstOtherwise s0 v1 = (some (r, τ))) : MI l D cA ad shC y_Main_firstOtherwise (wT y_Main_firstOtherwise b_Main_firstOtherwise 3 (some .int)) rm_Main_firstOtherwise [.ref (ad 0), .ref (ad v1)] s0 r τ := fun sz => m_start (Qc := fun A => QcI D cA ad shC A r τ) (by decide +kernel) w_880 (Nat.le_of_ble_eq_true rfl) (fun p e s m below meth c ls K hl hw => q_Main_firstOtherwise_0 K _ _ _ _ _ g_v1 hw hl hF)

/-! Main.isSheet(I)Z -/
abbrev b_Main_isSheet : ByteArray := prog_1_method_44_code
def y_Main_isSheet : MethodName := ⟨R_Main, "isSheet", "(I)Z"⟩
theorem a_Main_isSheet : y_Main_isSheet.cls = R_Main ∧ y_Main_isSheet.cls ≠ "java/lang/invoke/MethodHandle" ∧ y_Main_isSheet.cls ≠ "java/lang/invoke/VarHandle" ∧ (parseMethodDescriptor y_Main_isSheet.desc).map (fun d => d.parameters.length) = some 1 := by decide +kernel
abbrev rm_Main_isSheet : Room := { frames := 1, cells := 0, slots := 0, locals := 22 }
theorem w_876 : Cond.code y_Main_isSheet b_Main_isSheet 1 (some .boolean) ∈ TB := tb_in 876 (by decide +kernel) (by decide +kernel)
theorem d_Main_isSheet_0 : decode b_Main_isSheet 0 = .ok (.iload_n 0, 1) := by decide +kernel
theorem d_Main_isSheet_1 : decode b_Main_isSheet 1 = .ok (.iconst 0, 1) := by decide +kernel
theorem d_Main_isSheet_2 : decode b_Main_isSheet 2 = .ok (.iconst 3, 1) := by decide +kernel
theorem d_Main_isSheet_3 : decode b_Main_isSheet 3 = .ok (.invokestatic 108, 3) := by decide +kernel
theorem d_Main_isSheet_6 : decode b_Main_isSheet 6 = .ok (.ireturn, 1) := by decide +kernel
section S_Main_isSheet
variable {p : Program} {l : Launch} {e : Env} {s : State} {m : MethodId} {args : Array Value} {below : List Frame} {meth : Method} {c : Code} {D : va_G} {cA : Nat → ClassId} {ad : Nat → Nat} {A : Nat → Prop} {r : Int32} {τ : St}
def F_Main_isSheet_0 (v0 : Int32) : Option Int32 := (if ((F_Main_isWithin v0 (0 : Int32) (3 : Int32)) = 0 ∨ (F_Main_isWithin v0 (0 : Int32) (3 : Int32)) = 1) then (some (F_Main_isWithin v0 (0 : Int32) (3 : Int32))) else none)
set_option maxHeartbeats 4000000 in
set_option maxRecDepth 100000 in
theorem q_Main_isSheet_0 (s0 : St) (K : Fx p s m args meth c b_Main_isSheet 1 R_Main (some .boolean))  : ∀ (H : Heap) (locs : List Loc) (ls : Array Slot) (v0 : Int32), Wh D cA ad shC A s s0 H locs → lv_has ls 1 [(0, .int v0)] → F_Main_isSheet_0 v0 = (some r) → W p l e rm_Main_isSheet s m args below meth c H locs 0 0 (MQ below (QcI D cA ad shC A r s0) args s 0 0 A) (F0 m 0 ls []) := by
  have hx := K.1.1; have hb := K.1.2.1
  intro H locs ls v0 hw hl hF
  unfold F_Main_isSheet_0 at hF
  refine lv_iload_n hx hb d_Main_isSheet_0 rfl (lv_at hl 0 rfl) ?_
  refine lv_iconst (v := 0) hx hb d_Main_isSheet_1 (by decide) ?_
  refine lv_iconst (v := 3) hx hb d_Main_isSheet_2 (by decide) ?_
  refine r_callSI (As := [.int v0, .int (0 : Int32), .int (3 : Int32)]) (rest := []) K hw hl.1 (c_Main_isWithin (l := l) (D := D) (cA := cA) (ad := ad) (s0 := s0)  rfl) (tb_gS w_640 w_347 w_63 w_348) a_Main_isWithin ⟨rfl, rfl, Nat.le_of_ble_eq_true rfl, Nat.le_of_ble_eq_true rfl⟩ rfl rfl (Nat.le_of_ble_eq_true rfl) d_Main_isSheet_3 (fun H locs hw => ?_)
  obtain ⟨g_1, hF⟩ := ifG hF
  replace hF := sE1 hF
  subst hF
  exact r_zret K hw (zN g_1) d_Main_isSheet_6
end S_Main_isSheet
abbrev F_Main_isSheet := F_Main_isSheet_0
theorem c_Main_isSheet {l : Launch} {D : va_G} {cA : Nat → ClassId} {ad : Nat → Nat} {s0 : St} {r : Int32} {v0 : Int32}  (hF : F_Main_isSheet v0 = (some r)) : MI l D cA ad shC y_Main_isSheet (wT y_Main_isSheet b_Main_isSheet 1 (some .boolean)) rm_Main_isSheet [.int v0] s0 r s0 := fun sz => m_start (Qc := fun A => QcI D cA ad shC A r s0) (by decide +kernel) w_876 (Nat.le_of_ble_eq_true rfl) (fun p e s m below meth c ls K hl hw => q_Main_isSheet_0 s0 K _ _ _ _  hw hl hF)

/-! Main.refusalOfTold(I)I -/
abbrev b_Main_refusalOfTold : ByteArray := prog_1_method_51_code
def y_Main_refusalOfTold : MethodName := ⟨R_Main, "refusalOfTold", "(I)I"⟩
theorem a_Main_refusalOfTold : y_Main_refusalOfTold.cls = R_Main ∧ y_Main_refusalOfTold.cls ≠ "java/lang/invoke/MethodHandle" ∧ y_Main_refusalOfTold.cls ≠ "java/lang/invoke/VarHandle" ∧ (parseMethodDescriptor y_Main_refusalOfTold.desc).map (fun d => d.parameters.length) = some 1 := by decide +kernel
abbrev rm_Main_refusalOfTold : Room := { frames := 2, cells := 0, slots := 0, locals := 42 }
theorem w_874 : Cond.methodLink R_Main 255 y_Main_isSheet ∈ TB := tb_in 874 (by decide +kernel) (by decide +kernel)
theorem w_875 : Cond.static y_Main_isSheet ∈ TB := tb_in 875 (by decide +kernel) (by decide +kernel)
theorem w_607 : Cond.fieldLink R_Main 30 R_Main "sheets" "[LArmAgainstArm$Sheet;" ∈ TB := tb_in 607 (by decide +kernel) (by decide +kernel)
theorem w_192 : Cond.fieldLink R_Main 281 R_Sheet "sort" "I" ∈ TB := tb_in 192 (by decide +kernel) (by decide +kernel)
theorem w_873 : Cond.code y_Main_refusalOfTold b_Main_refusalOfTold 2 (some .int) ∈ TB := tb_in 873 (by decide +kernel) (by decide +kernel)
theorem d_Main_refusalOfTold_0 : decode b_Main_refusalOfTold 0 = .ok (.iload_n 1, 1) := by decide +kernel
theorem d_Main_refusalOfTold_1 : decode b_Main_refusalOfTold 1 = .ok (.invokestatic 255, 3) := by decide +kernel
theorem d_Main_refusalOfTold_4 : decode b_Main_refusalOfTold 4 = .ok (.ifCond .ne 6, 3) := by decide +kernel
theorem d_Main_refusalOfTold_7 : decode b_Main_refusalOfTold 7 = .ok (.bipush (-2), 2) := by decide +kernel
theorem d_Main_refusalOfTold_9 : decode b_Main_refusalOfTold 9 = .ok (.ireturn, 1) := by decide +kernel
theorem d_Main_refusalOfTold_10 : decode b_Main_refusalOfTold 10 = .ok (.aload_n 0, 1) := by decide +kernel
theorem d_Main_refusalOfTold_11 : decode b_Main_refusalOfTold 11 = .ok (.getfield 30, 3) := by decide +kernel
theorem d_Main_refusalOfTold_14 : decode b_Main_refusalOfTold 14 = .ok (.iload_n 1, 1) := by decide +kernel
theorem d_Main_refusalOfTold_15 : decode b_Main_refusalOfTold 15 = .ok (.aaload, 1) := by decide +kernel
theorem d_Main_refusalOfTold_16 : decode b_Main_refusalOfTold 16 = .ok (.getfield 281, 3) := by decide +kernel
theorem d_Main_refusalOfTold_19 : decode b_Main_refusalOfTold 19 = .ok (.iconst (-1), 1) := by decide +kernel
theorem d_Main_refusalOfTold_20 : decode b_Main_refusalOfTold 20 = .ok (.if_icmp .ne 6, 3) := by decide +kernel
theorem d_Main_refusalOfTold_23 : decode b_Main_refusalOfTold 23 = .ok (.bipush (-11), 2) := by decide +kernel
theorem d_Main_refusalOfTold_25 : decode b_Main_refusalOfTold 25 = .ok (.ireturn, 1) := by decide +kernel
theorem d_Main_refusalOfTold_26 : decode b_Main_refusalOfTold 26 = .ok (.aload_n 0, 1) := by decide +kernel
theorem d_Main_refusalOfTold_27 : decode b_Main_refusalOfTold 27 = .ok (.getfield 30, 3) := by decide +kernel
theorem d_Main_refusalOfTold_30 : decode b_Main_refusalOfTold 30 = .ok (.iload_n 1, 1) := by decide +kernel
theorem d_Main_refusalOfTold_31 : decode b_Main_refusalOfTold 31 = .ok (.aaload, 1) := by decide +kernel
theorem d_Main_refusalOfTold_32 : decode b_Main_refusalOfTold 32 = .ok (.getfield 309, 3) := by decide +kernel
theorem d_Main_refusalOfTold_35 : decode b_Main_refusalOfTold 35 = .ok (.bipush 8, 2) := by decide +kernel
theorem d_Main_refusalOfTold_37 : decode b_Main_refusalOfTold 37 = .ok (.if_icmp .le 8, 3) := by decide +kernel
theorem d_Main_refusalOfTold_40 : decode b_Main_refusalOfTold 40 = .ok (.bipush (-2), 2) := by decide +kernel
theorem d_Main_refusalOfTold_42 : decode b_Main_refusalOfTold 42 = .ok (.goto 4, 3) := by decide +kernel
theorem d_Main_refusalOfTold_45 : decode b_Main_refusalOfTold 45 = .ok (.iconst 0, 1) := by decide +kernel
theorem d_Main_refusalOfTold_46 : decode b_Main_refusalOfTold 46 = .ok (.ireturn, 1) := by decide +kernel
section S_Main_refusalOfTold
variable {p : Program} {l : Launch} {e : Env} {s : State} {m : MethodId} {args : Array Value} {below : List Frame} {meth : Method} {c : Code} {D : va_G} {cA : Nat → ClassId} {ad : Nat → Nat} {A : Nat → Prop} {r : Int32} {τ : St}
def F_Main_refusalOfTold_0 (s0 : St) (v1 : Int32) : Option Int32 := (ob1 (F_Main_isSheet v1) (fun r_1 => (if ¬ r_1 = 0 then (if inB v1 4 = true then (if ¬ (s0.1 (42 + v1.toNatClampNeg) 1) = (-1 : Int32) then (if inB v1 4 = true then (if (s0.1 (42 + v1.toNatClampNeg) 2) ≤ (8 : Int32) then (some (0 : Int32)) else (some (-2 : Int32))) else none) else (some (-11 : Int32))) else none) else (some (-2 : Int32)))))
set_option maxHeartbeats 4000000 in
set_option maxRecDepth 100000 in
theorem q_Main_refusalOfTold_0 (s0 : St) (K : Fx p s m args meth c b_Main_refusalOfTold 2 R_Main (some .int))  : ∀ (H : Heap) (locs : List Loc) (ls : Array Slot) (v1 : Int32), Wh D cA ad shC A s s0 H locs → lv_has ls 2 [(0, .ref (ad 0)), (1, .int v1)] → F_Main_refusalOfTold_0 s0 v1 = (some r) → W p l e rm_Main_refusalOfTold s m args below meth c H locs 0 0 (MQ below (QcI D cA ad shC A r s0) args s 0 0 A) (F0 m 0 ls []) := by
  have hx := K.1.1; have hb := K.1.2.1
  intro H locs ls v1 hw hl hF
  unfold F_Main_refusalOfTold_0 at hF
  refine lv_iload_n hx hb d_Main_refusalOfTold_0 rfl (lv_at hl 1 rfl) ?_
  obtain ⟨r_1, h_r_1, hF⟩ := ob1E hF
  refine r_callSI (As := [.int v1]) (rest := []) K hw hl.1 (c_Main_isSheet (l := l) (D := D) (cA := cA) (ad := ad) (s0 := s0)  h_r_1) (tb_gS w_874 w_875 w_63 w_876) a_Main_isSheet ⟨rfl, rfl, Nat.le_of_ble_eq_true rfl, Nat.le_of_ble_eq_true rfl⟩ rfl rfl (Nat.le_of_ble_eq_true rfl) d_Main_refusalOfTold_1 (fun H locs hw => ?_)
  refine lv_if_ne (tgt := 10) hx hb d_Main_refusalOfTold_4 (by decide) (fun c_2 => ?_) (fun c_2 => ?_)
  · replace hF := ifT hF c_2
    refine lv_aload_n hx hb d_Main_refusalOfTold_10 rfl (lv_at hl 0 rfl) ?_
    refine r_get (v := .ref (ad 3)) K hw i_Main sh_Main rfl 9 (by decide) w_607 rfl rfl rfl d_Main_refusalOfTold_11 ?_
    refine lv_iload_n hx hb d_Main_refusalOfTold_14 rfl (lv_at hl 1 rfl) ?_
    obtain ⟨g_3, hF⟩ := ifG hF
    refine r_aald (k := v1.toNatClampNeg) K hw (show shC[3]? = some (.inr (.inr (3, 42, 4))) from rfl) (rfl : (TYS cA)[3]? = some (cA 3, _)) rfl (inB_vp g_3) d_Main_refusalOfTold_15 ?_
    refine r_get (v := .int (s0.1 (42 + v1.toNatClampNeg) 1)) K hw i_Sheet (sh_Sheet (P_Sheet_of g_3)) rfl 1 (by decide) w_192 rfl rfl rfl d_Main_refusalOfTold_16 ?_
    refine lv_iconst (v := -1) hx hb d_Main_refusalOfTold_19 (by decide) ?_
    refine lv_icmp_ne (tgt := 26) hx hb d_Main_refusalOfTold_20 (by decide) (fun c_4 => ?_) (fun c_4 => ?_)
    · replace hF := ifT hF c_4
      refine lv_aload_n hx hb d_Main_refusalOfTold_26 rfl (lv_at hl 0 rfl) ?_
      refine r_get (v := .ref (ad 3)) K hw i_Main sh_Main rfl 9 (by decide) w_607 rfl rfl rfl d_Main_refusalOfTold_27 ?_
      refine lv_iload_n hx hb d_Main_refusalOfTold_30 rfl (lv_at hl 1 rfl) ?_
      obtain ⟨g_5, hF⟩ := ifG hF
      refine r_aald (k := v1.toNatClampNeg) K hw (show shC[3]? = some (.inr (.inr (3, 42, 4))) from rfl) (rfl : (TYS cA)[3]? = some (cA 3, _)) rfl (inB_vp g_5) d_Main_refusalOfTold_31 ?_
      refine r_get (v := .int (s0.1 (42 + v1.toNatClampNeg) 2)) K hw i_Sheet (sh_Sheet (P_Sheet_of g_5)) rfl 2 (by decide) w_194 rfl rfl rfl d_Main_refusalOfTold_32 ?_
      refine lv_bipush (v := 8) hx hb d_Main_refusalOfTold_35 (by decide) ?_
      refine lv_icmp_le (tgt := 45) hx hb d_Main_refusalOfTold_37 (by decide) (fun c_6 => ?_) (fun c_6 => ?_)
      · replace hF := ifT hF c_6
        refine lv_iconst (v := 0) hx hb d_Main_refusalOfTold_45 (by decide) ?_
        replace hF := sE1 hF
        subst hF
        exact r_iret K hw d_Main_refusalOfTold_46
      · replace hF := ifF hF c_6
        refine lv_bipush (v := -2) hx hb d_Main_refusalOfTold_40 (by decide) ?_
        refine lv_goto (tgt := 46) hx hb d_Main_refusalOfTold_42 (by decide) ?_
        replace hF := sE1 hF
        subst hF
        exact r_iret K hw d_Main_refusalOfTold_46
    · replace hF := ifN hF c_4
      refine lv_bipush (v := -11) hx hb d_Main_refusalOfTold_23 (by decide) ?_
      replace hF := sE1 hF
      subst hF
      exact r_iret K hw d_Main_refusalOfTold_25
  · replace hF := ifN hF c_2
    refine lv_bipush (v := -2) hx hb d_Main_refusalOfTold_7 (by decide) ?_
    replace hF := sE1 hF
    subst hF
    exact r_iret K hw d_Main_refusalOfTold_9
end S_Main_refusalOfTold
abbrev F_Main_refusalOfTold := F_Main_refusalOfTold_0
theorem c_Main_refusalOfTold {l : Launch} {D : va_G} {cA : Nat → ClassId} {ad : Nat → Nat} {s0 : St} {r : Int32} {v1 : Int32}  (hF : F_Main_refusalOfTold s0 v1 = (some r)) : MI l D cA ad shC y_Main_refusalOfTold (wT y_Main_refusalOfTold b_Main_refusalOfTold 2 (some .int)) rm_Main_refusalOfTold [.ref (ad 0), .int v1] s0 r s0 := fun sz => m_start (Qc := fun A => QcI D cA ad shC A r s0) (by decide +kernel) w_873 (Nat.le_of_ble_eq_true rfl) (fun p e s m below meth c ls K hl hw => q_Main_refusalOfTold_0 s0 K _ _ _ _  hw hl hF)

/-! Main.judge(III)I -/
abbrev b_Main_judge : ByteArray := prog_1_method_21_code
def y_Main_judge : MethodName := ⟨R_Main, "judge", "(III)I"⟩
theorem a_Main_judge : y_Main_judge.cls = R_Main ∧ y_Main_judge.cls ≠ "java/lang/invoke/MethodHandle" ∧ y_Main_judge.cls ≠ "java/lang/invoke/VarHandle" ∧ (parseMethodDescriptor y_Main_judge.desc).map (fun d => d.parameters.length) = some 3 := by decide +kernel
abbrev rm_Main_judge : Room := { frames := 6, cells := 0, slots := 0, locals := 138 }
theorem w_870 : Cond.methodLink R_Main 245 y_Main_refusalOfTold ∈ TB := tb_in 870 (by decide +kernel) (by decide +kernel)
theorem w_872 : Cond.instanceMethod y_Main_refusalOfTold ∈ TB := tb_in 872 (by decide +kernel) (by decide +kernel)
theorem w_27 : Cond.selects R_Main y_Main_refusalOfTold y_Main_refusalOfTold ∈ TB := tb_in 27 (by decide +kernel) (by decide +kernel)
theorem w_877 : Cond.methodLink R_Main 248 y_Main_firstOtherwise ∈ TB := tb_in 877 (by decide +kernel) (by decide +kernel)
theorem w_879 : Cond.instanceMethod y_Main_firstOtherwise ∈ TB := tb_in 879 (by decide +kernel) (by decide +kernel)
theorem w_28 : Cond.selects R_Main y_Main_firstOtherwise y_Main_firstOtherwise ∈ TB := tb_in 28 (by decide +kernel) (by decide +kernel)
theorem w_869 : Cond.code y_Main_judge b_Main_judge 5 (some .int) ∈ TB := tb_in 869 (by decide +kernel) (by decide +kernel)
theorem d_Main_judge_0 : decode b_Main_judge 0 = .ok (.aload_n 0, 1) := by decide +kernel
theorem d_Main_judge_1 : decode b_Main_judge 1 = .ok (.iload_n 1, 1) := by decide +kernel
theorem d_Main_judge_2 : decode b_Main_judge 2 = .ok (.invokevirtual 245, 3) := by decide +kernel
theorem d_Main_judge_5 : decode b_Main_judge 5 = .ok (.istore 4, 2) := by decide +kernel
theorem d_Main_judge_7 : decode b_Main_judge 7 = .ok (.iload 4, 2) := by decide +kernel
theorem d_Main_judge_9 : decode b_Main_judge 9 = .ok (.ifCond .eq 6, 3) := by decide +kernel
theorem d_Main_judge_12 : decode b_Main_judge 12 = .ok (.iload 4, 2) := by decide +kernel
theorem d_Main_judge_14 : decode b_Main_judge 14 = .ok (.ireturn, 1) := by decide +kernel
theorem d_Main_judge_15 : decode b_Main_judge 15 = .ok (.aload_n 0, 1) := by decide +kernel
theorem d_Main_judge_16 : decode b_Main_judge 16 = .ok (.iload_n 2, 1) := by decide +kernel
theorem d_Main_judge_17 : decode b_Main_judge 17 = .ok (.iload_n 3, 1) := by decide +kernel
theorem d_Main_judge_18 : decode b_Main_judge 18 = .ok (.invokevirtual 194, 3) := by decide +kernel
theorem d_Main_judge_21 : decode b_Main_judge 21 = .ok (.ifCond .ne 6, 3) := by decide +kernel
theorem d_Main_judge_24 : decode b_Main_judge 24 = .ok (.bipush (-5), 2) := by decide +kernel
theorem d_Main_judge_26 : decode b_Main_judge 26 = .ok (.ireturn, 1) := by decide +kernel
theorem d_Main_judge_27 : decode b_Main_judge 27 = .ok (.aload_n 0, 1) := by decide +kernel
theorem d_Main_judge_28 : decode b_Main_judge 28 = .ok (.iload_n 2, 1) := by decide +kernel
theorem d_Main_judge_29 : decode b_Main_judge 29 = .ok (.iload_n 3, 1) := by decide +kernel
theorem d_Main_judge_30 : decode b_Main_judge 30 = .ok (.invokevirtual 174, 3) := by decide +kernel
theorem d_Main_judge_33 : decode b_Main_judge 33 = .ok (.aload_n 0, 1) := by decide +kernel
theorem d_Main_judge_34 : decode b_Main_judge 34 = .ok (.aload_n 0, 1) := by decide +kernel
theorem d_Main_judge_35 : decode b_Main_judge 35 = .ok (.getfield 30, 3) := by decide +kernel
theorem d_Main_judge_38 : decode b_Main_judge 38 = .ok (.iload_n 1, 1) := by decide +kernel
theorem d_Main_judge_39 : decode b_Main_judge 39 = .ok (.aaload, 1) := by decide +kernel
theorem d_Main_judge_40 : decode b_Main_judge 40 = .ok (.invokevirtual 248, 3) := by decide +kernel
theorem d_Main_judge_43 : decode b_Main_judge 43 = .ok (.ireturn, 1) := by decide +kernel
section S_Main_judge
variable {p : Program} {l : Launch} {e : Env} {s : State} {m : MethodId} {args : Array Value} {below : List Frame} {meth : Method} {c : Code} {D : va_G} {cA : Nat → ClassId} {ad : Nat → Nat} {A : Nat → Prop} {r : Int32} {τ : St}
def F_Main_judge_0 (s0 : St) (v1 : Int32) (v2 : Int32) (v3 : Int32) : Option (Int32 × St) := (ob1 (F_Main_refusalOfTold s0 v1) (fun r_1 => (if r_1 = 0 then (ob1 (F_Main_areTwo s0 v2 v3) (fun r_3 => (if ¬ r_3 = 0 then (ob1 (F_Main_opn s0 v2 v3) (fun s_5 => (if inB v1 4 = true then (ob2 (F_Main_firstOtherwise s_5 (42 + v1.toNatClampNeg)) (fun r_7 s_8 => (some (r_7, s_8)))) else none))) else (some ((-5 : Int32), s0))))) else (some (r_1, s0)))))
set_option maxHeartbeats 4000000 in
set_option maxRecDepth 100000 in
theorem q_Main_judge_0 (K : Fx p s m args meth c b_Main_judge 5 R_Main (some .int))  : ∀ (H : Heap) (locs : List Loc) (ls : Array Slot) (s0 : St) (v1 : Int32) (v2 : Int32) (v3 : Int32), Wh D cA ad shC A s s0 H locs → lv_has ls 5 [(0, .ref (ad 0)), (1, .int v1), (2, .int v2), (3, .int v3)] → F_Main_judge_0 s0 v1 v2 v3 = (some (r, τ)) → W p l e rm_Main_judge s m args below meth c H locs 0 0 (MQ below (QcI D cA ad shC A r τ) args s 0 0 A) (F0 m 0 ls []) := by
  have hx := K.1.1; have hb := K.1.2.1
  intro H locs ls s0 v1 v2 v3 hw hl hF
  unfold F_Main_judge_0 at hF
  refine lv_aload_n hx hb d_Main_judge_0 rfl (lv_at hl 0 rfl) ?_
  refine lv_iload_n hx hb d_Main_judge_1 rfl (lv_at hl 1 rfl) ?_
  obtain ⟨r_1, h_r_1, hF⟩ := ob1E hF
  refine r_callVI (As := [.int v1]) (rest := []) K hw hl.1 (c_Main_refusalOfTold (l := l) (D := D) (cA := cA) (ad := ad) (s0 := s0)  h_r_1) sh_Main rfl (tb_gV w_870 w_872 w_27 w_63 w_873) a_Main_refusalOfTold ⟨rfl, rfl, Nat.le_of_ble_eq_true rfl, Nat.le_of_ble_eq_true rfl⟩ rfl rfl (Nat.le_of_ble_eq_true rfl) d_Main_judge_2 (fun H locs hw => ?_)
  refine lv_istore (lv' := [(4, .int r_1), (0, .ref (ad 0)), (1, .int v1), (2, .int v2), (3, .int v3)]) hx hb d_Main_judge_5 hl (by decide) rfl (fun ls hl => ?_)
  refine lv_iload hx hb d_Main_judge_7 (lv_at hl 0 rfl) ?_
  refine lv_if_eq (tgt := 15) hx hb d_Main_judge_9 (by decide) (fun c_2 => ?_) (fun c_2 => ?_)
  · replace hF := ifT hF c_2
    refine lv_aload_n hx hb d_Main_judge_15 rfl (lv_at hl 1 rfl) ?_
    refine lv_iload_n hx hb d_Main_judge_16 rfl (lv_at hl 3 rfl) ?_
    refine lv_iload_n hx hb d_Main_judge_17 rfl (lv_at hl 4 rfl) ?_
    obtain ⟨r_3, h_r_3, hF⟩ := ob1E hF
    refine r_callVI (As := [.int v2, .int v3]) (rest := []) K hw hl.1 (c_Main_areTwo (l := l) (D := D) (cA := cA) (ad := ad) (s0 := s0)  h_r_3) sh_Main rfl (tb_gV w_724 w_726 w_17 w_63 w_727) a_Main_areTwo ⟨rfl, rfl, Nat.le_of_ble_eq_true rfl, Nat.le_of_ble_eq_true rfl⟩ rfl rfl (Nat.le_of_ble_eq_true rfl) d_Main_judge_18 (fun H locs hw => ?_)
    refine lv_if_ne (tgt := 27) hx hb d_Main_judge_21 (by decide) (fun c_4 => ?_) (fun c_4 => ?_)
    · replace hF := ifT hF c_4
      refine lv_aload_n hx hb d_Main_judge_27 rfl (lv_at hl 1 rfl) ?_
      refine lv_iload_n hx hb d_Main_judge_28 rfl (lv_at hl 3 rfl) ?_
      refine lv_iload_n hx hb d_Main_judge_29 rfl (lv_at hl 4 rfl) ?_
      obtain ⟨s_5, h_s_5, hF⟩ := ob1E hF
      refine r_callVV (As := [.int v2, .int v3]) (rest := []) K hw hl.1 (c_Main_opn (l := l) (D := D) (cA := cA) (ad := ad) (s0 := s0)  h_s_5) sh_Main rfl (tb_gV w_728 w_730 w_18 w_63 w_731) a_Main_opn ⟨rfl, rfl, Nat.le_of_ble_eq_true rfl, Nat.le_of_ble_eq_true rfl⟩ rfl rfl (Nat.le_of_ble_eq_true rfl) d_Main_judge_30 (fun H locs hw => ?_)
      refine lv_aload_n hx hb d_Main_judge_33 rfl (lv_at hl 1 rfl) ?_
      refine lv_aload_n hx hb d_Main_judge_34 rfl (lv_at hl 1 rfl) ?_
      refine r_get (v := .ref (ad 3)) K hw i_Main sh_Main rfl 9 (by decide) w_607 rfl rfl rfl d_Main_judge_35 ?_
      refine lv_iload_n hx hb d_Main_judge_38 rfl (lv_at hl 2 rfl) ?_
      obtain ⟨g_6, hF⟩ := ifG hF
      refine r_aald (k := v1.toNatClampNeg) K hw (show shC[3]? = some (.inr (.inr (3, 42, 4))) from rfl) (rfl : (TYS cA)[3]? = some (cA 3, _)) rfl (inB_vp g_6) d_Main_judge_39 ?_
      obtain ⟨r_7, s_8, h_s_8, hF⟩ := ob2E hF
      refine r_callVI (As := [.ref (ad (42 + v1.toNatClampNeg))]) (rest := []) K hw hl.1 (c_Main_firstOtherwise (l := l) (D := D) (cA := cA) (ad := ad) (s0 := s_5) (P_Sheet_of g_6) h_s_8) sh_Main rfl (tb_gV w_877 w_879 w_28 w_63 w_880) a_Main_firstOtherwise ⟨rfl, rfl, Nat.le_of_ble_eq_true rfl, Nat.le_of_ble_eq_true rfl⟩ rfl rfl (Nat.le_of_ble_eq_true rfl) d_Main_judge_40 (fun H locs hw => ?_)
      obtain ⟨hF, hG⟩ := sE2 hF
      subst hF
      subst hG
      exact r_iret K hw d_Main_judge_43
    · replace hF := ifN hF c_4
      refine lv_bipush (v := -5) hx hb d_Main_judge_24 (by decide) ?_
      obtain ⟨hF, hG⟩ := sE2 hF
      subst hF
      subst hG
      exact r_iret K hw d_Main_judge_26
  · replace hF := ifF hF c_2
    refine lv_iload hx hb d_Main_judge_12 (lv_at hl 0 rfl) ?_
    obtain ⟨hF, hG⟩ := sE2 hF
    subst hF
    subst hG
    exact r_iret K hw d_Main_judge_14
end S_Main_judge
abbrev F_Main_judge := F_Main_judge_0
theorem c_Main_judge {l : Launch} {D : va_G} {cA : Nat → ClassId} {ad : Nat → Nat} {s0 τ : St} {r : Int32} {v1 : Int32} {v2 : Int32} {v3 : Int32}  (hF : F_Main_judge s0 v1 v2 v3 = (some (r, τ))) : MI l D cA ad shC y_Main_judge (wT y_Main_judge b_Main_judge 5 (some .int)) rm_Main_judge [.ref (ad 0), .int v1, .int v2, .int v3] s0 r τ := fun sz => m_start (Qc := fun A => QcI D cA ad shC A r τ) (by decide +kernel) w_869 (Nat.le_of_ble_eq_true rfl) (fun p e s m below meth c ls K hl hw => q_Main_judge_0 K _ _ _ _ _ _ _  hw hl hF)

/-! Main.left(III)I -/
abbrev b_Main_left : ByteArray := prog_1_method_22_code
def y_Main_left : MethodName := ⟨R_Main, "left", "(III)I"⟩
theorem a_Main_left : y_Main_left.cls = R_Main ∧ y_Main_left.cls ≠ "java/lang/invoke/MethodHandle" ∧ y_Main_left.cls ≠ "java/lang/invoke/VarHandle" ∧ (parseMethodDescriptor y_Main_left.desc).map (fun d => d.parameters.length) = some 3 := by decide +kernel
abbrev rm_Main_left : Room := { frames := 6, cells := 0, slots := 0, locals := 138 }
theorem w_893 : Cond.code y_Main_left b_Main_left 7 (some .int) ∈ TB := tb_in 893 (by decide +kernel) (by decide +kernel)
theorem d_Main_left_0 : decode b_Main_left 0 = .ok (.aload_n 0, 1) := by decide +kernel
theorem d_Main_left_1 : decode b_Main_left 1 = .ok (.iload_n 1, 1) := by decide +kernel
theorem d_Main_left_2 : decode b_Main_left 2 = .ok (.invokevirtual 245, 3) := by decide +kernel
theorem d_Main_left_5 : decode b_Main_left 5 = .ok (.istore 4, 2) := by decide +kernel
theorem d_Main_left_7 : decode b_Main_left 7 = .ok (.iload 4, 2) := by decide +kernel
theorem d_Main_left_9 : decode b_Main_left 9 = .ok (.ifCond .eq 6, 3) := by decide +kernel
theorem d_Main_left_12 : decode b_Main_left 12 = .ok (.iload 4, 2) := by decide +kernel
theorem d_Main_left_14 : decode b_Main_left 14 = .ok (.ireturn, 1) := by decide +kernel
theorem d_Main_left_15 : decode b_Main_left 15 = .ok (.aload_n 0, 1) := by decide +kernel
theorem d_Main_left_16 : decode b_Main_left 16 = .ok (.iload_n 2, 1) := by decide +kernel
theorem d_Main_left_17 : decode b_Main_left 17 = .ok (.iload_n 3, 1) := by decide +kernel
theorem d_Main_left_18 : decode b_Main_left 18 = .ok (.invokevirtual 194, 3) := by decide +kernel
theorem d_Main_left_21 : decode b_Main_left 21 = .ok (.ifCond .ne 6, 3) := by decide +kernel
theorem d_Main_left_24 : decode b_Main_left 24 = .ok (.bipush (-5), 2) := by decide +kernel
theorem d_Main_left_26 : decode b_Main_left 26 = .ok (.ireturn, 1) := by decide +kernel
theorem d_Main_left_27 : decode b_Main_left 27 = .ok (.iconst 0, 1) := by decide +kernel
theorem d_Main_left_28 : decode b_Main_left 28 = .ok (.istore 5, 2) := by decide +kernel
theorem d_Main_left_30 : decode b_Main_left 30 = .ok (.iconst 0, 1) := by decide +kernel
theorem d_Main_left_31 : decode b_Main_left 31 = .ok (.istore 6, 2) := by decide +kernel
theorem d_Main_left_33 : decode b_Main_left 33 = .ok (.iload 6, 2) := by decide +kernel
theorem d_Main_left_35 : decode b_Main_left 35 = .ok (.bipush 24, 2) := by decide +kernel
theorem d_Main_left_37 : decode b_Main_left 37 = .ok (.if_icmp .gt 50, 3) := by decide +kernel
theorem d_Main_left_40 : decode b_Main_left 40 = .ok (.aload_n 0, 1) := by decide +kernel
theorem d_Main_left_41 : decode b_Main_left 41 = .ok (.iload_n 2, 1) := by decide +kernel
theorem d_Main_left_42 : decode b_Main_left 42 = .ok (.iload_n 3, 1) := by decide +kernel
theorem d_Main_left_43 : decode b_Main_left 43 = .ok (.invokevirtual 174, 3) := by decide +kernel
theorem d_Main_left_46 : decode b_Main_left 46 = .ok (.aload_n 0, 1) := by decide +kernel
theorem d_Main_left_47 : decode b_Main_left 47 = .ok (.getfield 86, 3) := by decide +kernel
theorem d_Main_left_50 : decode b_Main_left 50 = .ok (.getfield 188, 3) := by decide +kernel
theorem d_Main_left_53 : decode b_Main_left 53 = .ok (.iload 6, 2) := by decide +kernel
theorem d_Main_left_55 : decode b_Main_left 55 = .ok (.putfield 133, 3) := by decide +kernel
theorem d_Main_left_58 : decode b_Main_left 58 = .ok (.aload_n 0, 1) := by decide +kernel
theorem d_Main_left_59 : decode b_Main_left 59 = .ok (.aload_n 0, 1) := by decide +kernel
theorem d_Main_left_60 : decode b_Main_left 60 = .ok (.getfield 30, 3) := by decide +kernel
theorem d_Main_left_63 : decode b_Main_left 63 = .ok (.iload_n 1, 1) := by decide +kernel
theorem d_Main_left_64 : decode b_Main_left 64 = .ok (.aaload, 1) := by decide +kernel
theorem d_Main_left_65 : decode b_Main_left 65 = .ok (.invokevirtual 248, 3) := by decide +kernel
theorem d_Main_left_68 : decode b_Main_left 68 = .ok (.iconst (-1), 1) := by decide +kernel
theorem d_Main_left_69 : decode b_Main_left 69 = .ok (.if_icmp .ne 12, 3) := by decide +kernel
theorem d_Main_left_72 : decode b_Main_left 72 = .ok (.iload 5, 2) := by decide +kernel
theorem d_Main_left_74 : decode b_Main_left 74 = .ok (.iconst 1, 1) := by decide +kernel
theorem d_Main_left_75 : decode b_Main_left 75 = .ok (.iload 6, 2) := by decide +kernel
theorem d_Main_left_77 : decode b_Main_left 77 = .ok (.ishl, 1) := by decide +kernel
theorem d_Main_left_78 : decode b_Main_left 78 = .ok (.ior, 1) := by decide +kernel
theorem d_Main_left_79 : decode b_Main_left 79 = .ok (.istore 5, 2) := by decide +kernel
theorem d_Main_left_81 : decode b_Main_left 81 = .ok (.iinc 6 1, 3) := by decide +kernel
theorem d_Main_left_84 : decode b_Main_left 84 = .ok (.goto (-51), 3) := by decide +kernel
theorem d_Main_left_87 : decode b_Main_left 87 = .ok (.iload 5, 2) := by decide +kernel
theorem d_Main_left_89 : decode b_Main_left 89 = .ok (.ireturn, 1) := by decide +kernel
section S_Main_left
variable {p : Program} {l : Launch} {e : Env} {s : State} {m : MethodId} {args : Array Value} {below : List Frame} {meth : Method} {c : Code} {D : va_G} {cA : Nat → ClassId} {ad : Nat → Nat} {A : Nat → Prop} {r : Int32} {τ : St}
def F_Main_left_81 (k19 : (St → Int32 → Int32 → Int32 → Int32 → Int32 → Option (Int32 × St))) (s0 : St) (v1 : Int32) (v2 : Int32) (v3 : Int32) (v5 : Int32) (v6 : Int32) : Option (Int32 × St) := (k19 s0 v1 v2 v3 v5 (v6 + 1))
set_option maxHeartbeats 4000000 in
set_option maxRecDepth 100000 in
theorem q_Main_left_81 (K : Fx p s m args meth c b_Main_left 7 R_Main (some .int)) (k19 : (St → Int32 → Int32 → Int32 → Int32 → Int32 → Option (Int32 × St))) (hk19 : ∀ (H : Heap) (locs : List Loc) (ls : Array Slot) (s0 : St) (v1 : Int32) (v2 : Int32) (v3 : Int32) (v5 : Int32) (v6 : Int32), Wh D cA ad shC A s s0 H locs → lv_has ls 7 [(0, .ref (ad 0)), (1, .int v1), (2, .int v2), (3, .int v3), (5, .int v5), (6, .int v6)] → k19 s0 v1 v2 v3 v5 v6 = (some (r, τ)) → W p l e rm_Main_left s m args below meth c H locs 0 0 (MQ below (QcI D cA ad shC A r τ) args s 0 0 A) (F0 m 33 ls [])) : ∀ (H : Heap) (locs : List Loc) (ls : Array Slot) (s0 : St) (v1 : Int32) (v2 : Int32) (v3 : Int32) (v5 : Int32) (v6 : Int32), Wh D cA ad shC A s s0 H locs → lv_has ls 7 [(0, .ref (ad 0)), (1, .int v1), (2, .int v2), (3, .int v3), (5, .int v5), (6, .int v6)] → F_Main_left_81 k19 s0 v1 v2 v3 v5 v6 = (some (r, τ)) → W p l e rm_Main_left s m args below meth c H locs 0 0 (MQ below (QcI D cA ad shC A r τ) args s 0 0 A) (F0 m 81 ls []) := by
  have hx := K.1.1; have hb := K.1.2.1
  intro H locs ls s0 v1 v2 v3 v5 v6 hw hl hF
  unfold F_Main_left_81 at hF
  refine lv_iinc (v := (v6 + 1)) (lv' := [(6, .int (v6 + 1)), (0, .ref (ad 0)), (1, .int v1), (2, .int v2), (3, .int v3), (5, .int v5)]) hx hb d_Main_left_81 hl (k := 5) rfl rfl (by decide) rfl (fun ls hl => ?_)
  refine lv_goto (tgt := 33) hx hb d_Main_left_84 (by decide) ?_
  exact hk19 _ _ _ _ _ _ _ _ _  hw (lv_sub hl [1, 2, 3, 4, 5, 0] rfl) hF
def F_Main_left_33 : Nat → St → Int32 → Int32 → Int32 → Int32 → Int32 → Option (Int32 × St)
  | 0, _, _, _, _, _, _ => none
  | n + 1, s0, v1, v2, v3, v5, v6 => (if (24 : Int32) < v6 then (some (v5, s0)) else (ob1 (F_Main_opn s0 v2 v3) (fun s_6 => (lt (up1 s_6 14 1 v6) (fun s_7 => (if inB v1 4 = true then (ob2 (F_Main_firstOtherwise s_7 (42 + v1.toNatClampNeg)) (fun r_9 s_10 => (if ¬ r_9 = (-1 : Int32) then (F_Main_left_81 (fun z0 zv1 zv2 zv3 zv5 zv6 => F_Main_left_33 n z0 zv1 zv2 zv3 zv5 zv6) s_10 v1 v2 v3 v5 v6) else (F_Main_left_81 (fun z0 zv1 zv2 zv3 zv5 zv6 => F_Main_left_33 n z0 zv1 zv2 zv3 zv5 zv6) s_10 v1 v2 v3 (v5 ||| (jshl (1 : Int32) v6)) v6)))) else none))))))
set_option maxHeartbeats 4000000 in
set_option maxRecDepth 100000 in
theorem q_Main_left_33 (K : Fx p s m args meth c b_Main_left 7 R_Main (some .int))  : ∀ (n : Nat), ∀ (H : Heap) (locs : List Loc) (ls : Array Slot) (s0 : St) (v1 : Int32) (v2 : Int32) (v3 : Int32) (v5 : Int32) (v6 : Int32), Wh D cA ad shC A s s0 H locs → lv_has ls 7 [(0, .ref (ad 0)), (1, .int v1), (2, .int v2), (3, .int v3), (5, .int v5), (6, .int v6)] → F_Main_left_33 n s0 v1 v2 v3 v5 v6 = (some (r, τ)) → W p l e rm_Main_left s m args below meth c H locs 0 0 (MQ below (QcI D cA ad shC A r τ) args s 0 0 A) (F0 m 33 ls []) := by
  have hx := K.1.1; have hb := K.1.2.1
  intro n
  induction n with
  | zero =>
    intro H locs ls s0 v1 v2 v3 v5 v6 hw hl hF
    exact absurd hF (by rw [F_Main_left_33]; exact nofun)
  | succ n ih =>
    intro H locs ls s0 v1 v2 v3 v5 v6 hw hl hF
    rw [F_Main_left_33] at hF
    refine lv_iload hx hb d_Main_left_33 (lv_at hl 5 rfl) ?_
    refine lv_bipush (v := 24) hx hb d_Main_left_35 (by decide) ?_
    refine lv_icmp_gt (tgt := 87) hx hb d_Main_left_37 (by decide) (fun c_5 => ?_) (fun c_5 => ?_)
    · replace hF := ifT hF c_5
      refine lv_iload hx hb d_Main_left_87 (lv_at hl 4 rfl) ?_
      obtain ⟨hF, hG⟩ := sE2 hF
      subst hF
      subst hG
      exact r_iret K hw d_Main_left_89
    · replace hF := ifF hF c_5
      refine lv_aload_n hx hb d_Main_left_40 rfl (lv_at hl 0 rfl) ?_
      refine lv_iload_n hx hb d_Main_left_41 rfl (lv_at hl 2 rfl) ?_
      refine lv_iload_n hx hb d_Main_left_42 rfl (lv_at hl 3 rfl) ?_
      obtain ⟨s_6, h_s_6, hF⟩ := ob1E hF
      refine r_callVV (As := [.int v2, .int v3]) (rest := []) K hw hl.1 (c_Main_opn (l := l) (D := D) (cA := cA) (ad := ad) (s0 := s0)  h_s_6) sh_Main rfl (tb_gV w_728 w_730 w_18 w_63 w_731) a_Main_opn ⟨rfl, rfl, Nat.le_of_ble_eq_true rfl, Nat.le_of_ble_eq_true rfl⟩ rfl rfl (Nat.le_of_ble_eq_true rfl) d_Main_left_43 (fun H locs hw => ?_)
      refine lv_aload_n hx hb d_Main_left_46 rfl (lv_at hl 0 rfl) ?_
      refine r_get (v := .ref (ad 11)) K hw i_Main sh_Main rfl 7 (by decide) w_605 rfl rfl rfl d_Main_left_47 ?_
      refine r_get (v := .ref (ad 14)) K hw i_Bout sh_Bout rfl 1 (by decide) w_535 rfl rfl rfl d_Main_left_50 ?_
      refine lv_iload hx hb d_Main_left_53 (lv_at hl 5 rfl) ?_
      refine r_putI K hw i_Side t_Side t_Side_ok n_Side (sh_Side (by decide)) rfl 1 (by decide) w_513 rfl rfl rfl rfl rfl d_Main_left_55 (fun s_7 f_s_7 H locs hw => ?_)
      replace hF := ltN hF f_s_7
      refine lv_aload_n hx hb d_Main_left_58 rfl (lv_at hl 0 rfl) ?_
      refine lv_aload_n hx hb d_Main_left_59 rfl (lv_at hl 0 rfl) ?_
      refine r_get (v := .ref (ad 3)) K hw i_Main sh_Main rfl 9 (by decide) w_607 rfl rfl rfl d_Main_left_60 ?_
      refine lv_iload_n hx hb d_Main_left_63 rfl (lv_at hl 1 rfl) ?_
      obtain ⟨g_8, hF⟩ := ifG hF
      refine r_aald (k := v1.toNatClampNeg) K hw (show shC[3]? = some (.inr (.inr (3, 42, 4))) from rfl) (rfl : (TYS cA)[3]? = some (cA 3, _)) rfl (inB_vp g_8) d_Main_left_64 ?_
      obtain ⟨r_9, s_10, h_s_10, hF⟩ := ob2E hF
      refine r_callVI (As := [.ref (ad (42 + v1.toNatClampNeg))]) (rest := []) K hw hl.1 (c_Main_firstOtherwise (l := l) (D := D) (cA := cA) (ad := ad) (s0 := s_7) (P_Sheet_of g_8) h_s_10) sh_Main rfl (tb_gV w_877 w_879 w_28 w_63 w_880) a_Main_firstOtherwise ⟨rfl, rfl, Nat.le_of_ble_eq_true rfl, Nat.le_of_ble_eq_true rfl⟩ rfl rfl (Nat.le_of_ble_eq_true rfl) d_Main_left_65 (fun H locs hw => ?_)
      refine lv_iconst (v := -1) hx hb d_Main_left_68 (by decide) ?_
      refine lv_icmp_ne (tgt := 81) hx hb d_Main_left_69 (by decide) (fun c_11 => ?_) (fun c_11 => ?_)
      · replace hF := ifT hF c_11
        exact q_Main_left_81 K (fun z0 zv1 zv2 zv3 zv5 zv6 => F_Main_left_33 n z0 zv1 zv2 zv3 zv5 zv6) ih _ _ _ _ _ _ _ _ _  hw (lv_sub hl [0, 1, 2, 3, 4, 5] rfl) hF
      · replace hF := ifN hF c_11
        refine lv_iload hx hb d_Main_left_72 (lv_at hl 4 rfl) ?_
        refine lv_iconst (v := 1) hx hb d_Main_left_74 (by decide) ?_
        refine lv_iload hx hb d_Main_left_75 (lv_at hl 5 rfl) ?_
        refine lv_ishl hx hb d_Main_left_77 ?_
        refine lv_ior hx hb d_Main_left_78 ?_
        refine lv_istore (lv' := [(5, .int (v5 ||| (jshl (1 : Int32) v6))), (0, .ref (ad 0)), (1, .int v1), (2, .int v2), (3, .int v3), (6, .int v6)]) hx hb d_Main_left_79 hl (by decide) rfl (fun ls hl => ?_)
        exact q_Main_left_81 K (fun z0 zv1 zv2 zv3 zv5 zv6 => F_Main_left_33 n z0 zv1 zv2 zv3 zv5 zv6) ih _ _ _ _ _ _ _ _ _  hw (lv_sub hl [1, 2, 3, 4, 0, 5] rfl) hF
def F_Main_left_0 (s0 : St) (v1 : Int32) (v2 : Int32) (v3 : Int32) : Option (Int32 × St) := (ob1 (F_Main_refusalOfTold s0 v1) (fun r_1 => (if r_1 = 0 then (ob1 (F_Main_areTwo s0 v2 v3) (fun r_3 => (if ¬ r_3 = 0 then (F_Main_left_33 FU s0 v1 v2 v3 (0 : Int32) (0 : Int32)) else (some ((-5 : Int32), s0))))) else (some (r_1, s0)))))
set_option maxHeartbeats 4000000 in
set_option maxRecDepth 100000 in
theorem q_Main_left_0 (K : Fx p s m args meth c b_Main_left 7 R_Main (some .int))  : ∀ (H : Heap) (locs : List Loc) (ls : Array Slot) (s0 : St) (v1 : Int32) (v2 : Int32) (v3 : Int32), Wh D cA ad shC A s s0 H locs → lv_has ls 7 [(0, .ref (ad 0)), (1, .int v1), (2, .int v2), (3, .int v3)] → F_Main_left_0 s0 v1 v2 v3 = (some (r, τ)) → W p l e rm_Main_left s m args below meth c H locs 0 0 (MQ below (QcI D cA ad shC A r τ) args s 0 0 A) (F0 m 0 ls []) := by
  have hx := K.1.1; have hb := K.1.2.1
  intro H locs ls s0 v1 v2 v3 hw hl hF
  unfold F_Main_left_0 at hF
  refine lv_aload_n hx hb d_Main_left_0 rfl (lv_at hl 0 rfl) ?_
  refine lv_iload_n hx hb d_Main_left_1 rfl (lv_at hl 1 rfl) ?_
  obtain ⟨r_1, h_r_1, hF⟩ := ob1E hF
  refine r_callVI (As := [.int v1]) (rest := []) K hw hl.1 (c_Main_refusalOfTold (l := l) (D := D) (cA := cA) (ad := ad) (s0 := s0)  h_r_1) sh_Main rfl (tb_gV w_870 w_872 w_27 w_63 w_873) a_Main_refusalOfTold ⟨rfl, rfl, Nat.le_of_ble_eq_true rfl, Nat.le_of_ble_eq_true rfl⟩ rfl rfl (Nat.le_of_ble_eq_true rfl) d_Main_left_2 (fun H locs hw => ?_)
  refine lv_istore (lv' := [(4, .int r_1), (0, .ref (ad 0)), (1, .int v1), (2, .int v2), (3, .int v3)]) hx hb d_Main_left_5 hl (by decide) rfl (fun ls hl => ?_)
  refine lv_iload hx hb d_Main_left_7 (lv_at hl 0 rfl) ?_
  refine lv_if_eq (tgt := 15) hx hb d_Main_left_9 (by decide) (fun c_2 => ?_) (fun c_2 => ?_)
  · replace hF := ifT hF c_2
    refine lv_aload_n hx hb d_Main_left_15 rfl (lv_at hl 1 rfl) ?_
    refine lv_iload_n hx hb d_Main_left_16 rfl (lv_at hl 3 rfl) ?_
    refine lv_iload_n hx hb d_Main_left_17 rfl (lv_at hl 4 rfl) ?_
    obtain ⟨r_3, h_r_3, hF⟩ := ob1E hF
    refine r_callVI (As := [.int v2, .int v3]) (rest := []) K hw hl.1 (c_Main_areTwo (l := l) (D := D) (cA := cA) (ad := ad) (s0 := s0)  h_r_3) sh_Main rfl (tb_gV w_724 w_726 w_17 w_63 w_727) a_Main_areTwo ⟨rfl, rfl, Nat.le_of_ble_eq_true rfl, Nat.le_of_ble_eq_true rfl⟩ rfl rfl (Nat.le_of_ble_eq_true rfl) d_Main_left_18 (fun H locs hw => ?_)
    refine lv_if_ne (tgt := 27) hx hb d_Main_left_21 (by decide) (fun c_4 => ?_) (fun c_4 => ?_)
    · replace hF := ifT hF c_4
      refine lv_iconst (v := 0) hx hb d_Main_left_27 (by decide) ?_
      refine lv_istore (lv' := [(5, .int (0 : Int32)), (4, .int r_1), (0, .ref (ad 0)), (1, .int v1), (2, .int v2), (3, .int v3)]) hx hb d_Main_left_28 hl (by decide) rfl (fun ls hl => ?_)
      refine lv_iconst (v := 0) hx hb d_Main_left_30 (by decide) ?_
      refine lv_istore (lv' := [(6, .int (0 : Int32)), (5, .int (0 : Int32)), (4, .int r_1), (0, .ref (ad 0)), (1, .int v1), (2, .int v2), (3, .int v3)]) hx hb d_Main_left_31 hl (by decide) rfl (fun ls hl => ?_)
      exact q_Main_left_33 K FU _ _ _ _ _ _ _ _ _  hw (lv_sub hl [3, 4, 5, 6, 1, 0] rfl) hF
    · replace hF := ifN hF c_4
      refine lv_bipush (v := -5) hx hb d_Main_left_24 (by decide) ?_
      obtain ⟨hF, hG⟩ := sE2 hF
      subst hF
      subst hG
      exact r_iret K hw d_Main_left_26
  · replace hF := ifF hF c_2
    refine lv_iload hx hb d_Main_left_12 (lv_at hl 0 rfl) ?_
    obtain ⟨hF, hG⟩ := sE2 hF
    subst hF
    subst hG
    exact r_iret K hw d_Main_left_14
end S_Main_left
abbrev F_Main_left := F_Main_left_0
theorem c_Main_left {l : Launch} {D : va_G} {cA : Nat → ClassId} {ad : Nat → Nat} {s0 τ : St} {r : Int32} {v1 : Int32} {v2 : Int32} {v3 : Int32}  (hF : F_Main_left s0 v1 v2 v3 = (some (r, τ))) : MI l D cA ad shC y_Main_left (wT y_Main_left b_Main_left 7 (some .int)) rm_Main_left [.ref (ad 0), .int v1, .int v2, .int v3] s0 r τ := fun sz => m_start (Qc := fun A => QcI D cA ad shC A r τ) (by decide +kernel) w_893 (Nat.le_of_ble_eq_true rfl) (fun p e s m below meth c ls K hl hw => q_Main_left_0 K _ _ _ _ _ _ _  hw hl hF)

/-! Main.whom(II)I -/
abbrev b_Main_whom : ByteArray := prog_1_method_23_code
def y_Main_whom : MethodName := ⟨R_Main, "whom", "(II)I"⟩
theorem a_Main_whom : y_Main_whom.cls = R_Main ∧ y_Main_whom.cls ≠ "java/lang/invoke/MethodHandle" ∧ y_Main_whom.cls ≠ "java/lang/invoke/VarHandle" ∧ (parseMethodDescriptor y_Main_whom.desc).map (fun d => d.parameters.length) = some 2 := by decide +kernel
abbrev rm_Main_whom : Room := { frames := 6, cells := 0, slots := 0, locals := 138 }
theorem w_897 : Cond.code y_Main_whom b_Main_whom 6 (some .int) ∈ TB := tb_in 897 (by decide +kernel) (by decide +kernel)
theorem d_Main_whom_0 : decode b_Main_whom 0 = .ok (.aload_n 0, 1) := by decide +kernel
theorem d_Main_whom_1 : decode b_Main_whom 1 = .ok (.iload_n 1, 1) := by decide +kernel
theorem d_Main_whom_2 : decode b_Main_whom 2 = .ok (.invokevirtual 245, 3) := by decide +kernel
theorem d_Main_whom_5 : decode b_Main_whom 5 = .ok (.istore_n 3, 1) := by decide +kernel
theorem d_Main_whom_6 : decode b_Main_whom 6 = .ok (.iload_n 3, 1) := by decide +kernel
theorem d_Main_whom_7 : decode b_Main_whom 7 = .ok (.ifCond .eq 5, 3) := by decide +kernel
theorem d_Main_whom_10 : decode b_Main_whom 10 = .ok (.iload_n 3, 1) := by decide +kernel
theorem d_Main_whom_11 : decode b_Main_whom 11 = .ok (.ireturn, 1) := by decide +kernel
theorem d_Main_whom_12 : decode b_Main_whom 12 = .ok (.aload_n 0, 1) := by decide +kernel
theorem d_Main_whom_13 : decode b_Main_whom 13 = .ok (.iload_n 2, 1) := by decide +kernel
theorem d_Main_whom_14 : decode b_Main_whom 14 = .ok (.invokevirtual 120, 3) := by decide +kernel
theorem d_Main_whom_17 : decode b_Main_whom 17 = .ok (.ifCond .ne 6, 3) := by decide +kernel
theorem d_Main_whom_20 : decode b_Main_whom 20 = .ok (.bipush (-5), 2) := by decide +kernel
theorem d_Main_whom_22 : decode b_Main_whom 22 = .ok (.ireturn, 1) := by decide +kernel
theorem d_Main_whom_23 : decode b_Main_whom 23 = .ok (.iconst 0, 1) := by decide +kernel
theorem d_Main_whom_24 : decode b_Main_whom 24 = .ok (.istore 4, 2) := by decide +kernel
theorem d_Main_whom_26 : decode b_Main_whom 26 = .ok (.iconst 0, 1) := by decide +kernel
theorem d_Main_whom_27 : decode b_Main_whom 27 = .ok (.istore 5, 2) := by decide +kernel
theorem d_Main_whom_29 : decode b_Main_whom 29 = .ok (.iload 5, 2) := by decide +kernel
theorem d_Main_whom_31 : decode b_Main_whom 31 = .ok (.aload_n 0, 1) := by decide +kernel
theorem d_Main_whom_32 : decode b_Main_whom 32 = .ok (.getfield 99, 3) := by decide +kernel
theorem d_Main_whom_35 : decode b_Main_whom 35 = .ok (.if_icmp .ge 48, 3) := by decide +kernel
theorem d_Main_whom_38 : decode b_Main_whom 38 = .ok (.iload 5, 2) := by decide +kernel
theorem d_Main_whom_40 : decode b_Main_whom 40 = .ok (.iload_n 2, 1) := by decide +kernel
theorem d_Main_whom_41 : decode b_Main_whom 41 = .ok (.if_icmp .ne 6, 3) := by decide +kernel
theorem d_Main_whom_44 : decode b_Main_whom 44 = .ok (.goto 33, 3) := by decide +kernel
theorem d_Main_whom_47 : decode b_Main_whom 47 = .ok (.aload_n 0, 1) := by decide +kernel
theorem d_Main_whom_48 : decode b_Main_whom 48 = .ok (.iload_n 2, 1) := by decide +kernel
theorem d_Main_whom_49 : decode b_Main_whom 49 = .ok (.iload 5, 2) := by decide +kernel
theorem d_Main_whom_51 : decode b_Main_whom 51 = .ok (.invokevirtual 174, 3) := by decide +kernel
theorem d_Main_whom_54 : decode b_Main_whom 54 = .ok (.aload_n 0, 1) := by decide +kernel
theorem d_Main_whom_55 : decode b_Main_whom 55 = .ok (.aload_n 0, 1) := by decide +kernel
theorem d_Main_whom_56 : decode b_Main_whom 56 = .ok (.getfield 30, 3) := by decide +kernel
theorem d_Main_whom_59 : decode b_Main_whom 59 = .ok (.iload_n 1, 1) := by decide +kernel
theorem d_Main_whom_60 : decode b_Main_whom 60 = .ok (.aaload, 1) := by decide +kernel
theorem d_Main_whom_61 : decode b_Main_whom 61 = .ok (.invokevirtual 248, 3) := by decide +kernel
theorem d_Main_whom_64 : decode b_Main_whom 64 = .ok (.iconst (-1), 1) := by decide +kernel
theorem d_Main_whom_65 : decode b_Main_whom 65 = .ok (.if_icmp .ne 12, 3) := by decide +kernel
theorem d_Main_whom_68 : decode b_Main_whom 68 = .ok (.iload 4, 2) := by decide +kernel
theorem d_Main_whom_70 : decode b_Main_whom 70 = .ok (.iconst 1, 1) := by decide +kernel
theorem d_Main_whom_71 : decode b_Main_whom 71 = .ok (.iload 5, 2) := by decide +kernel
theorem d_Main_whom_73 : decode b_Main_whom 73 = .ok (.ishl, 1) := by decide +kernel
theorem d_Main_whom_74 : decode b_Main_whom 74 = .ok (.ior, 1) := by decide +kernel
theorem d_Main_whom_75 : decode b_Main_whom 75 = .ok (.istore 4, 2) := by decide +kernel
theorem d_Main_whom_77 : decode b_Main_whom 77 = .ok (.iinc 5 1, 3) := by decide +kernel
theorem d_Main_whom_80 : decode b_Main_whom 80 = .ok (.goto (-51), 3) := by decide +kernel
theorem d_Main_whom_83 : decode b_Main_whom 83 = .ok (.iload 4, 2) := by decide +kernel
theorem d_Main_whom_85 : decode b_Main_whom 85 = .ok (.ireturn, 1) := by decide +kernel
section S_Main_whom
variable {p : Program} {l : Launch} {e : Env} {s : State} {m : MethodId} {args : Array Value} {below : List Frame} {meth : Method} {c : Code} {D : va_G} {cA : Nat → ClassId} {ad : Nat → Nat} {A : Nat → Prop} {r : Int32} {τ : St}
def F_Main_whom_77 (k18 : (St → Int32 → Int32 → Int32 → Int32 → Option (Int32 × St))) (s0 : St) (v1 : Int32) (v2 : Int32) (v4 : Int32) (v5 : Int32) : Option (Int32 × St) := (k18 s0 v1 v2 v4 (v5 + 1))
set_option maxHeartbeats 4000000 in
set_option maxRecDepth 100000 in
theorem q_Main_whom_77 (K : Fx p s m args meth c b_Main_whom 6 R_Main (some .int)) (k18 : (St → Int32 → Int32 → Int32 → Int32 → Option (Int32 × St))) (hk18 : ∀ (H : Heap) (locs : List Loc) (ls : Array Slot) (s0 : St) (v1 : Int32) (v2 : Int32) (v4 : Int32) (v5 : Int32), Wh D cA ad shC A s s0 H locs → lv_has ls 6 [(0, .ref (ad 0)), (1, .int v1), (2, .int v2), (4, .int v4), (5, .int v5)] → k18 s0 v1 v2 v4 v5 = (some (r, τ)) → W p l e rm_Main_whom s m args below meth c H locs 0 0 (MQ below (QcI D cA ad shC A r τ) args s 0 0 A) (F0 m 29 ls [])) : ∀ (H : Heap) (locs : List Loc) (ls : Array Slot) (s0 : St) (v1 : Int32) (v2 : Int32) (v4 : Int32) (v5 : Int32), Wh D cA ad shC A s s0 H locs → lv_has ls 6 [(0, .ref (ad 0)), (1, .int v1), (2, .int v2), (4, .int v4), (5, .int v5)] → F_Main_whom_77 k18 s0 v1 v2 v4 v5 = (some (r, τ)) → W p l e rm_Main_whom s m args below meth c H locs 0 0 (MQ below (QcI D cA ad shC A r τ) args s 0 0 A) (F0 m 77 ls []) := by
  have hx := K.1.1; have hb := K.1.2.1
  intro H locs ls s0 v1 v2 v4 v5 hw hl hF
  unfold F_Main_whom_77 at hF
  refine lv_iinc (v := (v5 + 1)) (lv' := [(5, .int (v5 + 1)), (0, .ref (ad 0)), (1, .int v1), (2, .int v2), (4, .int v4)]) hx hb d_Main_whom_77 hl (k := 4) rfl rfl (by decide) rfl (fun ls hl => ?_)
  refine lv_goto (tgt := 29) hx hb d_Main_whom_80 (by decide) ?_
  exact hk18 _ _ _ _ _ _ _ _  hw (lv_sub hl [1, 2, 3, 4, 0] rfl) hF
def F_Main_whom_29 : Nat → St → Int32 → Int32 → Int32 → Int32 → Option (Int32 × St)
  | 0, _, _, _, _, _ => none
  | n + 1, s0, v1, v2, v4, v5 => (if (s0.1 0 1) ≤ v5 then (some (v4, s0)) else (if ¬ v5 = v2 then (ob1 (F_Main_opn s0 v2 v5) (fun s_7 => (if inB v1 4 = true then (ob2 (F_Main_firstOtherwise s_7 (42 + v1.toNatClampNeg)) (fun r_9 s_10 => (if ¬ r_9 = (-1 : Int32) then (F_Main_whom_77 (fun z0 zv1 zv2 zv4 zv5 => F_Main_whom_29 n z0 zv1 zv2 zv4 zv5) s_10 v1 v2 v4 v5) else (F_Main_whom_77 (fun z0 zv1 zv2 zv4 zv5 => F_Main_whom_29 n z0 zv1 zv2 zv4 zv5) s_10 v1 v2 (v4 ||| (jshl (1 : Int32) v5)) v5)))) else none))) else (F_Main_whom_77 (fun z0 zv1 zv2 zv4 zv5 => F_Main_whom_29 n z0 zv1 zv2 zv4 zv5) s0 v1 v2 v4 v5)))
set_option maxHeartbeats 4000000 in
set_option maxRecDepth 100000 in
theorem q_Main_whom_29 (K : Fx p s m args meth c b_Main_whom 6 R_Main (some .int))  : ∀ (n : Nat), ∀ (H : Heap) (locs : List Loc) (ls : Array Slot) (s0 : St) (v1 : Int32) (v2 : Int32) (v4 : Int32) (v5 : Int32), Wh D cA ad shC A s s0 H locs → lv_has ls 6 [(0, .ref (ad 0)), (1, .int v1), (2, .int v2), (4, .int v4), (5, .int v5)] → F_Main_whom_29 n s0 v1 v2 v4 v5 = (some (r, τ)) → W p l e rm_Main_whom s m args below meth c H locs 0 0 (MQ below (QcI D cA ad shC A r τ) args s 0 0 A) (F0 m 29 ls []) := by
  have hx := K.1.1; have hb := K.1.2.1
  intro n
  induction n with
  | zero =>
    intro H locs ls s0 v1 v2 v4 v5 hw hl hF
    exact absurd hF (by rw [F_Main_whom_29]; exact nofun)
  | succ n ih =>
    intro H locs ls s0 v1 v2 v4 v5 hw hl hF
    rw [F_Main_whom_29] at hF
    refine lv_iload hx hb d_Main_whom_29 (lv_at hl 4 rfl) ?_
    refine lv_aload_n hx hb d_Main_whom_31 rfl (lv_at hl 0 rfl) ?_
    refine r_get (v := .int (s0.1 0 1)) K hw i_Main sh_Main rfl 1 (by decide) w_599 rfl rfl rfl d_Main_whom_32 ?_
    refine lv_icmp_ge (tgt := 83) hx hb d_Main_whom_35 (by decide) (fun c_5 => ?_) (fun c_5 => ?_)
    · replace hF := ifT hF c_5
      refine lv_iload hx hb d_Main_whom_83 (lv_at hl 3 rfl) ?_
      obtain ⟨hF, hG⟩ := sE2 hF
      subst hF
      subst hG
      exact r_iret K hw d_Main_whom_85
    · replace hF := ifF hF c_5
      refine lv_iload hx hb d_Main_whom_38 (lv_at hl 4 rfl) ?_
      refine lv_iload_n hx hb d_Main_whom_40 rfl (lv_at hl 2 rfl) ?_
      refine lv_icmp_ne (tgt := 47) hx hb d_Main_whom_41 (by decide) (fun c_6 => ?_) (fun c_6 => ?_)
      · replace hF := ifT hF c_6
        refine lv_aload_n hx hb d_Main_whom_47 rfl (lv_at hl 0 rfl) ?_
        refine lv_iload_n hx hb d_Main_whom_48 rfl (lv_at hl 2 rfl) ?_
        refine lv_iload hx hb d_Main_whom_49 (lv_at hl 4 rfl) ?_
        obtain ⟨s_7, h_s_7, hF⟩ := ob1E hF
        refine r_callVV (As := [.int v2, .int v5]) (rest := []) K hw hl.1 (c_Main_opn (l := l) (D := D) (cA := cA) (ad := ad) (s0 := s0)  h_s_7) sh_Main rfl (tb_gV w_728 w_730 w_18 w_63 w_731) a_Main_opn ⟨rfl, rfl, Nat.le_of_ble_eq_true rfl, Nat.le_of_ble_eq_true rfl⟩ rfl rfl (Nat.le_of_ble_eq_true rfl) d_Main_whom_51 (fun H locs hw => ?_)
        refine lv_aload_n hx hb d_Main_whom_54 rfl (lv_at hl 0 rfl) ?_
        refine lv_aload_n hx hb d_Main_whom_55 rfl (lv_at hl 0 rfl) ?_
        refine r_get (v := .ref (ad 3)) K hw i_Main sh_Main rfl 9 (by decide) w_607 rfl rfl rfl d_Main_whom_56 ?_
        refine lv_iload_n hx hb d_Main_whom_59 rfl (lv_at hl 1 rfl) ?_
        obtain ⟨g_8, hF⟩ := ifG hF
        refine r_aald (k := v1.toNatClampNeg) K hw (show shC[3]? = some (.inr (.inr (3, 42, 4))) from rfl) (rfl : (TYS cA)[3]? = some (cA 3, _)) rfl (inB_vp g_8) d_Main_whom_60 ?_
        obtain ⟨r_9, s_10, h_s_10, hF⟩ := ob2E hF
        refine r_callVI (As := [.ref (ad (42 + v1.toNatClampNeg))]) (rest := []) K hw hl.1 (c_Main_firstOtherwise (l := l) (D := D) (cA := cA) (ad := ad) (s0 := s_7) (P_Sheet_of g_8) h_s_10) sh_Main rfl (tb_gV w_877 w_879 w_28 w_63 w_880) a_Main_firstOtherwise ⟨rfl, rfl, Nat.le_of_ble_eq_true rfl, Nat.le_of_ble_eq_true rfl⟩ rfl rfl (Nat.le_of_ble_eq_true rfl) d_Main_whom_61 (fun H locs hw => ?_)
        refine lv_iconst (v := -1) hx hb d_Main_whom_64 (by decide) ?_
        refine lv_icmp_ne (tgt := 77) hx hb d_Main_whom_65 (by decide) (fun c_11 => ?_) (fun c_11 => ?_)
        · replace hF := ifT hF c_11
          exact q_Main_whom_77 K (fun z0 zv1 zv2 zv4 zv5 => F_Main_whom_29 n z0 zv1 zv2 zv4 zv5) ih _ _ _ _ _ _ _ _  hw (lv_sub hl [0, 1, 2, 3, 4] rfl) hF
        · replace hF := ifN hF c_11
          refine lv_iload hx hb d_Main_whom_68 (lv_at hl 3 rfl) ?_
          refine lv_iconst (v := 1) hx hb d_Main_whom_70 (by decide) ?_
          refine lv_iload hx hb d_Main_whom_71 (lv_at hl 4 rfl) ?_
          refine lv_ishl hx hb d_Main_whom_73 ?_
          refine lv_ior hx hb d_Main_whom_74 ?_
          refine lv_istore (lv' := [(4, .int (v4 ||| (jshl (1 : Int32) v5))), (0, .ref (ad 0)), (1, .int v1), (2, .int v2), (5, .int v5)]) hx hb d_Main_whom_75 hl (by decide) rfl (fun ls hl => ?_)
          exact q_Main_whom_77 K (fun z0 zv1 zv2 zv4 zv5 => F_Main_whom_29 n z0 zv1 zv2 zv4 zv5) ih _ _ _ _ _ _ _ _  hw (lv_sub hl [1, 2, 3, 0, 4] rfl) hF
      · replace hF := ifN hF c_6
        refine lv_goto (tgt := 77) hx hb d_Main_whom_44 (by decide) ?_
        exact q_Main_whom_77 K (fun z0 zv1 zv2 zv4 zv5 => F_Main_whom_29 n z0 zv1 zv2 zv4 zv5) ih _ _ _ _ _ _ _ _  hw (lv_sub hl [0, 1, 2, 3, 4] rfl) hF
def F_Main_whom_0 (s0 : St) (v1 : Int32) (v2 : Int32) : Option (Int32 × St) := (ob1 (F_Main_refusalOfTold s0 v1) (fun r_1 => (if r_1 = 0 then (ob1 (F_Main_isArm s0 v2) (fun r_3 => (if ¬ r_3 = 0 then (F_Main_whom_29 FU s0 v1 v2 (0 : Int32) (0 : Int32)) else (some ((-5 : Int32), s0))))) else (some (r_1, s0)))))
set_option maxHeartbeats 4000000 in
set_option maxRecDepth 100000 in
theorem q_Main_whom_0 (K : Fx p s m args meth c b_Main_whom 6 R_Main (some .int))  : ∀ (H : Heap) (locs : List Loc) (ls : Array Slot) (s0 : St) (v1 : Int32) (v2 : Int32), Wh D cA ad shC A s s0 H locs → lv_has ls 6 [(0, .ref (ad 0)), (1, .int v1), (2, .int v2)] → F_Main_whom_0 s0 v1 v2 = (some (r, τ)) → W p l e rm_Main_whom s m args below meth c H locs 0 0 (MQ below (QcI D cA ad shC A r τ) args s 0 0 A) (F0 m 0 ls []) := by
  have hx := K.1.1; have hb := K.1.2.1
  intro H locs ls s0 v1 v2 hw hl hF
  unfold F_Main_whom_0 at hF
  refine lv_aload_n hx hb d_Main_whom_0 rfl (lv_at hl 0 rfl) ?_
  refine lv_iload_n hx hb d_Main_whom_1 rfl (lv_at hl 1 rfl) ?_
  obtain ⟨r_1, h_r_1, hF⟩ := ob1E hF
  refine r_callVI (As := [.int v1]) (rest := []) K hw hl.1 (c_Main_refusalOfTold (l := l) (D := D) (cA := cA) (ad := ad) (s0 := s0)  h_r_1) sh_Main rfl (tb_gV w_870 w_872 w_27 w_63 w_873) a_Main_refusalOfTold ⟨rfl, rfl, Nat.le_of_ble_eq_true rfl, Nat.le_of_ble_eq_true rfl⟩ rfl rfl (Nat.le_of_ble_eq_true rfl) d_Main_whom_2 (fun H locs hw => ?_)
  refine lv_istore_n (lv' := [(3, .int r_1), (0, .ref (ad 0)), (1, .int v1), (2, .int v2)]) hx hb d_Main_whom_5 rfl hl (by decide) rfl (fun ls hl => ?_)
  refine lv_iload_n hx hb d_Main_whom_6 rfl (lv_at hl 0 rfl) ?_
  refine lv_if_eq (tgt := 12) hx hb d_Main_whom_7 (by decide) (fun c_2 => ?_) (fun c_2 => ?_)
  · replace hF := ifT hF c_2
    refine lv_aload_n hx hb d_Main_whom_12 rfl (lv_at hl 1 rfl) ?_
    refine lv_iload_n hx hb d_Main_whom_13 rfl (lv_at hl 3 rfl) ?_
    obtain ⟨r_3, h_r_3, hF⟩ := ob1E hF
    refine r_callVI (As := [.int v2]) (rest := []) K hw hl.1 (c_Main_isArm (l := l) (D := D) (cA := cA) (ad := ad) (s0 := s0)  h_r_3) sh_Main rfl (tb_gV w_656 w_658 w_13 w_63 w_659) a_Main_isArm ⟨rfl, rfl, Nat.le_of_ble_eq_true rfl, Nat.le_of_ble_eq_true rfl⟩ rfl rfl (Nat.le_of_ble_eq_true rfl) d_Main_whom_14 (fun H locs hw => ?_)
    refine lv_if_ne (tgt := 23) hx hb d_Main_whom_17 (by decide) (fun c_4 => ?_) (fun c_4 => ?_)
    · replace hF := ifT hF c_4
      refine lv_iconst (v := 0) hx hb d_Main_whom_23 (by decide) ?_
      refine lv_istore (lv' := [(4, .int (0 : Int32)), (3, .int r_1), (0, .ref (ad 0)), (1, .int v1), (2, .int v2)]) hx hb d_Main_whom_24 hl (by decide) rfl (fun ls hl => ?_)
      refine lv_iconst (v := 0) hx hb d_Main_whom_26 (by decide) ?_
      refine lv_istore (lv' := [(5, .int (0 : Int32)), (4, .int (0 : Int32)), (3, .int r_1), (0, .ref (ad 0)), (1, .int v1), (2, .int v2)]) hx hb d_Main_whom_27 hl (by decide) rfl (fun ls hl => ?_)
      exact q_Main_whom_29 K FU _ _ _ _ _ _ _ _  hw (lv_sub hl [3, 4, 5, 1, 0] rfl) hF
    · replace hF := ifN hF c_4
      refine lv_bipush (v := -5) hx hb d_Main_whom_20 (by decide) ?_
      obtain ⟨hF, hG⟩ := sE2 hF
      subst hF
      subst hG
      exact r_iret K hw d_Main_whom_22
  · replace hF := ifF hF c_2
    refine lv_iload_n hx hb d_Main_whom_10 rfl (lv_at hl 0 rfl) ?_
    obtain ⟨hF, hG⟩ := sE2 hF
    subst hF
    subst hG
    exact r_iret K hw d_Main_whom_11
end S_Main_whom
abbrev F_Main_whom := F_Main_whom_0
theorem c_Main_whom {l : Launch} {D : va_G} {cA : Nat → ClassId} {ad : Nat → Nat} {s0 τ : St} {r : Int32} {v1 : Int32} {v2 : Int32}  (hF : F_Main_whom s0 v1 v2 = (some (r, τ))) : MI l D cA ad shC y_Main_whom (wT y_Main_whom b_Main_whom 6 (some .int)) rm_Main_whom [.ref (ad 0), .int v1, .int v2] s0 r τ := fun sz => m_start (Qc := fun A => QcI D cA ad shC A r τ) (by decide +kernel) w_897 (Nat.le_of_ble_eq_true rfl) (fun p e s m below meth c ls K hl hw => q_Main_whom_0 K _ _ _ _ _ _  hw hl hF)
