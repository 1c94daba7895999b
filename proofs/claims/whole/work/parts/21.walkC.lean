/-! Main.armsBy(IIII)I -/
abbrev b_Main_armsBy : ByteArray := prog_1_method_33_code
def y_Main_armsBy : MethodName := ⟨R_Main, "armsBy", "(IIII)I"⟩
theorem a_Main_armsBy : y_Main_armsBy.cls = R_Main ∧ y_Main_armsBy.cls ≠ "java/lang/invoke/MethodHandle" ∧ y_Main_armsBy.cls ≠ "java/lang/invoke/VarHandle" ∧ (parseMethodDescriptor y_Main_armsBy.desc).map (fun d => d.parameters.length) = some 4 := by decide +kernel
abbrev rm_Main_armsBy : Room := { frames := 4, cells := 0, slots := 0, locals := 91 }
theorem w_966 : Cond.code y_Main_armsBy b_Main_armsBy 9 (some .int) ∈ TB := tb_in 966 (by decide +kernel) (by decide +kernel)
theorem d_Main_armsBy_0 : decode b_Main_armsBy 0 = .ok (.iload_n 1, 1) := by decide +kernel
theorem d_Main_armsBy_1 : decode b_Main_armsBy 1 = .ok (.invokestatic 255, 3) := by decide +kernel
theorem d_Main_armsBy_4 : decode b_Main_armsBy 4 = .ok (.ifCond .eq 23, 3) := by decide +kernel
theorem d_Main_armsBy_7 : decode b_Main_armsBy 7 = .ok (.iload_n 2, 1) := by decide +kernel
theorem d_Main_armsBy_8 : decode b_Main_armsBy 8 = .ok (.iconst 0, 1) := by decide +kernel
theorem d_Main_armsBy_9 : decode b_Main_armsBy 9 = .ok (.iconst 2, 1) := by decide +kernel
theorem d_Main_armsBy_10 : decode b_Main_armsBy 10 = .ok (.invokestatic 108, 3) := by decide +kernel
theorem d_Main_armsBy_13 : decode b_Main_armsBy 13 = .ok (.ifCond .eq 14, 3) := by decide +kernel
theorem d_Main_armsBy_16 : decode b_Main_armsBy 16 = .ok (.iload 4, 2) := by decide +kernel
theorem d_Main_armsBy_18 : decode b_Main_armsBy 18 = .ok (.iconst 0, 1) := by decide +kernel
theorem d_Main_armsBy_19 : decode b_Main_armsBy 19 = .ok (.bipush 6, 2) := by decide +kernel
theorem d_Main_armsBy_21 : decode b_Main_armsBy 21 = .ok (.invokestatic 108, 3) := by decide +kernel
theorem d_Main_armsBy_24 : decode b_Main_armsBy 24 = .ok (.ifCond .ne 6, 3) := by decide +kernel
theorem d_Main_armsBy_27 : decode b_Main_armsBy 27 = .ok (.bipush (-2), 2) := by decide +kernel
theorem d_Main_armsBy_29 : decode b_Main_armsBy 29 = .ok (.ireturn, 1) := by decide +kernel
theorem d_Main_armsBy_30 : decode b_Main_armsBy 30 = .ok (.aload_n 0, 1) := by decide +kernel
theorem d_Main_armsBy_31 : decode b_Main_armsBy 31 = .ok (.getfield 30, 3) := by decide +kernel
theorem d_Main_armsBy_34 : decode b_Main_armsBy 34 = .ok (.iload_n 1, 1) := by decide +kernel
theorem d_Main_armsBy_35 : decode b_Main_armsBy 35 = .ok (.aaload, 1) := by decide +kernel
theorem d_Main_armsBy_36 : decode b_Main_armsBy 36 = .ok (.astore 5, 2) := by decide +kernel
theorem d_Main_armsBy_38 : decode b_Main_armsBy 38 = .ok (.aload 5, 2) := by decide +kernel
theorem d_Main_armsBy_40 : decode b_Main_armsBy 40 = .ok (.getfield 281, 3) := by decide +kernel
theorem d_Main_armsBy_43 : decode b_Main_armsBy 43 = .ok (.iconst (-1), 1) := by decide +kernel
theorem d_Main_armsBy_44 : decode b_Main_armsBy 44 = .ok (.if_icmp .ne 6, 3) := by decide +kernel
theorem d_Main_armsBy_47 : decode b_Main_armsBy 47 = .ok (.bipush (-11), 2) := by decide +kernel
theorem d_Main_armsBy_49 : decode b_Main_armsBy 49 = .ok (.ireturn, 1) := by decide +kernel
theorem d_Main_armsBy_50 : decode b_Main_armsBy 50 = .ok (.aload 5, 2) := by decide +kernel
theorem d_Main_armsBy_52 : decode b_Main_armsBy 52 = .ok (.getfield 281, 3) := by decide +kernel
theorem d_Main_armsBy_55 : decode b_Main_armsBy 55 = .ok (.iload_n 2, 1) := by decide +kernel
theorem d_Main_armsBy_56 : decode b_Main_armsBy 56 = .ok (.if_icmp .eq 6, 3) := by decide +kernel
theorem d_Main_armsBy_59 : decode b_Main_armsBy 59 = .ok (.bipush (-13), 2) := by decide +kernel
theorem d_Main_armsBy_61 : decode b_Main_armsBy 61 = .ok (.ireturn, 1) := by decide +kernel
theorem d_Main_armsBy_62 : decode b_Main_armsBy 62 = .ok (.iconst 0, 1) := by decide +kernel
theorem d_Main_armsBy_63 : decode b_Main_armsBy 63 = .ok (.istore 6, 2) := by decide +kernel
theorem d_Main_armsBy_65 : decode b_Main_armsBy 65 = .ok (.iload_n 3, 1) := by decide +kernel
theorem d_Main_armsBy_66 : decode b_Main_armsBy 66 = .ok (.istore 7, 2) := by decide +kernel
theorem d_Main_armsBy_68 : decode b_Main_armsBy 68 = .ok (.iconst 0, 1) := by decide +kernel
theorem d_Main_armsBy_69 : decode b_Main_armsBy 69 = .ok (.istore 8, 2) := by decide +kernel
theorem d_Main_armsBy_71 : decode b_Main_armsBy 71 = .ok (.iload 8, 2) := by decide +kernel
theorem d_Main_armsBy_73 : decode b_Main_armsBy 73 = .ok (.iload 4, 2) := by decide +kernel
theorem d_Main_armsBy_75 : decode b_Main_armsBy 75 = .ok (.if_icmp .ge 61, 3) := by decide +kernel
theorem d_Main_armsBy_78 : decode b_Main_armsBy 78 = .ok (.aload 5, 2) := by decide +kernel
theorem d_Main_armsBy_80 : decode b_Main_armsBy 80 = .ok (.iload 7, 2) := by decide +kernel
theorem d_Main_armsBy_82 : decode b_Main_armsBy 82 = .ok (.iconst 3, 1) := by decide +kernel
theorem d_Main_armsBy_83 : decode b_Main_armsBy 83 = .ok (.invokevirtual 287, 3) := by decide +kernel
theorem d_Main_armsBy_86 : decode b_Main_armsBy 86 = .ok (.ifCond .ne 6, 3) := by decide +kernel
theorem d_Main_armsBy_89 : decode b_Main_armsBy 89 = .ok (.bipush (-12), 2) := by decide +kernel
theorem d_Main_armsBy_91 : decode b_Main_armsBy 91 = .ok (.ireturn, 1) := by decide +kernel
theorem d_Main_armsBy_92 : decode b_Main_armsBy 92 = .ok (.aload_n 0, 1) := by decide +kernel
theorem d_Main_armsBy_93 : decode b_Main_armsBy 93 = .ok (.aload 5, 2) := by decide +kernel
theorem d_Main_armsBy_95 : decode b_Main_armsBy 95 = .ok (.iload 7, 2) := by decide +kernel
theorem d_Main_armsBy_97 : decode b_Main_armsBy 97 = .ok (.invokevirtual 299, 3) := by decide +kernel
theorem d_Main_armsBy_100 : decode b_Main_armsBy 100 = .ok (.aload 5, 2) := by decide +kernel
theorem d_Main_armsBy_102 : decode b_Main_armsBy 102 = .ok (.iload 7, 2) := by decide +kernel
theorem d_Main_armsBy_104 : decode b_Main_armsBy 104 = .ok (.iconst 1, 1) := by decide +kernel
theorem d_Main_armsBy_105 : decode b_Main_armsBy 105 = .ok (.iadd, 1) := by decide +kernel
theorem d_Main_armsBy_106 : decode b_Main_armsBy 106 = .ok (.invokevirtual 299, 3) := by decide +kernel
theorem d_Main_armsBy_109 : decode b_Main_armsBy 109 = .ok (.aload 5, 2) := by decide +kernel
theorem d_Main_armsBy_111 : decode b_Main_armsBy 111 = .ok (.iload 7, 2) := by decide +kernel
theorem d_Main_armsBy_113 : decode b_Main_armsBy 113 = .ok (.iconst 2, 1) := by decide +kernel
theorem d_Main_armsBy_114 : decode b_Main_armsBy 114 = .ok (.iadd, 1) := by decide +kernel
theorem d_Main_armsBy_115 : decode b_Main_armsBy 115 = .ok (.invokevirtual 299, 3) := by decide +kernel
theorem d_Main_armsBy_118 : decode b_Main_armsBy 118 = .ok (.invokevirtual 148, 3) := by decide +kernel
theorem d_Main_armsBy_121 : decode b_Main_armsBy 121 = .ok (.ifCond .lt 6, 3) := by decide +kernel
theorem d_Main_armsBy_124 : decode b_Main_armsBy 124 = .ok (.iinc 6 1, 3) := by decide +kernel
theorem d_Main_armsBy_127 : decode b_Main_armsBy 127 = .ok (.iinc 7 3, 3) := by decide +kernel
theorem d_Main_armsBy_130 : decode b_Main_armsBy 130 = .ok (.iinc 8 1, 3) := by decide +kernel
theorem d_Main_armsBy_133 : decode b_Main_armsBy 133 = .ok (.goto (-62), 3) := by decide +kernel
theorem d_Main_armsBy_136 : decode b_Main_armsBy 136 = .ok (.iload 6, 2) := by decide +kernel
theorem d_Main_armsBy_138 : decode b_Main_armsBy 138 = .ok (.ireturn, 1) := by decide +kernel
section S_Main_armsBy
variable {p : Program} {l : Launch} {e : Env} {s : State} {m : MethodId} {args : Array Value} {below : List Frame} {meth : Method} {c : Code} {D : va_G} {cA : Nat → ClassId} {ad : Nat → Nat} {nC : Nat} {A : Nat → Prop} {r : Int32} {τ : St}
noncomputable def F_Main_armsBy_127 (k38 : (St → Int32 → Nat → Int32 → Int32 → Int32 → Option (Int32 × St))) (s0 : St) (v4 : Int32) (v5 : Nat) (v6 : Int32) (v7 : Int32) (v8 : Int32) : Option (Int32 × St) := (k38 s0 v4 v5 v6 (v7 + 3) (v8 + 1))
set_option maxHeartbeats 4000000 in
set_option maxRecDepth 100000 in
theorem q_Main_armsBy_127 (hn : 41 ≤ nC) (K : Fx p s m args meth c b_Main_armsBy 9 R_Main (some .int)) (k38 : (St → Int32 → Nat → Int32 → Int32 → Int32 → Option (Int32 × St))) (hk38 : ∀ (H : Heap) (locs : List Loc) (ls : Array Slot) (s0 : St) (v4 : Int32) (v5 : Nat) (v6 : Int32) (v7 : Int32) (v8 : Int32) (g_v5 : P_Sheet v5), Wh D cA ad (shC.take nC) A s s0 H locs → lv_has ls 9 [(0, .ref (ad 20)), (4, .int v4), (5, .ref (ad v5)), (6, .int v6), (7, .int v7), (8, .int v8)] → k38 s0 v4 v5 v6 v7 v8 = (some (r, τ)) → W p l e rm_Main_armsBy s m args below meth c H locs 0 0 (MQ below (QcI D cA ad (shC.take nC) A r τ) args s 0 0 A) (F0 m 71 ls [])) : ∀ (H : Heap) (locs : List Loc) (ls : Array Slot) (s0 : St) (v4 : Int32) (v5 : Nat) (v6 : Int32) (v7 : Int32) (v8 : Int32) (g_v5 : P_Sheet v5), Wh D cA ad (shC.take nC) A s s0 H locs → lv_has ls 9 [(0, .ref (ad 20)), (4, .int v4), (5, .ref (ad v5)), (6, .int v6), (7, .int v7), (8, .int v8)] → F_Main_armsBy_127 k38 s0 v4 v5 v6 v7 v8 = (some (r, τ)) → W p l e rm_Main_armsBy s m args below meth c H locs 0 0 (MQ below (QcI D cA ad (shC.take nC) A r τ) args s 0 0 A) (F0 m 127 ls []) := by
  have hx := K.1.1; have hb := K.1.2.1
  intro H locs ls s0 v4 v5 v6 v7 v8 g_v5 hw hl hF
  unfold F_Main_armsBy_127 at hF
  refine lv_iinc (v := (v7 + 3)) (lv' := [(7, .int (v7 + 3)), (0, .ref (ad 20)), (4, .int v4), (5, .ref (ad v5)), (6, .int v6), (8, .int v8)]) hx hb d_Main_armsBy_127 hl (k := 4) rfl rfl (by decide) rfl (fun ls hl => ?_)
  refine lv_iinc (v := (v8 + 1)) (lv' := [(8, .int (v8 + 1)), (7, .int (v7 + 3)), (0, .ref (ad 20)), (4, .int v4), (5, .ref (ad v5)), (6, .int v6)]) hx hb d_Main_armsBy_130 hl (k := 5) rfl rfl (by decide) rfl (fun ls hl => ?_)
  refine lv_goto (tgt := 71) hx hb d_Main_armsBy_133 (by decide) ?_
  exact hk38 _ _ _ _ _ _ _ _ _ g_v5 hw (lv_sub hl [2, 3, 4, 5, 1, 0] rfl) hF
noncomputable def F_Main_armsBy_71 : Nat → St → Int32 → Nat → Int32 → Int32 → Int32 → Option (Int32 × St)
  | 0, _, _, _, _, _, _ => none
  | n + 1, s0, v4, v5, v6, v7, v8 => (if v4 ≤ v8 then (some (v6, s0)) else (if ¬ (F_Sheet_hasPlaces s0 v5 v7 (3 : Int32)) = 0 then (ob1 (F_Sheet_at s0 v5 v7) (fun r_10 => (ob1 (F_Sheet_at s0 v5 (v7 + (1 : Int32))) (fun r_11 => (ob1 (F_Sheet_at s0 v5 (v7 + (2 : Int32))) (fun r_12 => (ob2 (F_Main_armComes s0 r_10 r_11 r_12) (fun r_13 s_14 => (if r_13 < 0 then (F_Main_armsBy_127 (fun z0 zv4 zv5 zv6 zv7 zv8 => F_Main_armsBy_71 n z0 zv4 zv5 zv6 zv7 zv8) s_14 v4 v5 v6 v7 v8) else (F_Main_armsBy_127 (fun z0 zv4 zv5 zv6 zv7 zv8 => F_Main_armsBy_71 n z0 zv4 zv5 zv6 zv7 zv8) s_14 v4 v5 (v6 + 1) v7 v8)))))))))) else (some ((-12 : Int32), s0))))
set_option maxHeartbeats 4000000 in
set_option maxRecDepth 100000 in
theorem q_Main_armsBy_71 (hn : 41 ≤ nC) (K : Fx p s m args meth c b_Main_armsBy 9 R_Main (some .int))  : ∀ (n : Nat), ∀ (H : Heap) (locs : List Loc) (ls : Array Slot) (s0 : St) (v4 : Int32) (v5 : Nat) (v6 : Int32) (v7 : Int32) (v8 : Int32) (g_v5 : P_Sheet v5), Wh D cA ad (shC.take nC) A s s0 H locs → lv_has ls 9 [(0, .ref (ad 20)), (4, .int v4), (5, .ref (ad v5)), (6, .int v6), (7, .int v7), (8, .int v8)] → F_Main_armsBy_71 n s0 v4 v5 v6 v7 v8 = (some (r, τ)) → W p l e rm_Main_armsBy s m args below meth c H locs 0 0 (MQ below (QcI D cA ad (shC.take nC) A r τ) args s 0 0 A) (F0 m 71 ls []) := by
  have hx := K.1.1; have hb := K.1.2.1
  intro n
  induction n with
  | zero =>
    intro H locs ls s0 v4 v5 v6 v7 v8 g_v5 hw hl hF
    exact absurd hF (by rw [F_Main_armsBy_71]; exact nofun)
  | succ n ih =>
    intro H locs ls s0 v4 v5 v6 v7 v8 g_v5 hw hl hF
    rw [F_Main_armsBy_71] at hF
    refine lv_iload hx hb d_Main_armsBy_71 (lv_at hl 5 rfl) ?_
    refine lv_iload hx hb d_Main_armsBy_73 (lv_at hl 1 rfl) ?_
    refine lv_icmp_ge (tgt := 136) hx hb d_Main_armsBy_75 (by decide) (fun c_8 => ?_) (fun c_8 => ?_)
    · replace hF := ifT hF c_8
      refine lv_iload hx hb d_Main_armsBy_136 (lv_at hl 3 rfl) ?_
      obtain ⟨hF, hG⟩ := sE2 hF
      subst hF
      subst hG
      exact r_iret K hw d_Main_armsBy_138
    · replace hF := ifF hF c_8
      refine lv_aload hx hb d_Main_armsBy_78 (lv_at hl 2 rfl) ?_
      refine lv_iload hx hb d_Main_armsBy_80 (lv_at hl 4 rfl) ?_
      refine lv_iconst (v := 3) hx hb d_Main_armsBy_82 (by decide) ?_
      refine r_callVI (As := [.int v7, .int (3 : Int32)]) (rest := []) K hw hl.1 (c_Sheet_hasPlaces (l := l) (D := D) (cA := cA) (ad := ad) (s0 := s0) (Nat.le_trans (Nat.le_of_ble_eq_true rfl) hn) g_v5 rfl) (sh_Sheet g_v5 (Nat.le_trans (Nat.le_of_ble_eq_true rfl) hn)) rfl (tb_gV w_956 w_957 w_958 w_67 w_959) a_Sheet_hasPlaces ⟨rfl, rfl, Nat.le_of_ble_eq_true rfl, Nat.le_of_ble_eq_true rfl⟩ rfl rfl (Nat.le_of_ble_eq_true rfl) d_Main_armsBy_83 (fun H locs hw => ?_)
      refine lv_if_ne (tgt := 92) hx hb d_Main_armsBy_86 (by decide) (fun c_9 => ?_) (fun c_9 => ?_)
      · replace hF := ifT hF c_9
        refine lv_aload_n hx hb d_Main_armsBy_92 rfl (lv_at hl 0 rfl) ?_
        refine lv_aload hx hb d_Main_armsBy_93 (lv_at hl 2 rfl) ?_
        refine lv_iload hx hb d_Main_armsBy_95 (lv_at hl 4 rfl) ?_
        obtain ⟨r_10, h_r_10, hF⟩ := ob1E hF
        refine r_callVI (As := [.int v7]) (rest := [.ref (ad 20)]) K hw hl.1 (c_Sheet_at (l := l) (D := D) (cA := cA) (ad := ad) (s0 := s0) (Nat.le_trans (Nat.le_of_ble_eq_true rfl) hn) g_v5 h_r_10) (sh_Sheet g_v5 (Nat.le_trans (Nat.le_of_ble_eq_true rfl) hn)) rfl (tb_gV w_881 w_882 w_883 w_67 w_884) a_Sheet_at ⟨rfl, rfl, Nat.le_of_ble_eq_true rfl, Nat.le_of_ble_eq_true rfl⟩ rfl rfl (Nat.le_of_ble_eq_true rfl) d_Main_armsBy_97 (fun H locs hw => ?_)
        refine lv_aload hx hb d_Main_armsBy_100 (lv_at hl 2 rfl) ?_
        refine lv_iload hx hb d_Main_armsBy_102 (lv_at hl 4 rfl) ?_
        refine lv_iconst (v := 1) hx hb d_Main_armsBy_104 (by decide) ?_
        refine lv_iadd hx hb d_Main_armsBy_105 ?_
        obtain ⟨r_11, h_r_11, hF⟩ := ob1E hF
        refine r_callVI (As := [.int (v7 + (1 : Int32))]) (rest := [.int r_10, .ref (ad 20)]) K hw hl.1 (c_Sheet_at (l := l) (D := D) (cA := cA) (ad := ad) (s0 := s0) (Nat.le_trans (Nat.le_of_ble_eq_true rfl) hn) g_v5 h_r_11) (sh_Sheet g_v5 (Nat.le_trans (Nat.le_of_ble_eq_true rfl) hn)) rfl (tb_gV w_881 w_882 w_883 w_67 w_884) a_Sheet_at ⟨rfl, rfl, Nat.le_of_ble_eq_true rfl, Nat.le_of_ble_eq_true rfl⟩ rfl rfl (Nat.le_of_ble_eq_true rfl) d_Main_armsBy_106 (fun H locs hw => ?_)
        refine lv_aload hx hb d_Main_armsBy_109 (lv_at hl 2 rfl) ?_
        refine lv_iload hx hb d_Main_armsBy_111 (lv_at hl 4 rfl) ?_
        refine lv_iconst (v := 2) hx hb d_Main_armsBy_113 (by decide) ?_
        refine lv_iadd hx hb d_Main_armsBy_114 ?_
        obtain ⟨r_12, h_r_12, hF⟩ := ob1E hF
        refine r_callVI (As := [.int (v7 + (2 : Int32))]) (rest := [.int r_11, .int r_10, .ref (ad 20)]) K hw hl.1 (c_Sheet_at (l := l) (D := D) (cA := cA) (ad := ad) (s0 := s0) (Nat.le_trans (Nat.le_of_ble_eq_true rfl) hn) g_v5 h_r_12) (sh_Sheet g_v5 (Nat.le_trans (Nat.le_of_ble_eq_true rfl) hn)) rfl (tb_gV w_881 w_882 w_883 w_67 w_884) a_Sheet_at ⟨rfl, rfl, Nat.le_of_ble_eq_true rfl, Nat.le_of_ble_eq_true rfl⟩ rfl rfl (Nat.le_of_ble_eq_true rfl) d_Main_armsBy_115 (fun H locs hw => ?_)
        obtain ⟨r_13, s_14, h_s_14, hF⟩ := ob2E hF
        refine r_callVI (As := [.int r_10, .int r_11, .int r_12]) (rest := []) K hw hl.1 (c_Main_armComes (l := l) (D := D) (cA := cA) (ad := ad) (s0 := s0) (Nat.le_trans (Nat.le_of_ble_eq_true rfl) hn)  h_s_14) (sh_Main (Nat.le_trans (Nat.le_of_ble_eq_true rfl) hn)) rfl (tb_gV w_689 w_691 w_15 w_63 w_692) a_Main_armComes ⟨rfl, rfl, Nat.le_of_ble_eq_true rfl, Nat.le_of_ble_eq_true rfl⟩ rfl rfl (Nat.le_of_ble_eq_true rfl) d_Main_armsBy_118 (fun H locs hw => ?_)
        refine lv_if_lt (tgt := 127) hx hb d_Main_armsBy_121 (by decide) (fun c_15 => ?_) (fun c_15 => ?_)
        · replace hF := ifT hF c_15
          exact q_Main_armsBy_127 hn K (fun z0 zv4 zv5 zv6 zv7 zv8 => F_Main_armsBy_71 n z0 zv4 zv5 zv6 zv7 zv8) ih _ _ _ _ _ _ _ _ _ g_v5 hw (lv_sub hl [0, 1, 2, 3, 4, 5] rfl) hF
        · replace hF := ifF hF c_15
          refine lv_iinc (v := (v6 + 1)) (lv' := [(6, .int (v6 + 1)), (0, .ref (ad 20)), (4, .int v4), (5, .ref (ad v5)), (7, .int v7), (8, .int v8)]) hx hb d_Main_armsBy_124 hl (k := 3) rfl rfl (by decide) rfl (fun ls hl => ?_)
          exact q_Main_armsBy_127 hn K (fun z0 zv4 zv5 zv6 zv7 zv8 => F_Main_armsBy_71 n z0 zv4 zv5 zv6 zv7 zv8) ih _ _ _ _ _ _ _ _ _ g_v5 hw (lv_sub hl [1, 2, 3, 0, 4, 5] rfl) hF
      · replace hF := ifN hF c_9
        refine lv_bipush (v := -12) hx hb d_Main_armsBy_89 (by decide) ?_
        obtain ⟨hF, hG⟩ := sE2 hF
        subst hF
        subst hG
        exact r_iret K hw d_Main_armsBy_91
noncomputable def F_Main_armsBy_0 (s0 : St) (v1 : Int32) (v2 : Int32) (v3 : Int32) (v4 : Int32) : Option (Int32 × St) := (ob1 (F_Main_isSheet v1) (fun r_1 => (if r_1 = 0 then (some ((-2 : Int32), s0)) else (if (F_Main_isWithin v2 (0 : Int32) (2 : Int32)) = 0 then (some ((-2 : Int32), s0)) else (if ¬ (F_Main_isWithin v4 (0 : Int32) (6 : Int32)) = 0 then (if inB v1 4 = true then (if ¬ (s0.1 (33 + v1.toNatClampNeg) 1) = (-1 : Int32) then (if (s0.1 (33 + v1.toNatClampNeg) 1) = v2 then (F_Main_armsBy_71 FU s0 v4 (33 + v1.toNatClampNeg) (0 : Int32) v3 (0 : Int32)) else (some ((-13 : Int32), s0))) else (some ((-11 : Int32), s0))) else none) else (some ((-2 : Int32), s0)))))))
set_option maxHeartbeats 4000000 in
set_option maxRecDepth 100000 in
theorem q_Main_armsBy_0 (hn : 41 ≤ nC) (K : Fx p s m args meth c b_Main_armsBy 9 R_Main (some .int))  : ∀ (H : Heap) (locs : List Loc) (ls : Array Slot) (s0 : St) (v1 : Int32) (v2 : Int32) (v3 : Int32) (v4 : Int32), Wh D cA ad (shC.take nC) A s s0 H locs → lv_has ls 9 [(0, .ref (ad 20)), (1, .int v1), (2, .int v2), (3, .int v3), (4, .int v4)] → F_Main_armsBy_0 s0 v1 v2 v3 v4 = (some (r, τ)) → W p l e rm_Main_armsBy s m args below meth c H locs 0 0 (MQ below (QcI D cA ad (shC.take nC) A r τ) args s 0 0 A) (F0 m 0 ls []) := by
  have hx := K.1.1; have hb := K.1.2.1
  intro H locs ls s0 v1 v2 v3 v4 hw hl hF
  unfold F_Main_armsBy_0 at hF
  refine lv_iload_n hx hb d_Main_armsBy_0 rfl (lv_at hl 1 rfl) ?_
  obtain ⟨r_1, h_r_1, hF⟩ := ob1E hF
  refine r_callSI (As := [.int v1]) (rest := []) K hw hl.1 (c_Main_isSheet (l := l) (D := D) (cA := cA) (ad := ad) (s0 := s0) (Nat.le_trans (Nat.le_of_ble_eq_true rfl) hn)  h_r_1) (tb_gS w_874 w_875 w_63 w_876) a_Main_isSheet ⟨rfl, rfl, Nat.le_of_ble_eq_true rfl, Nat.le_of_ble_eq_true rfl⟩ rfl rfl (Nat.le_of_ble_eq_true rfl) d_Main_armsBy_1 (fun H locs hw => ?_)
  refine lv_if_eq (tgt := 27) hx hb d_Main_armsBy_4 (by decide) (fun c_2 => ?_) (fun c_2 => ?_)
  · replace hF := ifT hF c_2
    refine lv_bipush (v := -2) hx hb d_Main_armsBy_27 (by decide) ?_
    obtain ⟨hF, hG⟩ := sE2 hF
    subst hF
    subst hG
    exact r_iret K hw d_Main_armsBy_29
  · replace hF := ifF hF c_2
    refine lv_iload_n hx hb d_Main_armsBy_7 rfl (lv_at hl 2 rfl) ?_
    refine lv_iconst (v := 0) hx hb d_Main_armsBy_8 (by decide) ?_
    refine lv_iconst (v := 2) hx hb d_Main_armsBy_9 (by decide) ?_
    refine r_callSI (As := [.int v2, .int (0 : Int32), .int (2 : Int32)]) (rest := []) K hw hl.1 (c_Main_isWithin (l := l) (D := D) (cA := cA) (ad := ad) (s0 := s0) (Nat.le_trans (Nat.le_of_ble_eq_true rfl) hn)  rfl) (tb_gS w_640 w_347 w_63 w_348) a_Main_isWithin ⟨rfl, rfl, Nat.le_of_ble_eq_true rfl, Nat.le_of_ble_eq_true rfl⟩ rfl rfl (Nat.le_of_ble_eq_true rfl) d_Main_armsBy_10 (fun H locs hw => ?_)
    refine lv_if_eq (tgt := 27) hx hb d_Main_armsBy_13 (by decide) (fun c_3 => ?_) (fun c_3 => ?_)
    · replace hF := ifT hF c_3
      refine lv_bipush (v := -2) hx hb d_Main_armsBy_27 (by decide) ?_
      obtain ⟨hF, hG⟩ := sE2 hF
      subst hF
      subst hG
      exact r_iret K hw d_Main_armsBy_29
    · replace hF := ifF hF c_3
      refine lv_iload hx hb d_Main_armsBy_16 (lv_at hl 4 rfl) ?_
      refine lv_iconst (v := 0) hx hb d_Main_armsBy_18 (by decide) ?_
      refine lv_bipush (v := 6) hx hb d_Main_armsBy_19 (by decide) ?_
      refine r_callSI (As := [.int v4, .int (0 : Int32), .int (6 : Int32)]) (rest := []) K hw hl.1 (c_Main_isWithin (l := l) (D := D) (cA := cA) (ad := ad) (s0 := s0) (Nat.le_trans (Nat.le_of_ble_eq_true rfl) hn)  rfl) (tb_gS w_640 w_347 w_63 w_348) a_Main_isWithin ⟨rfl, rfl, Nat.le_of_ble_eq_true rfl, Nat.le_of_ble_eq_true rfl⟩ rfl rfl (Nat.le_of_ble_eq_true rfl) d_Main_armsBy_21 (fun H locs hw => ?_)
      refine lv_if_ne (tgt := 30) hx hb d_Main_armsBy_24 (by decide) (fun c_4 => ?_) (fun c_4 => ?_)
      · replace hF := ifT hF c_4
        refine lv_aload_n hx hb d_Main_armsBy_30 rfl (lv_at hl 0 rfl) ?_
        refine r_get (v := .ref (ad 23)) K hw i_Main (sh_Main (Nat.le_trans (Nat.le_of_ble_eq_true rfl) hn)) rfl 9 (by decide) w_607 rfl rfl rfl d_Main_armsBy_31 ?_
        refine lv_iload_n hx hb d_Main_armsBy_34 rfl (lv_at hl 1 rfl) ?_
        obtain ⟨g_5, hF⟩ := ifG hF
        refine r_aald (k := v1.toNatClampNeg) K hw (sh_a23 (Nat.le_trans (Nat.le_of_ble_eq_true rfl) hn)) (rfl : (TYS cA)[3]? = some (cA 3, _)) rfl (inB_vp g_5) d_Main_armsBy_35 ?_
        refine lv_astore (lv' := [(5, .ref (ad (33 + v1.toNatClampNeg))), (0, .ref (ad 20)), (1, .int v1), (2, .int v2), (3, .int v3), (4, .int v4)]) hx hb d_Main_armsBy_36 hl (by decide) rfl (fun ls hl => ?_)
        refine lv_aload hx hb d_Main_armsBy_38 (lv_at hl 0 rfl) ?_
        refine r_get (v := .int (s0.1 (33 + v1.toNatClampNeg) 1)) K hw i_Sheet (sh_Sheet (P_Sheet_of g_5) (Nat.le_trans (Nat.le_of_ble_eq_true rfl) hn)) rfl 1 (by decide) w_192 rfl rfl rfl d_Main_armsBy_40 ?_
        refine lv_iconst (v := -1) hx hb d_Main_armsBy_43 (by decide) ?_
        refine lv_icmp_ne (tgt := 50) hx hb d_Main_armsBy_44 (by decide) (fun c_6 => ?_) (fun c_6 => ?_)
        · replace hF := ifT hF c_6
          refine lv_aload hx hb d_Main_armsBy_50 (lv_at hl 0 rfl) ?_
          refine r_get (v := .int (s0.1 (33 + v1.toNatClampNeg) 1)) K hw i_Sheet (sh_Sheet (P_Sheet_of g_5) (Nat.le_trans (Nat.le_of_ble_eq_true rfl) hn)) rfl 1 (by decide) w_192 rfl rfl rfl d_Main_armsBy_52 ?_
          refine lv_iload_n hx hb d_Main_armsBy_55 rfl (lv_at hl 3 rfl) ?_
          refine lv_icmp_eq (tgt := 62) hx hb d_Main_armsBy_56 (by decide) (fun c_7 => ?_) (fun c_7 => ?_)
          · replace hF := ifT hF c_7
            refine lv_iconst (v := 0) hx hb d_Main_armsBy_62 (by decide) ?_
            refine lv_istore (lv' := [(6, .int (0 : Int32)), (5, .ref (ad (33 + v1.toNatClampNeg))), (0, .ref (ad 20)), (1, .int v1), (2, .int v2), (3, .int v3), (4, .int v4)]) hx hb d_Main_armsBy_63 hl (by decide) rfl (fun ls hl => ?_)
            refine lv_iload_n hx hb d_Main_armsBy_65 rfl (lv_at hl 5 rfl) ?_
            refine lv_istore (lv' := [(7, .int v3), (6, .int (0 : Int32)), (5, .ref (ad (33 + v1.toNatClampNeg))), (0, .ref (ad 20)), (1, .int v1), (2, .int v2), (3, .int v3), (4, .int v4)]) hx hb d_Main_armsBy_66 hl (by decide) rfl (fun ls hl => ?_)
            refine lv_iconst (v := 0) hx hb d_Main_armsBy_68 (by decide) ?_
            refine lv_istore (lv' := [(8, .int (0 : Int32)), (7, .int v3), (6, .int (0 : Int32)), (5, .ref (ad (33 + v1.toNatClampNeg))), (0, .ref (ad 20)), (1, .int v1), (2, .int v2), (3, .int v3), (4, .int v4)]) hx hb d_Main_armsBy_69 hl (by decide) rfl (fun ls hl => ?_)
            exact q_Main_armsBy_71 hn K FU _ _ _ _ _ _ _ _ _ (P_Sheet_of g_5) hw (lv_sub hl [4, 8, 3, 2, 1, 0] rfl) hF
          · replace hF := ifF hF c_7
            refine lv_bipush (v := -13) hx hb d_Main_armsBy_59 (by decide) ?_
            obtain ⟨hF, hG⟩ := sE2 hF
            subst hF
            subst hG
            exact r_iret K hw d_Main_armsBy_61
        · replace hF := ifN hF c_6
          refine lv_bipush (v := -11) hx hb d_Main_armsBy_47 (by decide) ?_
          obtain ⟨hF, hG⟩ := sE2 hF
          subst hF
          subst hG
          exact r_iret K hw d_Main_armsBy_49
      · replace hF := ifN hF c_4
        refine lv_bipush (v := -2) hx hb d_Main_armsBy_27 (by decide) ?_
        obtain ⟨hF, hG⟩ := sE2 hF
        subst hF
        subst hG
        exact r_iret K hw d_Main_armsBy_29
end S_Main_armsBy
noncomputable abbrev F_Main_armsBy := F_Main_armsBy_0
theorem c_Main_armsBy {l : Launch} {D : va_G} {cA : Nat → ClassId} {ad : Nat → Nat} {s0 τ : St} {nC : Nat} (hn : 41 ≤ nC) {r : Int32} {v1 : Int32} {v2 : Int32} {v3 : Int32} {v4 : Int32}  (hF : F_Main_armsBy s0 v1 v2 v3 v4 = (some (r, τ))) : MI l D cA ad (shC.take nC) y_Main_armsBy (wT y_Main_armsBy b_Main_armsBy 9 (some .int)) rm_Main_armsBy [.ref (ad 20), .int v1, .int v2, .int v3, .int v4] s0 r τ := fun sz => m_start (Qc := fun A => QcI D cA ad (shC.take nC) A r τ) (by decide +kernel) w_966 (Nat.le_of_ble_eq_true rfl) (fun p e s m below meth c ls K hl hw => q_Main_armsBy_0 hn K _ _ _ _ _ _ _ _  hw hl hF)

/-! Main.taken(II)I -/
abbrev b_Main_taken : ByteArray := prog_1_method_34_code
def y_Main_taken : MethodName := ⟨R_Main, "taken", "(II)I"⟩
theorem a_Main_taken : y_Main_taken.cls = R_Main ∧ y_Main_taken.cls ≠ "java/lang/invoke/MethodHandle" ∧ y_Main_taken.cls ≠ "java/lang/invoke/VarHandle" ∧ (parseMethodDescriptor y_Main_taken.desc).map (fun d => d.parameters.length) = some 2 := by decide +kernel
abbrev rm_Main_taken : Room := { frames := 2, cells := 0, slots := 0, locals := 45 }
theorem w_971 : Cond.methodLink R_Main 302 y_Arm_isOf ∈ TB := tb_in 971 (by decide +kernel) (by decide +kernel)
theorem w_970 : Cond.code y_Main_taken b_Main_taken 5 (some .int) ∈ TB := tb_in 970 (by decide +kernel) (by decide +kernel)
theorem d_Main_taken_0 : decode b_Main_taken 0 = .ok (.iload_n 2, 1) := by decide +kernel
theorem d_Main_taken_1 : decode b_Main_taken 1 = .ok (.iconst 0, 1) := by decide +kernel
theorem d_Main_taken_2 : decode b_Main_taken 2 = .ok (.bipush 6, 2) := by decide +kernel
theorem d_Main_taken_4 : decode b_Main_taken 4 = .ok (.invokestatic 108, 3) := by decide +kernel
theorem d_Main_taken_7 : decode b_Main_taken 7 = .ok (.ifCond .ne 6, 3) := by decide +kernel
theorem d_Main_taken_10 : decode b_Main_taken 10 = .ok (.bipush (-2), 2) := by decide +kernel
theorem d_Main_taken_12 : decode b_Main_taken 12 = .ok (.ireturn, 1) := by decide +kernel
theorem d_Main_taken_13 : decode b_Main_taken 13 = .ok (.iload_n 1, 1) := by decide +kernel
theorem d_Main_taken_14 : decode b_Main_taken 14 = .ok (.iconst 0, 1) := by decide +kernel
theorem d_Main_taken_15 : decode b_Main_taken 15 = .ok (.bipush 11, 2) := by decide +kernel
theorem d_Main_taken_17 : decode b_Main_taken 17 = .ok (.invokestatic 108, 3) := by decide +kernel
theorem d_Main_taken_20 : decode b_Main_taken 20 = .ok (.ifCond .ne 6, 3) := by decide +kernel
theorem d_Main_taken_23 : decode b_Main_taken 23 = .ok (.bipush (-12), 2) := by decide +kernel
theorem d_Main_taken_25 : decode b_Main_taken 25 = .ok (.ireturn, 1) := by decide +kernel
theorem d_Main_taken_26 : decode b_Main_taken 26 = .ok (.iload_n 1, 1) := by decide +kernel
theorem d_Main_taken_27 : decode b_Main_taken 27 = .ok (.bipush 6, 2) := by decide +kernel
theorem d_Main_taken_29 : decode b_Main_taken 29 = .ok (.irem, 1) := by decide +kernel
theorem d_Main_taken_30 : decode b_Main_taken 30 = .ok (.istore_n 3, 1) := by decide +kernel
theorem d_Main_taken_31 : decode b_Main_taken 31 = .ok (.iload_n 1, 1) := by decide +kernel
theorem d_Main_taken_32 : decode b_Main_taken 32 = .ok (.bipush 6, 2) := by decide +kernel
theorem d_Main_taken_34 : decode b_Main_taken 34 = .ok (.if_icmp .lt 7, 3) := by decide +kernel
theorem d_Main_taken_37 : decode b_Main_taken 37 = .ok (.iconst 1, 1) := by decide +kernel
theorem d_Main_taken_38 : decode b_Main_taken 38 = .ok (.goto 4, 3) := by decide +kernel
theorem d_Main_taken_41 : decode b_Main_taken 41 = .ok (.iconst 0, 1) := by decide +kernel
theorem d_Main_taken_42 : decode b_Main_taken 42 = .ok (.istore 4, 2) := by decide +kernel
theorem d_Main_taken_44 : decode b_Main_taken 44 = .ok (.aload_n 0, 1) := by decide +kernel
theorem d_Main_taken_45 : decode b_Main_taken 45 = .ok (.iload_n 3, 1) := by decide +kernel
theorem d_Main_taken_46 : decode b_Main_taken 46 = .ok (.invokevirtual 120, 3) := by decide +kernel
theorem d_Main_taken_49 : decode b_Main_taken 49 = .ok (.ifCond .eq 20, 3) := by decide +kernel
theorem d_Main_taken_52 : decode b_Main_taken 52 = .ok (.iload 4, 2) := by decide +kernel
theorem d_Main_taken_54 : decode b_Main_taken 54 = .ok (.ifCond .eq 18, 3) := by decide +kernel
theorem d_Main_taken_57 : decode b_Main_taken 57 = .ok (.aload_n 0, 1) := by decide +kernel
theorem d_Main_taken_58 : decode b_Main_taken 58 = .ok (.getfield 11, 3) := by decide +kernel
theorem d_Main_taken_61 : decode b_Main_taken 61 = .ok (.iload_n 3, 1) := by decide +kernel
theorem d_Main_taken_62 : decode b_Main_taken 62 = .ok (.aaload, 1) := by decide +kernel
theorem d_Main_taken_63 : decode b_Main_taken 63 = .ok (.getfield 152, 3) := by decide +kernel
theorem d_Main_taken_66 : decode b_Main_taken 66 = .ok (.ifCond .ne 6, 3) := by decide +kernel
theorem d_Main_taken_69 : decode b_Main_taken 69 = .ok (.bipush (-11), 2) := by decide +kernel
theorem d_Main_taken_71 : decode b_Main_taken 71 = .ok (.ireturn, 1) := by decide +kernel
theorem d_Main_taken_72 : decode b_Main_taken 72 = .ok (.iload 4, 2) := by decide +kernel
theorem d_Main_taken_74 : decode b_Main_taken 74 = .ok (.ifCond .eq 24, 3) := by decide +kernel
theorem d_Main_taken_77 : decode b_Main_taken 77 = .ok (.iload_n 2, 1) := by decide +kernel
theorem d_Main_taken_78 : decode b_Main_taken 78 = .ok (.bipush 6, 2) := by decide +kernel
theorem d_Main_taken_80 : decode b_Main_taken 80 = .ok (.if_icmp .ne 15, 3) := by decide +kernel
theorem d_Main_taken_83 : decode b_Main_taken 83 = .ok (.aload_n 0, 1) := by decide +kernel
theorem d_Main_taken_84 : decode b_Main_taken 84 = .ok (.getfield 11, 3) := by decide +kernel
theorem d_Main_taken_87 : decode b_Main_taken 87 = .ok (.iload_n 3, 1) := by decide +kernel
theorem d_Main_taken_88 : decode b_Main_taken 88 = .ok (.aaload, 1) := by decide +kernel
theorem d_Main_taken_89 : decode b_Main_taken 89 = .ok (.getfield 152, 3) := by decide +kernel
theorem d_Main_taken_92 : decode b_Main_taken 92 = .ok (.goto 5, 3) := by decide +kernel
theorem d_Main_taken_95 : decode b_Main_taken 95 = .ok (.bipush (-13), 2) := by decide +kernel
theorem d_Main_taken_97 : decode b_Main_taken 97 = .ok (.ireturn, 1) := by decide +kernel
theorem d_Main_taken_98 : decode b_Main_taken 98 = .ok (.iload_n 2, 1) := by decide +kernel
theorem d_Main_taken_99 : decode b_Main_taken 99 = .ok (.bipush 6, 2) := by decide +kernel
theorem d_Main_taken_101 : decode b_Main_taken 101 = .ok (.if_icmp .eq 20, 3) := by decide +kernel
theorem d_Main_taken_104 : decode b_Main_taken 104 = .ok (.aload_n 0, 1) := by decide +kernel
theorem d_Main_taken_105 : decode b_Main_taken 105 = .ok (.getfield 11, 3) := by decide +kernel
theorem d_Main_taken_108 : decode b_Main_taken 108 = .ok (.iload_n 3, 1) := by decide +kernel
theorem d_Main_taken_109 : decode b_Main_taken 109 = .ok (.aaload, 1) := by decide +kernel
theorem d_Main_taken_110 : decode b_Main_taken 110 = .ok (.iload_n 2, 1) := by decide +kernel
theorem d_Main_taken_111 : decode b_Main_taken 111 = .ok (.invokevirtual 302, 3) := by decide +kernel
theorem d_Main_taken_114 : decode b_Main_taken 114 = .ok (.ifCond .eq 7, 3) := by decide +kernel
theorem d_Main_taken_117 : decode b_Main_taken 117 = .ok (.iload_n 3, 1) := by decide +kernel
theorem d_Main_taken_118 : decode b_Main_taken 118 = .ok (.goto 5, 3) := by decide +kernel
theorem d_Main_taken_121 : decode b_Main_taken 121 = .ok (.bipush (-13), 2) := by decide +kernel
theorem d_Main_taken_123 : decode b_Main_taken 123 = .ok (.ireturn, 1) := by decide +kernel
section S_Main_taken
variable {p : Program} {l : Launch} {e : Env} {s : State} {m : MethodId} {args : Array Value} {below : List Frame} {meth : Method} {c : Code} {D : va_G} {cA : Nat → ClassId} {ad : Nat → Nat} {nC : Nat} {A : Nat → Prop} {r : Int32} {τ : St}
noncomputable def F_Main_taken_72 (s0 : St) (v2 : Int32) (v3 : Int32) (v4 : Int32) : Option Int32 := (if v4 = 0 then (if v2 = (6 : Int32) then (some (-13 : Int32)) else (if inB v3 6 = true then (ob1 (F_Arm_isOf s0 (27 + v3.toNatClampNeg) v2) (fun r_10 => (if r_10 = 0 then (some (-13 : Int32)) else (some v3)))) else none)) else (if ¬ v2 = (6 : Int32) then (some (-13 : Int32)) else (if inB v3 6 = true then (some (s0.1 (27 + v3.toNatClampNeg) 4)) else none)))
set_option maxHeartbeats 4000000 in
set_option maxRecDepth 100000 in
theorem q_Main_taken_72 (hn : 33 ≤ nC) (s0 : St) (K : Fx p s m args meth c b_Main_taken 5 R_Main (some .int))  : ∀ (H : Heap) (locs : List Loc) (ls : Array Slot) (v2 : Int32) (v3 : Int32) (v4 : Int32), Wh D cA ad (shC.take nC) A s s0 H locs → lv_has ls 5 [(0, .ref (ad 20)), (2, .int v2), (3, .int v3), (4, .int v4)] → F_Main_taken_72 s0 v2 v3 v4 = (some r) → W p l e rm_Main_taken s m args below meth c H locs 0 0 (MQ below (QcI D cA ad (shC.take nC) A r s0) args s 0 0 A) (F0 m 72 ls []) := by
  have hx := K.1.1; have hb := K.1.2.1
  intro H locs ls v2 v3 v4 hw hl hF
  unfold F_Main_taken_72 at hF
  refine lv_iload hx hb d_Main_taken_72 (lv_at hl 3 rfl) ?_
  refine lv_if_eq (tgt := 98) hx hb d_Main_taken_74 (by decide) (fun c_7 => ?_) (fun c_7 => ?_)
  · replace hF := ifT hF c_7
    refine lv_iload_n hx hb d_Main_taken_98 rfl (lv_at hl 1 rfl) ?_
    refine lv_bipush (v := 6) hx hb d_Main_taken_99 (by decide) ?_
    refine lv_icmp_eq (tgt := 121) hx hb d_Main_taken_101 (by decide) (fun c_8 => ?_) (fun c_8 => ?_)
    · replace hF := ifT hF c_8
      refine lv_bipush (v := -13) hx hb d_Main_taken_121 (by decide) ?_
      replace hF := sE1 hF
      subst hF
      exact r_iret K hw d_Main_taken_123
    · replace hF := ifF hF c_8
      refine lv_aload_n hx hb d_Main_taken_104 rfl (lv_at hl 0 rfl) ?_
      refine r_get (v := .ref (ad 21)) K hw i_Main (sh_Main (Nat.le_trans (Nat.le_of_ble_eq_true rfl) hn)) rfl 0 (by decide) w_598 rfl rfl rfl d_Main_taken_105 ?_
      refine lv_iload_n hx hb d_Main_taken_108 rfl (lv_at hl 2 rfl) ?_
      obtain ⟨g_9, hF⟩ := ifG hF
      refine r_aald (k := v3.toNatClampNeg) K hw (sh_a21 (Nat.le_trans (Nat.le_of_ble_eq_true rfl) hn)) (rfl : (TYS cA)[1]? = some (cA 1, _)) rfl (inB_vp g_9) d_Main_taken_109 ?_
      refine lv_iload_n hx hb d_Main_taken_110 rfl (lv_at hl 1 rfl) ?_
      obtain ⟨r_10, h_r_10, hF⟩ := ob1E hF
      refine r_callVI (As := [.int v2]) (rest := []) K hw hl.1 (c_Arm_isOf (l := l) (D := D) (cA := cA) (ad := ad) (s0 := s0) (Nat.le_trans (Nat.le_of_ble_eq_true rfl) hn) (P_Arm_of g_9) h_r_10) (sh_Arm (P_Arm_of g_9) (Nat.le_trans (Nat.le_of_ble_eq_true rfl) hn)) rfl (tb_gV w_971 w_698 w_699 w_66 w_700) a_Arm_isOf ⟨rfl, rfl, Nat.le_of_ble_eq_true rfl, Nat.le_of_ble_eq_true rfl⟩ rfl rfl (Nat.le_of_ble_eq_true rfl) d_Main_taken_111 (fun H locs hw => ?_)
      refine lv_if_eq (tgt := 121) hx hb d_Main_taken_114 (by decide) (fun c_11 => ?_) (fun c_11 => ?_)
      · replace hF := ifT hF c_11
        refine lv_bipush (v := -13) hx hb d_Main_taken_121 (by decide) ?_
        replace hF := sE1 hF
        subst hF
        exact r_iret K hw d_Main_taken_123
      · replace hF := ifF hF c_11
        refine lv_iload_n hx hb d_Main_taken_117 rfl (lv_at hl 2 rfl) ?_
        refine lv_goto (tgt := 123) hx hb d_Main_taken_118 (by decide) ?_
        replace hF := sE1 hF
        subst hF
        exact r_iret K hw d_Main_taken_123
  · replace hF := ifF hF c_7
    refine lv_iload_n hx hb d_Main_taken_77 rfl (lv_at hl 1 rfl) ?_
    refine lv_bipush (v := 6) hx hb d_Main_taken_78 (by decide) ?_
    refine lv_icmp_ne (tgt := 95) hx hb d_Main_taken_80 (by decide) (fun c_12 => ?_) (fun c_12 => ?_)
    · replace hF := ifT hF c_12
      refine lv_bipush (v := -13) hx hb d_Main_taken_95 (by decide) ?_
      replace hF := sE1 hF
      subst hF
      exact r_iret K hw d_Main_taken_97
    · replace hF := ifN hF c_12
      refine lv_aload_n hx hb d_Main_taken_83 rfl (lv_at hl 0 rfl) ?_
      refine r_get (v := .ref (ad 21)) K hw i_Main (sh_Main (Nat.le_trans (Nat.le_of_ble_eq_true rfl) hn)) rfl 0 (by decide) w_598 rfl rfl rfl d_Main_taken_84 ?_
      refine lv_iload_n hx hb d_Main_taken_87 rfl (lv_at hl 2 rfl) ?_
      obtain ⟨g_13, hF⟩ := ifG hF
      refine r_aald (k := v3.toNatClampNeg) K hw (sh_a21 (Nat.le_trans (Nat.le_of_ble_eq_true rfl) hn)) (rfl : (TYS cA)[1]? = some (cA 1, _)) rfl (inB_vp g_13) d_Main_taken_88 ?_
      refine r_get (v := .int (s0.1 (27 + v3.toNatClampNeg) 4)) K hw i_Arm (sh_Arm (P_Arm_of g_13) (Nat.le_trans (Nat.le_of_ble_eq_true rfl) hn)) rfl 4 (by decide) w_155 rfl rfl rfl d_Main_taken_89 ?_
      refine lv_goto (tgt := 97) hx hb d_Main_taken_92 (by decide) ?_
      replace hF := sE1 hF
      subst hF
      exact r_iret K hw d_Main_taken_97
noncomputable def F_Main_taken_42 (s0 : St) (v2 : Int32) (v3 : Int32) (t0 : Int32) : Option Int32 := (ob1 (F_Main_isArm s0 v3) (fun r_4 => (if r_4 = 0 then (some (-11 : Int32)) else (if t0 = 0 then (F_Main_taken_72 s0 v2 v3 t0) else (if inB v3 6 = true then (if ¬ (s0.1 (27 + v3.toNatClampNeg) 4) = 0 then (F_Main_taken_72 s0 v2 v3 t0) else (some (-11 : Int32))) else none)))))
set_option maxHeartbeats 4000000 in
set_option maxRecDepth 100000 in
theorem q_Main_taken_42 (hn : 33 ≤ nC) (s0 : St) (K : Fx p s m args meth c b_Main_taken 5 R_Main (some .int))  : ∀ (H : Heap) (locs : List Loc) (ls : Array Slot) (v2 : Int32) (v3 : Int32) (t0 : Int32), Wh D cA ad (shC.take nC) A s s0 H locs → lv_has ls 5 [(0, .ref (ad 20)), (2, .int v2), (3, .int v3)] → F_Main_taken_42 s0 v2 v3 t0 = (some r) → W p l e rm_Main_taken s m args below meth c H locs 0 0 (MQ below (QcI D cA ad (shC.take nC) A r s0) args s 0 0 A) (F0 m 42 ls [.int t0]) := by
  have hx := K.1.1; have hb := K.1.2.1
  intro H locs ls v2 v3 t0 hw hl hF
  unfold F_Main_taken_42 at hF
  refine lv_istore (lv' := [(4, .int t0), (0, .ref (ad 20)), (2, .int v2), (3, .int v3)]) hx hb d_Main_taken_42 hl (by decide) rfl (fun ls hl => ?_)
  refine lv_aload_n hx hb d_Main_taken_44 rfl (lv_at hl 1 rfl) ?_
  refine lv_iload_n hx hb d_Main_taken_45 rfl (lv_at hl 3 rfl) ?_
  obtain ⟨r_4, h_r_4, hF⟩ := ob1E hF
  refine r_callVI (As := [.int v3]) (rest := []) K hw hl.1 (c_Main_isArm (l := l) (D := D) (cA := cA) (ad := ad) (s0 := s0) (Nat.le_trans (Nat.le_of_ble_eq_true rfl) hn)  h_r_4) (sh_Main (Nat.le_trans (Nat.le_of_ble_eq_true rfl) hn)) rfl (tb_gV w_656 w_658 w_13 w_63 w_659) a_Main_isArm ⟨rfl, rfl, Nat.le_of_ble_eq_true rfl, Nat.le_of_ble_eq_true rfl⟩ rfl rfl (Nat.le_of_ble_eq_true rfl) d_Main_taken_46 (fun H locs hw => ?_)
  refine lv_if_eq (tgt := 69) hx hb d_Main_taken_49 (by decide) (fun c_5 => ?_) (fun c_5 => ?_)
  · replace hF := ifT hF c_5
    refine lv_bipush (v := -11) hx hb d_Main_taken_69 (by decide) ?_
    replace hF := sE1 hF
    subst hF
    exact r_iret K hw d_Main_taken_71
  · replace hF := ifF hF c_5
    refine lv_iload hx hb d_Main_taken_52 (lv_at hl 0 rfl) ?_
    refine lv_if_eq (tgt := 72) hx hb d_Main_taken_54 (by decide) (fun c_6 => ?_) (fun c_6 => ?_)
    · replace hF := ifT hF c_6
      exact q_Main_taken_72 hn s0 K _ _ _ _ _ _  hw (lv_sub hl [1, 2, 3, 0] rfl) hF
    · replace hF := ifF hF c_6
      refine lv_aload_n hx hb d_Main_taken_57 rfl (lv_at hl 1 rfl) ?_
      refine r_get (v := .ref (ad 21)) K hw i_Main (sh_Main (Nat.le_trans (Nat.le_of_ble_eq_true rfl) hn)) rfl 0 (by decide) w_598 rfl rfl rfl d_Main_taken_58 ?_
      refine lv_iload_n hx hb d_Main_taken_61 rfl (lv_at hl 3 rfl) ?_
      obtain ⟨g_14, hF⟩ := ifG hF
      refine r_aald (k := v3.toNatClampNeg) K hw (sh_a21 (Nat.le_trans (Nat.le_of_ble_eq_true rfl) hn)) (rfl : (TYS cA)[1]? = some (cA 1, _)) rfl (inB_vp g_14) d_Main_taken_62 ?_
      refine r_get (v := .int (s0.1 (27 + v3.toNatClampNeg) 4)) K hw i_Arm (sh_Arm (P_Arm_of g_14) (Nat.le_trans (Nat.le_of_ble_eq_true rfl) hn)) rfl 4 (by decide) w_155 rfl rfl rfl d_Main_taken_63 ?_
      refine lv_if_ne (tgt := 72) hx hb d_Main_taken_66 (by decide) (fun c_15 => ?_) (fun c_15 => ?_)
      · replace hF := ifT hF c_15
        exact q_Main_taken_72 hn s0 K _ _ _ _ _ _  hw (lv_sub hl [1, 2, 3, 0] rfl) hF
      · replace hF := ifN hF c_15
        refine lv_bipush (v := -11) hx hb d_Main_taken_69 (by decide) ?_
        replace hF := sE1 hF
        subst hF
        exact r_iret K hw d_Main_taken_71
noncomputable def F_Main_taken_0 (s0 : St) (v1 : Int32) (v2 : Int32) : Option Int32 := (if ¬ (F_Main_isWithin v2 (0 : Int32) (6 : Int32)) = 0 then (if ¬ (F_Main_isWithin v1 (0 : Int32) (11 : Int32)) = 0 then (if v1 < (6 : Int32) then (F_Main_taken_42 s0 v2 (jrem v1 (6 : Int32)) (0 : Int32)) else (F_Main_taken_42 s0 v2 (jrem v1 (6 : Int32)) (1 : Int32))) else (some (-12 : Int32))) else (some (-2 : Int32)))
set_option maxHeartbeats 4000000 in
set_option maxRecDepth 100000 in
theorem q_Main_taken_0 (hn : 33 ≤ nC) (s0 : St) (K : Fx p s m args meth c b_Main_taken 5 R_Main (some .int))  : ∀ (H : Heap) (locs : List Loc) (ls : Array Slot) (v1 : Int32) (v2 : Int32), Wh D cA ad (shC.take nC) A s s0 H locs → lv_has ls 5 [(0, .ref (ad 20)), (1, .int v1), (2, .int v2)] → F_Main_taken_0 s0 v1 v2 = (some r) → W p l e rm_Main_taken s m args below meth c H locs 0 0 (MQ below (QcI D cA ad (shC.take nC) A r s0) args s 0 0 A) (F0 m 0 ls []) := by
  have hx := K.1.1; have hb := K.1.2.1
  intro H locs ls v1 v2 hw hl hF
  unfold F_Main_taken_0 at hF
  refine lv_iload_n hx hb d_Main_taken_0 rfl (lv_at hl 2 rfl) ?_
  refine lv_iconst (v := 0) hx hb d_Main_taken_1 (by decide) ?_
  refine lv_bipush (v := 6) hx hb d_Main_taken_2 (by decide) ?_
  refine r_callSI (As := [.int v2, .int (0 : Int32), .int (6 : Int32)]) (rest := []) K hw hl.1 (c_Main_isWithin (l := l) (D := D) (cA := cA) (ad := ad) (s0 := s0) (Nat.le_trans (Nat.le_of_ble_eq_true rfl) hn)  rfl) (tb_gS w_640 w_347 w_63 w_348) a_Main_isWithin ⟨rfl, rfl, Nat.le_of_ble_eq_true rfl, Nat.le_of_ble_eq_true rfl⟩ rfl rfl (Nat.le_of_ble_eq_true rfl) d_Main_taken_4 (fun H locs hw => ?_)
  refine lv_if_ne (tgt := 13) hx hb d_Main_taken_7 (by decide) (fun c_1 => ?_) (fun c_1 => ?_)
  · replace hF := ifT hF c_1
    refine lv_iload_n hx hb d_Main_taken_13 rfl (lv_at hl 1 rfl) ?_
    refine lv_iconst (v := 0) hx hb d_Main_taken_14 (by decide) ?_
    refine lv_bipush (v := 11) hx hb d_Main_taken_15 (by decide) ?_
    refine r_callSI (As := [.int v1, .int (0 : Int32), .int (11 : Int32)]) (rest := []) K hw hl.1 (c_Main_isWithin (l := l) (D := D) (cA := cA) (ad := ad) (s0 := s0) (Nat.le_trans (Nat.le_of_ble_eq_true rfl) hn)  rfl) (tb_gS w_640 w_347 w_63 w_348) a_Main_isWithin ⟨rfl, rfl, Nat.le_of_ble_eq_true rfl, Nat.le_of_ble_eq_true rfl⟩ rfl rfl (Nat.le_of_ble_eq_true rfl) d_Main_taken_17 (fun H locs hw => ?_)
    refine lv_if_ne (tgt := 26) hx hb d_Main_taken_20 (by decide) (fun c_2 => ?_) (fun c_2 => ?_)
    · replace hF := ifT hF c_2
      refine lv_iload_n hx hb d_Main_taken_26 rfl (lv_at hl 1 rfl) ?_
      refine lv_bipush (v := 6) hx hb d_Main_taken_27 (by decide) ?_
      refine lv_irem hx hb d_Main_taken_29 (by decide) ?_
      refine lv_istore_n (lv' := [(3, .int (jrem v1 (6 : Int32))), (0, .ref (ad 20)), (1, .int v1), (2, .int v2)]) hx hb d_Main_taken_30 rfl hl (by decide) rfl (fun ls hl => ?_)
      refine lv_iload_n hx hb d_Main_taken_31 rfl (lv_at hl 2 rfl) ?_
      refine lv_bipush (v := 6) hx hb d_Main_taken_32 (by decide) ?_
      refine lv_icmp_lt (tgt := 41) hx hb d_Main_taken_34 (by decide) (fun c_3 => ?_) (fun c_3 => ?_)
      · replace hF := ifT hF c_3
        refine lv_iconst (v := 0) hx hb d_Main_taken_41 (by decide) ?_
        exact q_Main_taken_42 hn s0 K _ _ _ _ _ _  hw (lv_sub hl [1, 3, 0] rfl) hF
      · replace hF := ifF hF c_3
        refine lv_iconst (v := 1) hx hb d_Main_taken_37 (by decide) ?_
        refine lv_goto (tgt := 42) hx hb d_Main_taken_38 (by decide) ?_
        exact q_Main_taken_42 hn s0 K _ _ _ _ _ _  hw (lv_sub hl [1, 3, 0] rfl) hF
    · replace hF := ifN hF c_2
      refine lv_bipush (v := -12) hx hb d_Main_taken_23 (by decide) ?_
      replace hF := sE1 hF
      subst hF
      exact r_iret K hw d_Main_taken_25
  · replace hF := ifN hF c_1
    refine lv_bipush (v := -2) hx hb d_Main_taken_10 (by decide) ?_
    replace hF := sE1 hF
    subst hF
    exact r_iret K hw d_Main_taken_12
end S_Main_taken
noncomputable abbrev F_Main_taken := F_Main_taken_0
theorem c_Main_taken {l : Launch} {D : va_G} {cA : Nat → ClassId} {ad : Nat → Nat} {s0 : St} {nC : Nat} (hn : 33 ≤ nC) {r : Int32} {v1 : Int32} {v2 : Int32}  (hF : F_Main_taken s0 v1 v2 = (some r)) : MI l D cA ad (shC.take nC) y_Main_taken (wT y_Main_taken b_Main_taken 5 (some .int)) rm_Main_taken [.ref (ad 20), .int v1, .int v2] s0 r s0 := fun sz => m_start (Qc := fun A => QcI D cA ad (shC.take nC) A r s0) (by decide +kernel) w_970 (Nat.le_of_ble_eq_true rfl) (fun p e s m below meth c ls K hl hw => q_Main_taken_0 hn s0 K _ _ _ _ _  hw hl hF)
