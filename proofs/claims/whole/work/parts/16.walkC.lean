/-! Bout.playTo(I)V -/
abbrev b_Bout_playTo : ByteArray := prog_3_method_4_code
def y_Bout_playTo : MethodName := ⟨R_Bout, "playTo", "(I)V"⟩
theorem a_Bout_playTo : y_Bout_playTo.cls = R_Bout ∧ y_Bout_playTo.cls ≠ "java/lang/invoke/MethodHandle" ∧ y_Bout_playTo.cls ≠ "java/lang/invoke/VarHandle" ∧ (parseMethodDescriptor y_Bout_playTo.desc).map (fun d => d.parameters.length) = some 1 := by decide +kernel
abbrev rm_Bout_playTo : Room := { frames := 4, cells := 0, slots := 0, locals := 93 }
theorem w_741 : Cond.methodLink R_Bout 44 y_Bout_isOver ∈ TB := tb_in 741 (by decide +kernel) (by decide +kernel)
theorem w_742 : Cond.instanceMethod y_Bout_isOver ∈ TB := tb_in 742 (by decide +kernel) (by decide +kernel)
theorem w_743 : Cond.selects R_Bout y_Bout_isOver y_Bout_isOver ∈ TB := tb_in 743 (by decide +kernel) (by decide +kernel)
theorem w_745 : Cond.methodLink R_Bout 48 y_Side_hardAt ∈ TB := tb_in 745 (by decide +kernel) (by decide +kernel)
theorem w_746 : Cond.instanceMethod y_Side_hardAt ∈ TB := tb_in 746 (by decide +kernel) (by decide +kernel)
theorem w_747 : Cond.selects R_Side y_Side_hardAt y_Side_hardAt ∈ TB := tb_in 747 (by decide +kernel) (by decide +kernel)
theorem w_749 : Cond.methodLink R_Bout 52 y_Side_looks ∈ TB := tb_in 749 (by decide +kernel) (by decide +kernel)
theorem w_750 : Cond.methodLink R_Bout 56 y_Side_presses ∈ TB := tb_in 750 (by decide +kernel) (by decide +kernel)
theorem w_751 : Cond.instanceMethod y_Side_presses ∈ TB := tb_in 751 (by decide +kernel) (by decide +kernel)
theorem w_752 : Cond.selects R_Side y_Side_presses y_Side_presses ∈ TB := tb_in 752 (by decide +kernel) (by decide +kernel)
theorem w_762 : Cond.methodLink R_Bout 76 y_Side_tires ∈ TB := tb_in 762 (by decide +kernel) (by decide +kernel)
theorem w_763 : Cond.instanceMethod y_Side_tires ∈ TB := tb_in 763 (by decide +kernel) (by decide +kernel)
theorem w_764 : Cond.selects R_Side y_Side_tires y_Side_tires ∈ TB := tb_in 764 (by decide +kernel) (by decide +kernel)
theorem w_509 : Cond.fieldLink R_Bout 60 R_Side "names" "[I" ∈ TB := tb_in 509 (by decide +kernel) (by decide +kernel)
theorem w_760 : Cond.methodLink R_Bout 64 y_Text_says ∈ TB := tb_in 760 (by decide +kernel) (by decide +kernel)
theorem w_761 : Cond.methodLink R_Bout 70 Lib.Math.max.name ∈ TB := tb_in 761 (by decide +kernel) (by decide +kernel)
theorem w_740 : Cond.code y_Bout_playTo b_Bout_playTo 4 none ∈ TB := tb_in 740 (by decide +kernel) (by decide +kernel)
theorem nw_771 : Cond.methodLinkNest R_Bout 80 y_Main_bounded R_Main ∈ NWS := List.mem_of_getElem? (i := 10) (by decide +kernel)
theorem d_Bout_playTo_0 : decode b_Bout_playTo 0 = .ok (.aload_n 0, 1) := by decide +kernel
theorem d_Bout_playTo_1 : decode b_Bout_playTo 1 = .ok (.getfield 34, 3) := by decide +kernel
theorem d_Bout_playTo_4 : decode b_Bout_playTo 4 = .ok (.istore_n 2, 1) := by decide +kernel
theorem d_Bout_playTo_5 : decode b_Bout_playTo 5 = .ok (.iload_n 2, 1) := by decide +kernel
theorem d_Bout_playTo_6 : decode b_Bout_playTo 6 = .ok (.iload_n 1, 1) := by decide +kernel
theorem d_Bout_playTo_7 : decode b_Bout_playTo 7 = .ok (.if_icmp .ge 169, 3) := by decide +kernel
theorem d_Bout_playTo_10 : decode b_Bout_playTo 10 = .ok (.iload_n 2, 1) := by decide +kernel
theorem d_Bout_playTo_11 : decode b_Bout_playTo 11 = .ok (.bipush 40, 2) := by decide +kernel
theorem d_Bout_playTo_13 : decode b_Bout_playTo 13 = .ok (.if_icmp .ge 163, 3) := by decide +kernel
theorem d_Bout_playTo_16 : decode b_Bout_playTo 16 = .ok (.aload_n 0, 1) := by decide +kernel
theorem d_Bout_playTo_17 : decode b_Bout_playTo 17 = .ok (.invokevirtual 44, 3) := by decide +kernel
theorem d_Bout_playTo_20 : decode b_Bout_playTo 20 = .ok (.ifCond .ne 156, 3) := by decide +kernel
theorem d_Bout_playTo_23 : decode b_Bout_playTo 23 = .ok (.aload_n 0, 1) := by decide +kernel
theorem d_Bout_playTo_24 : decode b_Bout_playTo 24 = .ok (.getfield 14, 3) := by decide +kernel
theorem d_Bout_playTo_27 : decode b_Bout_playTo 27 = .ok (.aload_n 0, 1) := by decide +kernel
theorem d_Bout_playTo_28 : decode b_Bout_playTo 28 = .ok (.getfield 14, 3) := by decide +kernel
theorem d_Bout_playTo_31 : decode b_Bout_playTo 31 = .ok (.iload_n 2, 1) := by decide +kernel
theorem d_Bout_playTo_32 : decode b_Bout_playTo 32 = .ok (.invokevirtual 48, 3) := by decide +kernel
theorem d_Bout_playTo_35 : decode b_Bout_playTo 35 = .ok (.aload_n 0, 1) := by decide +kernel
theorem d_Bout_playTo_36 : decode b_Bout_playTo 36 = .ok (.getfield 30, 3) := by decide +kernel
theorem d_Bout_playTo_39 : decode b_Bout_playTo 39 = .ok (.iload_n 2, 1) := by decide +kernel
theorem d_Bout_playTo_40 : decode b_Bout_playTo 40 = .ok (.invokevirtual 52, 3) := by decide +kernel
theorem d_Bout_playTo_43 : decode b_Bout_playTo 43 = .ok (.aload_n 0, 1) := by decide +kernel
theorem d_Bout_playTo_44 : decode b_Bout_playTo 44 = .ok (.getfield 20, 3) := by decide +kernel
theorem d_Bout_playTo_47 : decode b_Bout_playTo 47 = .ok (.aload_n 0, 1) := by decide +kernel
theorem d_Bout_playTo_48 : decode b_Bout_playTo 48 = .ok (.getfield 20, 3) := by decide +kernel
theorem d_Bout_playTo_51 : decode b_Bout_playTo 51 = .ok (.iload_n 2, 1) := by decide +kernel
theorem d_Bout_playTo_52 : decode b_Bout_playTo 52 = .ok (.invokevirtual 48, 3) := by decide +kernel
theorem d_Bout_playTo_55 : decode b_Bout_playTo 55 = .ok (.aload_n 0, 1) := by decide +kernel
theorem d_Bout_playTo_56 : decode b_Bout_playTo 56 = .ok (.getfield 30, 3) := by decide +kernel
theorem d_Bout_playTo_59 : decode b_Bout_playTo 59 = .ok (.ineg, 1) := by decide +kernel
theorem d_Bout_playTo_60 : decode b_Bout_playTo 60 = .ok (.iload_n 2, 1) := by decide +kernel
theorem d_Bout_playTo_61 : decode b_Bout_playTo 61 = .ok (.invokevirtual 52, 3) := by decide +kernel
theorem d_Bout_playTo_64 : decode b_Bout_playTo 64 = .ok (.aload_n 0, 1) := by decide +kernel
theorem d_Bout_playTo_65 : decode b_Bout_playTo 65 = .ok (.getfield 14, 3) := by decide +kernel
theorem d_Bout_playTo_68 : decode b_Bout_playTo 68 = .ok (.aload_n 0, 1) := by decide +kernel
theorem d_Bout_playTo_69 : decode b_Bout_playTo 69 = .ok (.getfield 23, 3) := by decide +kernel
theorem d_Bout_playTo_72 : decode b_Bout_playTo 72 = .ok (.invokevirtual 56, 3) := by decide +kernel
theorem d_Bout_playTo_75 : decode b_Bout_playTo 75 = .ok (.aload_n 0, 1) := by decide +kernel
theorem d_Bout_playTo_76 : decode b_Bout_playTo 76 = .ok (.getfield 20, 3) := by decide +kernel
theorem d_Bout_playTo_79 : decode b_Bout_playTo 79 = .ok (.aload_n 0, 1) := by decide +kernel
theorem d_Bout_playTo_80 : decode b_Bout_playTo 80 = .ok (.getfield 23, 3) := by decide +kernel
theorem d_Bout_playTo_83 : decode b_Bout_playTo 83 = .ok (.invokevirtual 56, 3) := by decide +kernel
theorem d_Bout_playTo_86 : decode b_Bout_playTo 86 = .ok (.isub, 1) := by decide +kernel
theorem d_Bout_playTo_87 : decode b_Bout_playTo 87 = .ok (.bipush 10, 2) := by decide +kernel
theorem d_Bout_playTo_89 : decode b_Bout_playTo 89 = .ok (.idiv, 1) := by decide +kernel
theorem d_Bout_playTo_90 : decode b_Bout_playTo 90 = .ok (.istore_n 3, 1) := by decide +kernel
theorem d_Bout_playTo_91 : decode b_Bout_playTo 91 = .ok (.aload_n 0, 1) := by decide +kernel
theorem d_Bout_playTo_92 : decode b_Bout_playTo 92 = .ok (.getfield 40, 3) := by decide +kernel
theorem d_Bout_playTo_95 : decode b_Bout_playTo 95 = .ok (.ifCond .eq 29, 3) := by decide +kernel
theorem d_Bout_playTo_98 : decode b_Bout_playTo 98 = .ok (.aload_n 0, 1) := by decide +kernel
theorem d_Bout_playTo_99 : decode b_Bout_playTo 99 = .ok (.aload_n 0, 1) := by decide +kernel
theorem d_Bout_playTo_100 : decode b_Bout_playTo 100 = .ok (.getfield 37, 3) := by decide +kernel
theorem d_Bout_playTo_103 : decode b_Bout_playTo 103 = .ok (.aload_n 0, 1) := by decide +kernel
theorem d_Bout_playTo_104 : decode b_Bout_playTo 104 = .ok (.getfield 23, 3) := by decide +kernel
theorem d_Bout_playTo_107 : decode b_Bout_playTo 107 = .ok (.iconst 2, 1) := by decide +kernel
theorem d_Bout_playTo_108 : decode b_Bout_playTo 108 = .ok (.aload_n 0, 1) := by decide +kernel
theorem d_Bout_playTo_109 : decode b_Bout_playTo 109 = .ok (.getfield 14, 3) := by decide +kernel
theorem d_Bout_playTo_112 : decode b_Bout_playTo 112 = .ok (.getfield 60, 3) := by decide +kernel
theorem d_Bout_playTo_115 : decode b_Bout_playTo 115 = .ok (.invokevirtual 64, 3) := by decide +kernel
theorem d_Bout_playTo_118 : decode b_Bout_playTo 118 = .ok (.invokestatic 70, 3) := by decide +kernel
theorem d_Bout_playTo_121 : decode b_Bout_playTo 121 = .ok (.putfield 37, 3) := by decide +kernel
theorem d_Bout_playTo_124 : decode b_Bout_playTo 124 = .ok (.aload_n 0, 1) := by decide +kernel
theorem d_Bout_playTo_125 : decode b_Bout_playTo 125 = .ok (.getfield 14, 3) := by decide +kernel
theorem d_Bout_playTo_128 : decode b_Bout_playTo 128 = .ok (.aload_n 0, 1) := by decide +kernel
theorem d_Bout_playTo_129 : decode b_Bout_playTo 129 = .ok (.getfield 23, 3) := by decide +kernel
theorem d_Bout_playTo_132 : decode b_Bout_playTo 132 = .ok (.invokevirtual 76, 3) := by decide +kernel
theorem d_Bout_playTo_135 : decode b_Bout_playTo 135 = .ok (.aload_n 0, 1) := by decide +kernel
theorem d_Bout_playTo_136 : decode b_Bout_playTo 136 = .ok (.getfield 20, 3) := by decide +kernel
theorem d_Bout_playTo_139 : decode b_Bout_playTo 139 = .ok (.aload_n 0, 1) := by decide +kernel
theorem d_Bout_playTo_140 : decode b_Bout_playTo 140 = .ok (.getfield 23, 3) := by decide +kernel
theorem d_Bout_playTo_143 : decode b_Bout_playTo 143 = .ok (.invokevirtual 76, 3) := by decide +kernel
theorem d_Bout_playTo_146 : decode b_Bout_playTo 146 = .ok (.aload_n 0, 1) := by decide +kernel
theorem d_Bout_playTo_147 : decode b_Bout_playTo 147 = .ok (.aload_n 0, 1) := by decide +kernel
theorem d_Bout_playTo_148 : decode b_Bout_playTo 148 = .ok (.getfield 30, 3) := by decide +kernel
theorem d_Bout_playTo_151 : decode b_Bout_playTo 151 = .ok (.iload_n 3, 1) := by decide +kernel
theorem d_Bout_playTo_152 : decode b_Bout_playTo 152 = .ok (.iadd, 1) := by decide +kernel
theorem d_Bout_playTo_153 : decode b_Bout_playTo 153 = .ok (.bipush (-30), 2) := by decide +kernel
theorem d_Bout_playTo_155 : decode b_Bout_playTo 155 = .ok (.bipush 30, 2) := by decide +kernel
theorem d_Bout_playTo_157 : decode b_Bout_playTo 157 = .ok (.invokestatic 80, 3) := by decide +kernel
theorem d_Bout_playTo_160 : decode b_Bout_playTo 160 = .ok (.putfield 30, 3) := by decide +kernel
theorem d_Bout_playTo_163 : decode b_Bout_playTo 163 = .ok (.aload_n 0, 1) := by decide +kernel
theorem d_Bout_playTo_164 : decode b_Bout_playTo 164 = .ok (.iload_n 2, 1) := by decide +kernel
theorem d_Bout_playTo_165 : decode b_Bout_playTo 165 = .ok (.iconst 1, 1) := by decide +kernel
theorem d_Bout_playTo_166 : decode b_Bout_playTo 166 = .ok (.iadd, 1) := by decide +kernel
theorem d_Bout_playTo_167 : decode b_Bout_playTo 167 = .ok (.putfield 34, 3) := by decide +kernel
theorem d_Bout_playTo_170 : decode b_Bout_playTo 170 = .ok (.iinc 2 1, 3) := by decide +kernel
theorem d_Bout_playTo_173 : decode b_Bout_playTo 173 = .ok (.goto (-168), 3) := by decide +kernel
theorem d_Bout_playTo_176 : decode b_Bout_playTo 176 = .ok (.return_, 1) := by decide +kernel
section S_Bout_playTo
variable {p : Program} {l : Launch} {e : Env} {s : State} {m : MethodId} {args : Array Value} {below : List Frame} {meth : Method} {c : Code} {D : va_G} {cA : Nat → ClassId} {ad : Nat → Nat} {nC : Nat} {A : Nat → Prop} {τ : St}
noncomputable def F_Bout_playTo_124 (k3 : (St → Int32 → Int32 → Option St)) (s0 : St) (v1 : Int32) (v2 : Int32) (v3 : Int32) : Option St := (if P_Text (s0.2 41 2) then (ob1 (F_Side_tires s0 42 (s0.2 41 2)) (fun s_14 => (if P_Text (s_14.2 41 2) then (ob1 (F_Side_tires s_14 44 (s_14.2 41 2)) (fun s_16 => (lt (up1 s_16 41 3 (F_Main_bounded ((s_16.1 41 3) + v3) (-30 : Int32) (30 : Int32))) (fun s_17 => (lt (up1 s_17 41 4 (v2 + (1 : Int32))) (fun s_18 => (k3 s_18 v1 (v2 + 1)))))))) else none))) else none)
set_option maxHeartbeats 4000000 in
set_option maxRecDepth 100000 in
theorem q_Bout_playTo_124 (hn : 46 ≤ nC) (K : Fx p s m args meth c b_Bout_playTo 4 R_Bout none) (k3 : (St → Int32 → Int32 → Option St)) (hk3 : ∀ (H : Heap) (locs : List Loc) (ls : Array Slot) (s0 : St) (v1 : Int32) (v2 : Int32), Wh D cA ad (shC.take nC) A s s0 H locs → lv_has ls 4 [(0, .ref (ad 41)), (1, .int v1), (2, .int v2)] → k3 s0 v1 v2 = (some τ) → W p l e rm_Bout_playTo s m args below meth c H locs 0 0 (MQ below (QcV D cA ad (shC.take nC) A τ) args s 0 0 A) (F0 m 5 ls [])) : ∀ (H : Heap) (locs : List Loc) (ls : Array Slot) (s0 : St) (v1 : Int32) (v2 : Int32) (v3 : Int32), Wh D cA ad (shC.take nC) A s s0 H locs → lv_has ls 4 [(0, .ref (ad 41)), (1, .int v1), (2, .int v2), (3, .int v3)] → F_Bout_playTo_124 k3 s0 v1 v2 v3 = (some τ) → W p l e rm_Bout_playTo s m args below meth c H locs 0 0 (MQ below (QcV D cA ad (shC.take nC) A τ) args s 0 0 A) (F0 m 124 ls []) := by
  have hx := K.1.1; have hb := K.1.2.1
  intro H locs ls s0 v1 v2 v3 hw hl hF
  unfold F_Bout_playTo_124 at hF
  refine lv_aload_n hx hb d_Bout_playTo_124 rfl (lv_at hl 0 rfl) ?_
  refine r_get (v := .ref (ad 42)) K hw i_Bout (sh_Bout (Nat.le_trans (Nat.le_of_ble_eq_true rfl) hn)) rfl 0 (by decide) w_530 rfl rfl rfl d_Bout_playTo_125 ?_
  refine lv_aload_n hx hb d_Bout_playTo_128 rfl (lv_at hl 0 rfl) ?_
  obtain ⟨g_13, hF⟩ := ifG hF
  refine r_get (v := .ref (ad (s0.2 41 2))) K hw i_Bout (sh_Bout (Nat.le_trans (Nat.le_of_ble_eq_true rfl) hn)) rfl 2 (by decide) w_536 rfl rfl rfl d_Bout_playTo_129 ?_
  obtain ⟨s_14, h_s_14, hF⟩ := ob1E hF
  refine r_callVV (As := [.ref (ad (s0.2 41 2))]) (rest := []) K hw hl.1 (c_Side_tires (l := l) (D := D) (cA := cA) (ad := ad) (s0 := s0) (Nat.le_trans (Nat.le_of_ble_eq_true rfl) hn) (by decide) g_13 h_s_14) (sh_Side (by decide) (Nat.le_trans (Nat.le_of_ble_eq_true rfl) hn)) rfl (tb_gV w_762 w_763 w_764 w_78 w_765) a_Side_tires ⟨rfl, rfl, Nat.le_of_ble_eq_true rfl, Nat.le_of_ble_eq_true rfl⟩ rfl rfl (Nat.le_of_ble_eq_true rfl) d_Bout_playTo_132 (fun H locs hw => ?_)
  refine lv_aload_n hx hb d_Bout_playTo_135 rfl (lv_at hl 0 rfl) ?_
  refine r_get (v := .ref (ad 44)) K hw i_Bout (sh_Bout (Nat.le_trans (Nat.le_of_ble_eq_true rfl) hn)) rfl 1 (by decide) w_533 rfl rfl rfl d_Bout_playTo_136 ?_
  refine lv_aload_n hx hb d_Bout_playTo_139 rfl (lv_at hl 0 rfl) ?_
  obtain ⟨g_15, hF⟩ := ifG hF
  refine r_get (v := .ref (ad (s_14.2 41 2))) K hw i_Bout (sh_Bout (Nat.le_trans (Nat.le_of_ble_eq_true rfl) hn)) rfl 2 (by decide) w_536 rfl rfl rfl d_Bout_playTo_140 ?_
  obtain ⟨s_16, h_s_16, hF⟩ := ob1E hF
  refine r_callVV (As := [.ref (ad (s_14.2 41 2))]) (rest := []) K hw hl.1 (c_Side_tires (l := l) (D := D) (cA := cA) (ad := ad) (s0 := s_14) (Nat.le_trans (Nat.le_of_ble_eq_true rfl) hn) (by decide) g_15 h_s_16) (sh_Side (by decide) (Nat.le_trans (Nat.le_of_ble_eq_true rfl) hn)) rfl (tb_gV w_762 w_763 w_764 w_78 w_765) a_Side_tires ⟨rfl, rfl, Nat.le_of_ble_eq_true rfl, Nat.le_of_ble_eq_true rfl⟩ rfl rfl (Nat.le_of_ble_eq_true rfl) d_Bout_playTo_143 (fun H locs hw => ?_)
  refine lv_aload_n hx hb d_Bout_playTo_146 rfl (lv_at hl 0 rfl) ?_
  refine lv_aload_n hx hb d_Bout_playTo_147 rfl (lv_at hl 0 rfl) ?_
  refine r_get (v := .int (s_16.1 41 3)) K hw i_Bout (sh_Bout (Nat.le_trans (Nat.le_of_ble_eq_true rfl) hn)) rfl 3 (by decide) w_538 rfl rfl rfl d_Bout_playTo_148 ?_
  refine lv_iload_n hx hb d_Bout_playTo_151 rfl (lv_at hl 3 rfl) ?_
  refine lv_iadd hx hb d_Bout_playTo_152 ?_
  refine lv_bipush (v := -30) hx hb d_Bout_playTo_153 (by decide) ?_
  refine lv_bipush (v := 30) hx hb d_Bout_playTo_155 (by decide) ?_
  refine r_callNI (As := [.int ((s_16.1 41 3) + v3), .int (-30 : Int32), .int (30 : Int32)]) (rest := [.ref (ad 41)]) K hw hl.1 (c_Main_bounded (l := l) (D := D) (cA := cA) (ad := ad) (s0 := s_16) (Nat.le_trans (Nat.le_of_ble_eq_true rfl) hn)  rfl) (nw_771) w_683 w_63 w_684 a_Main_bounded.2 ⟨rfl, rfl, Nat.le_of_ble_eq_true rfl, Nat.le_of_ble_eq_true rfl⟩ rfl rfl (Nat.le_of_ble_eq_true rfl) d_Bout_playTo_157 (fun H locs hw => ?_)
  refine r_putI K hw i_Bout t_Bout t_Bout_ok n_Bout (sh_Bout (Nat.le_trans (Nat.le_of_ble_eq_true rfl) hn)) rfl 3 (by decide) w_538 rfl rfl rfl rfl rfl d_Bout_playTo_160 (fun s_17 f_s_17 H locs hw => ?_)
  replace hF := ltN hF f_s_17
  refine lv_aload_n hx hb d_Bout_playTo_163 rfl (lv_at hl 0 rfl) ?_
  refine lv_iload_n hx hb d_Bout_playTo_164 rfl (lv_at hl 2 rfl) ?_
  refine lv_iconst (v := 1) hx hb d_Bout_playTo_165 (by decide) ?_
  refine lv_iadd hx hb d_Bout_playTo_166 ?_
  refine r_putI K hw i_Bout t_Bout t_Bout_ok n_Bout (sh_Bout (Nat.le_trans (Nat.le_of_ble_eq_true rfl) hn)) rfl 4 (by decide) w_541 rfl rfl rfl rfl rfl d_Bout_playTo_167 (fun s_18 f_s_18 H locs hw => ?_)
  replace hF := ltN hF f_s_18
  refine lv_iinc (v := (v2 + 1)) (lv' := [(2, .int (v2 + 1)), (0, .ref (ad 41)), (1, .int v1), (3, .int v3)]) hx hb d_Bout_playTo_170 hl (k := 2) rfl rfl (by decide) rfl (fun ls hl => ?_)
  refine lv_goto (tgt := 5) hx hb d_Bout_playTo_173 (by decide) ?_
  exact hk3 _ _ _ _ _ _  hw (lv_sub hl [1, 2, 0] rfl) hF
noncomputable def F_Bout_playTo_5 : Nat → St → Int32 → Int32 → Option St
  | 0, _, _, _ => none
  | n + 1, s0, v1, v2 => (if v1 ≤ v2 then (some s0) else (if (40 : Int32) ≤ v2 then (some s0) else (if ¬ (F_Bout_isOver s0 ) = 0 then (some s0) else (lt (F_Side_looks s0 42 (F_Side_hardAt s0 42 v2) (s0.1 41 3) v2) (fun s_4 => (lt (F_Side_looks s_4 44 (F_Side_hardAt s_4 44 v2) (-(s_4.1 41 3)) v2) (fun s_5 => (if P_Text (s_5.2 41 2) then (ob2 (F_Side_presses s_5 42 (s_5.2 41 2)) (fun r_7 s_8 => (if P_Text (s_8.2 41 2) then (ob2 (F_Side_presses s_8 44 (s_8.2 41 2)) (fun r_10 s_11 => (if (s_11.1 41 6) = 0 then (F_Bout_playTo_124 (fun z0 zv1 zv2 => F_Bout_playTo_5 n z0 zv1 zv2) s_11 v1 v2 ((r_7 - r_10) / (10 : Int32))) else (if P_Text (s_11.2 41 2) then (ob2 (F_Text_says s_11 (s_11.2 41 2) (2 : Int32) 43) (fun r_20 s_21 => (lt (up1 s_21 41 5 (if (s_11.1 41 5) < r_20 then r_20 else (s_11.1 41 5))) (fun s_22 => (F_Bout_playTo_124 (fun z0 zv1 zv2 => F_Bout_playTo_5 n z0 zv1 zv2) s_22 v1 v2 ((r_7 - r_10) / (10 : Int32))))))) else none)))) else none))) else none))))))))
set_option maxHeartbeats 4000000 in
set_option maxRecDepth 100000 in
theorem q_Bout_playTo_5 (hn : 46 ≤ nC) (K : Fx p s m args meth c b_Bout_playTo 4 R_Bout none)  : ∀ (n : Nat), ∀ (H : Heap) (locs : List Loc) (ls : Array Slot) (s0 : St) (v1 : Int32) (v2 : Int32), Wh D cA ad (shC.take nC) A s s0 H locs → lv_has ls 4 [(0, .ref (ad 41)), (1, .int v1), (2, .int v2)] → F_Bout_playTo_5 n s0 v1 v2 = (some τ) → W p l e rm_Bout_playTo s m args below meth c H locs 0 0 (MQ below (QcV D cA ad (shC.take nC) A τ) args s 0 0 A) (F0 m 5 ls []) := by
  have hx := K.1.1; have hb := K.1.2.1
  intro n
  induction n with
  | zero =>
    intro H locs ls s0 v1 v2 hw hl hF
    exact absurd hF (by rw [F_Bout_playTo_5]; exact nofun)
  | succ n ih =>
    intro H locs ls s0 v1 v2 hw hl hF
    rw [F_Bout_playTo_5] at hF
    refine lv_iload_n hx hb d_Bout_playTo_5 rfl (lv_at hl 2 rfl) ?_
    refine lv_iload_n hx hb d_Bout_playTo_6 rfl (lv_at hl 1 rfl) ?_
    refine lv_icmp_ge (tgt := 176) hx hb d_Bout_playTo_7 (by decide) (fun c_1 => ?_) (fun c_1 => ?_)
    · replace hF := ifT hF c_1
      replace hF := sE1 hF
      subst hF
      exact r_vret K hw d_Bout_playTo_176
    · replace hF := ifF hF c_1
      refine lv_iload_n hx hb d_Bout_playTo_10 rfl (lv_at hl 2 rfl) ?_
      refine lv_bipush (v := 40) hx hb d_Bout_playTo_11 (by decide) ?_
      refine lv_icmp_ge (tgt := 176) hx hb d_Bout_playTo_13 (by decide) (fun c_2 => ?_) (fun c_2 => ?_)
      · replace hF := ifT hF c_2
        replace hF := sE1 hF
        subst hF
        exact r_vret K hw d_Bout_playTo_176
      · replace hF := ifF hF c_2
        refine lv_aload_n hx hb d_Bout_playTo_16 rfl (lv_at hl 0 rfl) ?_
        refine r_callVI (As := []) (rest := []) K hw hl.1 (c_Bout_isOver (l := l) (D := D) (cA := cA) (ad := ad) (s0 := s0) (Nat.le_trans (Nat.le_of_ble_eq_true rfl) hn)  rfl) (sh_Bout (Nat.le_trans (Nat.le_of_ble_eq_true rfl) hn)) rfl (tb_gV w_741 w_742 w_743 w_77 w_744) a_Bout_isOver ⟨rfl, rfl, Nat.le_of_ble_eq_true rfl, Nat.le_of_ble_eq_true rfl⟩ rfl rfl (Nat.le_of_ble_eq_true rfl) d_Bout_playTo_17 (fun H locs hw => ?_)
        refine lv_if_ne (tgt := 176) hx hb d_Bout_playTo_20 (by decide) (fun c_3 => ?_) (fun c_3 => ?_)
        · replace hF := ifT hF c_3
          replace hF := sE1 hF
          subst hF
          exact r_vret K hw d_Bout_playTo_176
        · replace hF := ifN hF c_3
          refine lv_aload_n hx hb d_Bout_playTo_23 rfl (lv_at hl 0 rfl) ?_
          refine r_get (v := .ref (ad 42)) K hw i_Bout (sh_Bout (Nat.le_trans (Nat.le_of_ble_eq_true rfl) hn)) rfl 0 (by decide) w_530 rfl rfl rfl d_Bout_playTo_24 ?_
          refine lv_aload_n hx hb d_Bout_playTo_27 rfl (lv_at hl 0 rfl) ?_
          refine r_get (v := .ref (ad 42)) K hw i_Bout (sh_Bout (Nat.le_trans (Nat.le_of_ble_eq_true rfl) hn)) rfl 0 (by decide) w_530 rfl rfl rfl d_Bout_playTo_28 ?_
          refine lv_iload_n hx hb d_Bout_playTo_31 rfl (lv_at hl 2 rfl) ?_
          refine r_callVI (As := [.int v2]) (rest := [.ref (ad 42)]) K hw hl.1 (c_Side_hardAt (l := l) (D := D) (cA := cA) (ad := ad) (s0 := s0) (Nat.le_trans (Nat.le_of_ble_eq_true rfl) hn) (by decide) rfl) (sh_Side (by decide) (Nat.le_trans (Nat.le_of_ble_eq_true rfl) hn)) rfl (tb_gV w_745 w_746 w_747 w_78 w_748) a_Side_hardAt ⟨rfl, rfl, Nat.le_of_ble_eq_true rfl, Nat.le_of_ble_eq_true rfl⟩ rfl rfl (Nat.le_of_ble_eq_true rfl) d_Bout_playTo_32 (fun H locs hw => ?_)
          refine lv_aload_n hx hb d_Bout_playTo_35 rfl (lv_at hl 0 rfl) ?_
          refine r_get (v := .int (s0.1 41 3)) K hw i_Bout (sh_Bout (Nat.le_trans (Nat.le_of_ble_eq_true rfl) hn)) rfl 3 (by decide) w_538 rfl rfl rfl d_Bout_playTo_36 ?_
          refine lv_iload_n hx hb d_Bout_playTo_39 rfl (lv_at hl 2 rfl) ?_
          obtain ⟨s_4, e_s_4, hF⟩ := ltE hF
          refine r_callVV (As := [.int (F_Side_hardAt s0 42 v2), .int (s0.1 41 3), .int v2]) (rest := []) K hw hl.1 (c_Side_looks (l := l) (D := D) (cA := cA) (ad := ad) (s0 := s0) (Nat.le_trans (Nat.le_of_ble_eq_true rfl) hn) (by decide) e_s_4.symm) (sh_Side (by decide) (Nat.le_trans (Nat.le_of_ble_eq_true rfl) hn)) rfl (tb_gV w_749 w_665 w_666 w_78 w_667) a_Side_looks ⟨rfl, rfl, Nat.le_of_ble_eq_true rfl, Nat.le_of_ble_eq_true rfl⟩ rfl rfl (Nat.le_of_ble_eq_true rfl) d_Bout_playTo_40 (fun H locs hw => ?_)
          refine lv_aload_n hx hb d_Bout_playTo_43 rfl (lv_at hl 0 rfl) ?_
          refine r_get (v := .ref (ad 44)) K hw i_Bout (sh_Bout (Nat.le_trans (Nat.le_of_ble_eq_true rfl) hn)) rfl 1 (by decide) w_533 rfl rfl rfl d_Bout_playTo_44 ?_
          refine lv_aload_n hx hb d_Bout_playTo_47 rfl (lv_at hl 0 rfl) ?_
          refine r_get (v := .ref (ad 44)) K hw i_Bout (sh_Bout (Nat.le_trans (Nat.le_of_ble_eq_true rfl) hn)) rfl 1 (by decide) w_533 rfl rfl rfl d_Bout_playTo_48 ?_
          refine lv_iload_n hx hb d_Bout_playTo_51 rfl (lv_at hl 2 rfl) ?_
          refine r_callVI (As := [.int v2]) (rest := [.ref (ad 44)]) K hw hl.1 (c_Side_hardAt (l := l) (D := D) (cA := cA) (ad := ad) (s0 := s_4) (Nat.le_trans (Nat.le_of_ble_eq_true rfl) hn) (by decide) rfl) (sh_Side (by decide) (Nat.le_trans (Nat.le_of_ble_eq_true rfl) hn)) rfl (tb_gV w_745 w_746 w_747 w_78 w_748) a_Side_hardAt ⟨rfl, rfl, Nat.le_of_ble_eq_true rfl, Nat.le_of_ble_eq_true rfl⟩ rfl rfl (Nat.le_of_ble_eq_true rfl) d_Bout_playTo_52 (fun H locs hw => ?_)
          refine lv_aload_n hx hb d_Bout_playTo_55 rfl (lv_at hl 0 rfl) ?_
          refine r_get (v := .int (s_4.1 41 3)) K hw i_Bout (sh_Bout (Nat.le_trans (Nat.le_of_ble_eq_true rfl) hn)) rfl 3 (by decide) w_538 rfl rfl rfl d_Bout_playTo_56 ?_
          refine lv_ineg hx hb d_Bout_playTo_59 ?_
          refine lv_iload_n hx hb d_Bout_playTo_60 rfl (lv_at hl 2 rfl) ?_
          obtain ⟨s_5, e_s_5, hF⟩ := ltE hF
          refine r_callVV (As := [.int (F_Side_hardAt s_4 44 v2), .int (-(s_4.1 41 3)), .int v2]) (rest := []) K hw hl.1 (c_Side_looks (l := l) (D := D) (cA := cA) (ad := ad) (s0 := s_4) (Nat.le_trans (Nat.le_of_ble_eq_true rfl) hn) (by decide) e_s_5.symm) (sh_Side (by decide) (Nat.le_trans (Nat.le_of_ble_eq_true rfl) hn)) rfl (tb_gV w_749 w_665 w_666 w_78 w_667) a_Side_looks ⟨rfl, rfl, Nat.le_of_ble_eq_true rfl, Nat.le_of_ble_eq_true rfl⟩ rfl rfl (Nat.le_of_ble_eq_true rfl) d_Bout_playTo_61 (fun H locs hw => ?_)
          refine lv_aload_n hx hb d_Bout_playTo_64 rfl (lv_at hl 0 rfl) ?_
          refine r_get (v := .ref (ad 42)) K hw i_Bout (sh_Bout (Nat.le_trans (Nat.le_of_ble_eq_true rfl) hn)) rfl 0 (by decide) w_530 rfl rfl rfl d_Bout_playTo_65 ?_
          refine lv_aload_n hx hb d_Bout_playTo_68 rfl (lv_at hl 0 rfl) ?_
          obtain ⟨g_6, hF⟩ := ifG hF
          refine r_get (v := .ref (ad (s_5.2 41 2))) K hw i_Bout (sh_Bout (Nat.le_trans (Nat.le_of_ble_eq_true rfl) hn)) rfl 2 (by decide) w_536 rfl rfl rfl d_Bout_playTo_69 ?_
          obtain ⟨r_7, s_8, h_s_8, hF⟩ := ob2E hF
          refine r_callVI (As := [.ref (ad (s_5.2 41 2))]) (rest := []) K hw hl.1 (c_Side_presses (l := l) (D := D) (cA := cA) (ad := ad) (s0 := s_5) (Nat.le_trans (Nat.le_of_ble_eq_true rfl) hn) (by decide) g_6 h_s_8) (sh_Side (by decide) (Nat.le_trans (Nat.le_of_ble_eq_true rfl) hn)) rfl (tb_gV w_750 w_751 w_752 w_78 w_753) a_Side_presses ⟨rfl, rfl, Nat.le_of_ble_eq_true rfl, Nat.le_of_ble_eq_true rfl⟩ rfl rfl (Nat.le_of_ble_eq_true rfl) d_Bout_playTo_72 (fun H locs hw => ?_)
          refine lv_aload_n hx hb d_Bout_playTo_75 rfl (lv_at hl 0 rfl) ?_
          refine r_get (v := .ref (ad 44)) K hw i_Bout (sh_Bout (Nat.le_trans (Nat.le_of_ble_eq_true rfl) hn)) rfl 1 (by decide) w_533 rfl rfl rfl d_Bout_playTo_76 ?_
          refine lv_aload_n hx hb d_Bout_playTo_79 rfl (lv_at hl 0 rfl) ?_
          obtain ⟨g_9, hF⟩ := ifG hF
          refine r_get (v := .ref (ad (s_8.2 41 2))) K hw i_Bout (sh_Bout (Nat.le_trans (Nat.le_of_ble_eq_true rfl) hn)) rfl 2 (by decide) w_536 rfl rfl rfl d_Bout_playTo_80 ?_
          obtain ⟨r_10, s_11, h_s_11, hF⟩ := ob2E hF
          refine r_callVI (As := [.ref (ad (s_8.2 41 2))]) (rest := [.int r_7]) K hw hl.1 (c_Side_presses (l := l) (D := D) (cA := cA) (ad := ad) (s0 := s_8) (Nat.le_trans (Nat.le_of_ble_eq_true rfl) hn) (by decide) g_9 h_s_11) (sh_Side (by decide) (Nat.le_trans (Nat.le_of_ble_eq_true rfl) hn)) rfl (tb_gV w_750 w_751 w_752 w_78 w_753) a_Side_presses ⟨rfl, rfl, Nat.le_of_ble_eq_true rfl, Nat.le_of_ble_eq_true rfl⟩ rfl rfl (Nat.le_of_ble_eq_true rfl) d_Bout_playTo_83 (fun H locs hw => ?_)
          refine lv_isub hx hb d_Bout_playTo_86 ?_
          refine lv_bipush (v := 10) hx hb d_Bout_playTo_87 (by decide) ?_
          refine lv_idiv hx hb d_Bout_playTo_89 (by decide) ?_
          refine lv_istore_n (lv' := [(3, .int ((r_7 - r_10) / (10 : Int32))), (0, .ref (ad 41)), (1, .int v1), (2, .int v2)]) hx hb d_Bout_playTo_90 rfl hl (by decide) rfl (fun ls hl => ?_)
          refine lv_aload_n hx hb d_Bout_playTo_91 rfl (lv_at hl 1 rfl) ?_
          refine r_get (v := .int (s_11.1 41 6)) K hw i_Bout (sh_Bout (Nat.le_trans (Nat.le_of_ble_eq_true rfl) hn)) rfl 6 (by decide) w_546 rfl rfl rfl d_Bout_playTo_92 ?_
          refine lv_if_eq (tgt := 124) hx hb d_Bout_playTo_95 (by decide) (fun c_12 => ?_) (fun c_12 => ?_)
          · replace hF := ifT hF c_12
            exact q_Bout_playTo_124 hn K (fun z0 zv1 zv2 => F_Bout_playTo_5 n z0 zv1 zv2) ih _ _ _ _ _ _ _  hw (lv_sub hl [1, 2, 3, 0] rfl) hF
          · replace hF := ifF hF c_12
            refine lv_aload_n hx hb d_Bout_playTo_98 rfl (lv_at hl 1 rfl) ?_
            refine lv_aload_n hx hb d_Bout_playTo_99 rfl (lv_at hl 1 rfl) ?_
            refine r_get (v := .int (s_11.1 41 5)) K hw i_Bout (sh_Bout (Nat.le_trans (Nat.le_of_ble_eq_true rfl) hn)) rfl 5 (by decide) w_544 rfl rfl rfl d_Bout_playTo_100 ?_
            refine lv_aload_n hx hb d_Bout_playTo_103 rfl (lv_at hl 1 rfl) ?_
            obtain ⟨g_19, hF⟩ := ifG hF
            refine r_get (v := .ref (ad (s_11.2 41 2))) K hw i_Bout (sh_Bout (Nat.le_trans (Nat.le_of_ble_eq_true rfl) hn)) rfl 2 (by decide) w_536 rfl rfl rfl d_Bout_playTo_104 ?_
            refine lv_iconst (v := 2) hx hb d_Bout_playTo_107 (by decide) ?_
            refine lv_aload_n hx hb d_Bout_playTo_108 rfl (lv_at hl 1 rfl) ?_
            refine r_get (v := .ref (ad 42)) K hw i_Bout (sh_Bout (Nat.le_trans (Nat.le_of_ble_eq_true rfl) hn)) rfl 0 (by decide) w_530 rfl rfl rfl d_Bout_playTo_109 ?_
            refine r_get (v := .ref (ad 43)) K hw i_Side (sh_Side (by decide) (Nat.le_trans (Nat.le_of_ble_eq_true rfl) hn)) rfl 0 (by decide) w_509 rfl rfl rfl d_Bout_playTo_112 ?_
            obtain ⟨r_20, s_21, h_s_21, hF⟩ := ob2E hF
            refine r_callVI (As := [.int (2 : Int32), .ref (ad 43)]) (rest := [.int (s_11.1 41 5), .ref (ad 41)]) K hw hl.1 (c_Text_says (l := l) (D := D) (cA := cA) (ad := ad) (s0 := s_11) (Nat.le_trans (Nat.le_of_ble_eq_true rfl) hn) g_19 (P_namesOf (by decide)) h_s_21) (sh_Text g_19 (Nat.le_trans (Nat.le_of_ble_eq_true rfl) hn)) rfl (tb_gV w_760 w_669 w_670 w_68 w_671) a_Text_says ⟨rfl, rfl, Nat.le_of_ble_eq_true rfl, Nat.le_of_ble_eq_true rfl⟩ rfl rfl (Nat.le_of_ble_eq_true rfl) d_Bout_playTo_115 (fun H locs hw => ?_)
            refine va_mmax (rest := [.ref (ad 41)]) hx hb (K.1.2.2.1.trans hl.1.symm) K.1.2.2.2.1 (K.1.2.2.2.2 _ w_761) (K.1.2.2.2.2 _ w_394) (K.1.2.2.2.2 _ w_75) (K.1.2.2.2.2 _ w_395) (Nat.le_of_ble_eq_true rfl) (Nat.le_of_ble_eq_true rfl) (Nat.zero_le _) (Nat.zero_le _) d_Bout_playTo_118 ?_
            refine r_putI K hw i_Bout t_Bout t_Bout_ok n_Bout (sh_Bout (Nat.le_trans (Nat.le_of_ble_eq_true rfl) hn)) rfl 5 (by decide) w_544 rfl rfl rfl rfl rfl d_Bout_playTo_121 (fun s_22 f_s_22 H locs hw => ?_)
            replace hF := ltN hF f_s_22
            exact q_Bout_playTo_124 hn K (fun z0 zv1 zv2 => F_Bout_playTo_5 n z0 zv1 zv2) ih _ _ _ _ _ _ _  hw (lv_sub hl [1, 2, 3, 0] rfl) hF
noncomputable def F_Bout_playTo_0 (s0 : St) (v1 : Int32) : Option St := (F_Bout_playTo_5 FU s0 v1 (s0.1 41 4))
set_option maxHeartbeats 4000000 in
set_option maxRecDepth 100000 in
theorem q_Bout_playTo_0 (hn : 46 ≤ nC) (K : Fx p s m args meth c b_Bout_playTo 4 R_Bout none)  : ∀ (H : Heap) (locs : List Loc) (ls : Array Slot) (s0 : St) (v1 : Int32), Wh D cA ad (shC.take nC) A s s0 H locs → lv_has ls 4 [(0, .ref (ad 41)), (1, .int v1)] → F_Bout_playTo_0 s0 v1 = (some τ) → W p l e rm_Bout_playTo s m args below meth c H locs 0 0 (MQ below (QcV D cA ad (shC.take nC) A τ) args s 0 0 A) (F0 m 0 ls []) := by
  have hx := K.1.1; have hb := K.1.2.1
  intro H locs ls s0 v1 hw hl hF
  unfold F_Bout_playTo_0 at hF
  refine lv_aload_n hx hb d_Bout_playTo_0 rfl (lv_at hl 0 rfl) ?_
  refine r_get (v := .int (s0.1 41 4)) K hw i_Bout (sh_Bout (Nat.le_trans (Nat.le_of_ble_eq_true rfl) hn)) rfl 4 (by decide) w_541 rfl rfl rfl d_Bout_playTo_1 ?_
  refine lv_istore_n (lv' := [(2, .int (s0.1 41 4)), (0, .ref (ad 41)), (1, .int v1)]) hx hb d_Bout_playTo_4 rfl hl (by decide) rfl (fun ls hl => ?_)
  exact q_Bout_playTo_5 hn K FU _ _ _ _ _ _  hw (lv_sub hl [1, 2, 0] rfl) hF
end S_Bout_playTo
noncomputable abbrev F_Bout_playTo := F_Bout_playTo_0
theorem c_Bout_playTo {l : Launch} {D : va_G} {cA : Nat → ClassId} {ad : Nat → Nat} {s0 τ : St} {nC : Nat} (hn : 46 ≤ nC) {v1 : Int32}  (hF : F_Bout_playTo s0 v1 = (some τ)) : MV l D cA ad (shC.take nC) y_Bout_playTo (wT y_Bout_playTo b_Bout_playTo 4 none) rm_Bout_playTo [.ref (ad 41), .int v1] s0 τ := fun sz => m_start (Qc := fun A => QcV D cA ad (shC.take nC) A τ) (by decide +kernel) w_740 (Nat.le_of_ble_eq_true rfl) (fun p e s m below meth c ls K hl hw => q_Bout_playTo_0 hn K _ _ _ _ _  hw hl hF)

/-! Main.match(III)I -/
abbrev b_Main_match : ByteArray := prog_1_method_10_code
def y_Main_match : MethodName := ⟨R_Main, "match", "(III)I"⟩
theorem a_Main_match : y_Main_match.cls = R_Main ∧ y_Main_match.cls ≠ "java/lang/invoke/MethodHandle" ∧ y_Main_match.cls ≠ "java/lang/invoke/VarHandle" ∧ (parseMethodDescriptor y_Main_match.desc).map (fun d => d.parameters.length) = some 3 := by decide +kernel
abbrev rm_Main_match : Room := { frames := 5, cells := 0, slots := 0, locals := 116 }
theorem w_720 : Cond.methodLink R_Main 171 y_Main_tellsTwo ∈ TB := tb_in 720 (by decide +kernel) (by decide +kernel)
theorem w_722 : Cond.instanceMethod y_Main_tellsTwo ∈ TB := tb_in 722 (by decide +kernel) (by decide +kernel)
theorem w_16 : Cond.selects R_Main y_Main_tellsTwo y_Main_tellsTwo ∈ TB := tb_in 16 (by decide +kernel) (by decide +kernel)
theorem w_728 : Cond.methodLink R_Main 174 y_Main_opn ∈ TB := tb_in 728 (by decide +kernel) (by decide +kernel)
theorem w_730 : Cond.instanceMethod y_Main_opn ∈ TB := tb_in 730 (by decide +kernel) (by decide +kernel)
theorem w_18 : Cond.selects R_Main y_Main_opn y_Main_opn ∈ TB := tb_in 18 (by decide +kernel) (by decide +kernel)
theorem w_547 : Cond.fieldLink R_Main 178 R_Bout "watched" "Z" ∈ TB := tb_in 547 (by decide +kernel) (by decide +kernel)
theorem w_737 : Cond.methodLink R_Main 182 y_Bout_playTo ∈ TB := tb_in 737 (by decide +kernel) (by decide +kernel)
theorem w_738 : Cond.instanceMethod y_Bout_playTo ∈ TB := tb_in 738 (by decide +kernel) (by decide +kernel)
theorem w_739 : Cond.selects R_Bout y_Bout_playTo y_Bout_playTo ∈ TB := tb_in 739 (by decide +kernel) (by decide +kernel)
theorem w_540 : Cond.fieldLink R_Main 185 R_Bout "angle" "I" ∈ TB := tb_in 540 (by decide +kernel) (by decide +kernel)
theorem w_535 : Cond.fieldLink R_Main 188 R_Bout "b" "LArmAgainstArm$Side;" ∈ TB := tb_in 535 (by decide +kernel) (by decide +kernel)
theorem w_545 : Cond.fieldLink R_Main 191 R_Bout "hurt" "I" ∈ TB := tb_in 545 (by decide +kernel) (by decide +kernel)
theorem w_719 : Cond.code y_Main_match b_Main_match 4 (some .int) ∈ TB := tb_in 719 (by decide +kernel) (by decide +kernel)
theorem d_Main_match_0 : decode b_Main_match 0 = .ok (.aload_n 0, 1) := by decide +kernel
theorem d_Main_match_1 : decode b_Main_match 1 = .ok (.iload_n 1, 1) := by decide +kernel
theorem d_Main_match_2 : decode b_Main_match 2 = .ok (.invokevirtual 171, 3) := by decide +kernel
theorem d_Main_match_5 : decode b_Main_match 5 = .ok (.ifCond .ne 6, 3) := by decide +kernel
theorem d_Main_match_8 : decode b_Main_match 8 = .ok (.bipush (-100), 2) := by decide +kernel
theorem d_Main_match_10 : decode b_Main_match 10 = .ok (.ireturn, 1) := by decide +kernel
theorem d_Main_match_11 : decode b_Main_match 11 = .ok (.iload_n 2, 1) := by decide +kernel
theorem d_Main_match_12 : decode b_Main_match 12 = .ok (.iconst 0, 1) := by decide +kernel
theorem d_Main_match_13 : decode b_Main_match 13 = .ok (.bipush 40, 2) := by decide +kernel
theorem d_Main_match_15 : decode b_Main_match 15 = .ok (.invokestatic 108, 3) := by decide +kernel
theorem d_Main_match_18 : decode b_Main_match 18 = .ok (.ifCond .eq 12, 3) := by decide +kernel
theorem d_Main_match_21 : decode b_Main_match 21 = .ok (.iload_n 3, 1) := by decide +kernel
theorem d_Main_match_22 : decode b_Main_match 22 = .ok (.iconst 0, 1) := by decide +kernel
theorem d_Main_match_23 : decode b_Main_match 23 = .ok (.iconst 3, 1) := by decide +kernel
theorem d_Main_match_24 : decode b_Main_match 24 = .ok (.invokestatic 108, 3) := by decide +kernel
theorem d_Main_match_27 : decode b_Main_match 27 = .ok (.ifCond .ne 7, 3) := by decide +kernel
theorem d_Main_match_30 : decode b_Main_match 30 = .ok (.sipush (-200), 3) := by decide +kernel
theorem d_Main_match_33 : decode b_Main_match 33 = .ok (.ireturn, 1) := by decide +kernel
theorem d_Main_match_34 : decode b_Main_match 34 = .ok (.aload_n 0, 1) := by decide +kernel
theorem d_Main_match_35 : decode b_Main_match 35 = .ok (.iload_n 1, 1) := by decide +kernel
theorem d_Main_match_36 : decode b_Main_match 36 = .ok (.bipush 10, 2) := by decide +kernel
theorem d_Main_match_38 : decode b_Main_match 38 = .ok (.idiv, 1) := by decide +kernel
theorem d_Main_match_39 : decode b_Main_match 39 = .ok (.iload_n 1, 1) := by decide +kernel
theorem d_Main_match_40 : decode b_Main_match 40 = .ok (.bipush 10, 2) := by decide +kernel
theorem d_Main_match_42 : decode b_Main_match 42 = .ok (.irem, 1) := by decide +kernel
theorem d_Main_match_43 : decode b_Main_match 43 = .ok (.invokevirtual 174, 3) := by decide +kernel
theorem d_Main_match_46 : decode b_Main_match 46 = .ok (.aload_n 0, 1) := by decide +kernel
theorem d_Main_match_47 : decode b_Main_match 47 = .ok (.getfield 86, 3) := by decide +kernel
theorem d_Main_match_50 : decode b_Main_match 50 = .ok (.iload_n 3, 1) := by decide +kernel
theorem d_Main_match_51 : decode b_Main_match 51 = .ok (.iconst 3, 1) := by decide +kernel
theorem d_Main_match_52 : decode b_Main_match 52 = .ok (.if_icmp .ne 7, 3) := by decide +kernel
theorem d_Main_match_55 : decode b_Main_match 55 = .ok (.iconst 1, 1) := by decide +kernel
theorem d_Main_match_56 : decode b_Main_match 56 = .ok (.goto 4, 3) := by decide +kernel
theorem d_Main_match_59 : decode b_Main_match 59 = .ok (.iconst 0, 1) := by decide +kernel
theorem d_Main_match_60 : decode b_Main_match 60 = .ok (.putfield 178, 3) := by decide +kernel
theorem d_Main_match_63 : decode b_Main_match 63 = .ok (.aload_n 0, 1) := by decide +kernel
theorem d_Main_match_64 : decode b_Main_match 64 = .ok (.getfield 86, 3) := by decide +kernel
theorem d_Main_match_67 : decode b_Main_match 67 = .ok (.iload_n 2, 1) := by decide +kernel
theorem d_Main_match_68 : decode b_Main_match 68 = .ok (.invokevirtual 182, 3) := by decide +kernel
theorem d_Main_match_71 : decode b_Main_match 71 = .ok (.iload_n 3, 1) := by decide +kernel
theorem d_Main_match_72 : decode b_Main_match 72 = .ok (.tableswitch 58 0 2 #[28, 36, 47], 28) := by decide +kernel
theorem d_Main_match_100 : decode b_Main_match 100 = .ok (.aload_n 0, 1) := by decide +kernel
theorem d_Main_match_101 : decode b_Main_match 101 = .ok (.getfield 86, 3) := by decide +kernel
theorem d_Main_match_104 : decode b_Main_match 104 = .ok (.getfield 185, 3) := by decide +kernel
theorem d_Main_match_107 : decode b_Main_match 107 = .ok (.ireturn, 1) := by decide +kernel
theorem d_Main_match_108 : decode b_Main_match 108 = .ok (.aload_n 0, 1) := by decide +kernel
theorem d_Main_match_109 : decode b_Main_match 109 = .ok (.getfield 86, 3) := by decide +kernel
theorem d_Main_match_112 : decode b_Main_match 112 = .ok (.getfield 123, 3) := by decide +kernel
theorem d_Main_match_115 : decode b_Main_match 115 = .ok (.getfield 133, 3) := by decide +kernel
theorem d_Main_match_118 : decode b_Main_match 118 = .ok (.ireturn, 1) := by decide +kernel
theorem d_Main_match_119 : decode b_Main_match 119 = .ok (.aload_n 0, 1) := by decide +kernel
theorem d_Main_match_120 : decode b_Main_match 120 = .ok (.getfield 86, 3) := by decide +kernel
theorem d_Main_match_123 : decode b_Main_match 123 = .ok (.getfield 188, 3) := by decide +kernel
theorem d_Main_match_126 : decode b_Main_match 126 = .ok (.getfield 133, 3) := by decide +kernel
theorem d_Main_match_129 : decode b_Main_match 129 = .ok (.ireturn, 1) := by decide +kernel
theorem d_Main_match_130 : decode b_Main_match 130 = .ok (.aload_n 0, 1) := by decide +kernel
theorem d_Main_match_131 : decode b_Main_match 131 = .ok (.getfield 86, 3) := by decide +kernel
theorem d_Main_match_134 : decode b_Main_match 134 = .ok (.getfield 191, 3) := by decide +kernel
theorem d_Main_match_137 : decode b_Main_match 137 = .ok (.ireturn, 1) := by decide +kernel
section S_Main_match
variable {p : Program} {l : Launch} {e : Env} {s : State} {m : MethodId} {args : Array Value} {below : List Frame} {meth : Method} {c : Code} {D : va_G} {cA : Nat → ClassId} {ad : Nat → Nat} {nC : Nat} {A : Nat → Prop} {r : Int32} {τ : St}
noncomputable def F_Main_match_60 (s0 : St) (v2 : Int32) (v3 : Int32) (t1 : Int32) : Option (Int32 × St) := (if (t1 = 0 ∨ t1 = 1) then (lt (up1 s0 41 6 t1) (fun s_7 => (ob1 (F_Bout_playTo s_7 v2) (fun s_9 => (if v3 = 0 then (some ((s_9.1 41 3), s_9)) else (if v3 = 1 then (some ((s_9.1 42 1), s_9)) else (if v3 = 2 then (some ((s_9.1 44 1), s_9)) else (some ((s_9.1 41 5), s_9))))))))) else none)
set_option maxHeartbeats 4000000 in
set_option maxRecDepth 100000 in
theorem q_Main_match_60 (hn : 46 ≤ nC) (K : Fx p s m args meth c b_Main_match 4 R_Main (some .int))  : ∀ (H : Heap) (locs : List Loc) (ls : Array Slot) (s0 : St) (v2 : Int32) (v3 : Int32) (t1 : Int32), Wh D cA ad (shC.take nC) A s s0 H locs → lv_has ls 4 [(0, .ref (ad 20)), (2, .int v2), (3, .int v3)] → F_Main_match_60 s0 v2 v3 t1 = (some (r, τ)) → W p l e rm_Main_match s m args below meth c H locs 0 0 (MQ below (QcI D cA ad (shC.take nC) A r τ) args s 0 0 A) (F0 m 60 ls [.int t1, .ref (ad 41)]) := by
  have hx := K.1.1; have hb := K.1.2.1
  intro H locs ls s0 v2 v3 t1 hw hl hF
  unfold F_Main_match_60 at hF
  obtain ⟨g_8, hF⟩ := ifG hF
  refine r_putI K hw i_Bout t_Bout t_Bout_ok n_Bout (sh_Bout (Nat.le_trans (Nat.le_of_ble_eq_true rfl) hn)) rfl 6 (by decide) w_547 rfl rfl rfl (zN g_8) (zF g_8) d_Main_match_60 (fun s_7 f_s_7 H locs hw => ?_)
  replace hF := ltN hF f_s_7
  refine lv_aload_n hx hb d_Main_match_63 rfl (lv_at hl 0 rfl) ?_
  refine r_get (v := .ref (ad 41)) K hw i_Main (sh_Main (Nat.le_trans (Nat.le_of_ble_eq_true rfl) hn)) rfl 7 (by decide) w_605 rfl rfl rfl d_Main_match_64 ?_
  refine lv_iload_n hx hb d_Main_match_67 rfl (lv_at hl 1 rfl) ?_
  obtain ⟨s_9, h_s_9, hF⟩ := ob1E hF
  refine r_callVV (As := [.int v2]) (rest := []) K hw hl.1 (c_Bout_playTo (l := l) (D := D) (cA := cA) (ad := ad) (s0 := s_7) (Nat.le_trans (Nat.le_of_ble_eq_true rfl) hn)  h_s_9) (sh_Bout (Nat.le_trans (Nat.le_of_ble_eq_true rfl) hn)) rfl (tb_gV w_737 w_738 w_739 w_77 w_740) a_Bout_playTo ⟨rfl, rfl, Nat.le_of_ble_eq_true rfl, Nat.le_of_ble_eq_true rfl⟩ rfl rfl (Nat.le_of_ble_eq_true rfl) d_Main_match_68 (fun H locs hw => ?_)
  refine lv_iload_n hx hb d_Main_match_71 rfl (lv_at hl 2 rfl) ?_
  by_cases c_10 : v3 = 0
  · replace hF := ifT hF c_10
    refine lv_tableIn (tgt := 100) hx hb d_Main_match_72 (by rw [c_10]; decide) (by rw [c_10]; decide) (by rw [c_10]; rfl) (by decide) ?_
    refine lv_aload_n hx hb d_Main_match_100 rfl (lv_at hl 0 rfl) ?_
    refine r_get (v := .ref (ad 41)) K hw i_Main (sh_Main (Nat.le_trans (Nat.le_of_ble_eq_true rfl) hn)) rfl 7 (by decide) w_605 rfl rfl rfl d_Main_match_101 ?_
    refine r_get (v := .int (s_9.1 41 3)) K hw i_Bout (sh_Bout (Nat.le_trans (Nat.le_of_ble_eq_true rfl) hn)) rfl 3 (by decide) w_540 rfl rfl rfl d_Main_match_104 ?_
    obtain ⟨hF, hG⟩ := sE2 hF
    subst hF
    subst hG
    exact r_iret K hw d_Main_match_107
  replace hF := ifF hF c_10
  by_cases c_11 : v3 = 1
  · replace hF := ifT hF c_11
    refine lv_tableIn (tgt := 108) hx hb d_Main_match_72 (by rw [c_11]; decide) (by rw [c_11]; decide) (by rw [c_11]; rfl) (by decide) ?_
    refine lv_aload_n hx hb d_Main_match_108 rfl (lv_at hl 0 rfl) ?_
    refine r_get (v := .ref (ad 41)) K hw i_Main (sh_Main (Nat.le_trans (Nat.le_of_ble_eq_true rfl) hn)) rfl 7 (by decide) w_605 rfl rfl rfl d_Main_match_109 ?_
    refine r_get (v := .ref (ad 42)) K hw i_Bout (sh_Bout (Nat.le_trans (Nat.le_of_ble_eq_true rfl) hn)) rfl 0 (by decide) w_532 rfl rfl rfl d_Main_match_112 ?_
    refine r_get (v := .int (s_9.1 42 1)) K hw i_Side (sh_Side (by decide) (Nat.le_trans (Nat.le_of_ble_eq_true rfl) hn)) rfl 1 (by decide) w_513 rfl rfl rfl d_Main_match_115 ?_
    obtain ⟨hF, hG⟩ := sE2 hF
    subst hF
    subst hG
    exact r_iret K hw d_Main_match_118
  replace hF := ifF hF c_11
  by_cases c_12 : v3 = 2
  · replace hF := ifT hF c_12
    refine lv_tableIn (tgt := 119) hx hb d_Main_match_72 (by rw [c_12]; decide) (by rw [c_12]; decide) (by rw [c_12]; rfl) (by decide) ?_
    refine lv_aload_n hx hb d_Main_match_119 rfl (lv_at hl 0 rfl) ?_
    refine r_get (v := .ref (ad 41)) K hw i_Main (sh_Main (Nat.le_trans (Nat.le_of_ble_eq_true rfl) hn)) rfl 7 (by decide) w_605 rfl rfl rfl d_Main_match_120 ?_
    refine r_get (v := .ref (ad 44)) K hw i_Bout (sh_Bout (Nat.le_trans (Nat.le_of_ble_eq_true rfl) hn)) rfl 1 (by decide) w_535 rfl rfl rfl d_Main_match_123 ?_
    refine r_get (v := .int (s_9.1 44 1)) K hw i_Side (sh_Side (by decide) (Nat.le_trans (Nat.le_of_ble_eq_true rfl) hn)) rfl 1 (by decide) w_513 rfl rfl rfl d_Main_match_126 ?_
    obtain ⟨hF, hG⟩ := sE2 hF
    subst hF
    subst hG
    exact r_iret K hw d_Main_match_129
  replace hF := ifF hF c_12
  have nc_10 : ¬ (v3).toInt = 0 := lv_neT c_10 rfl
  have nc_11 : ¬ (v3).toInt = 1 := lv_neT c_11 rfl
  have nc_12 : ¬ (v3).toInt = 2 := lv_neT c_12 rfl
  refine lv_tableOut (tgt := 130) hx hb d_Main_match_72 (by omega) (by decide) ?_
  refine lv_aload_n hx hb d_Main_match_130 rfl (lv_at hl 0 rfl) ?_
  refine r_get (v := .ref (ad 41)) K hw i_Main (sh_Main (Nat.le_trans (Nat.le_of_ble_eq_true rfl) hn)) rfl 7 (by decide) w_605 rfl rfl rfl d_Main_match_131 ?_
  refine r_get (v := .int (s_9.1 41 5)) K hw i_Bout (sh_Bout (Nat.le_trans (Nat.le_of_ble_eq_true rfl) hn)) rfl 5 (by decide) w_545 rfl rfl rfl d_Main_match_134 ?_
  obtain ⟨hF, hG⟩ := sE2 hF
  subst hF
  subst hG
  exact r_iret K hw d_Main_match_137
noncomputable def F_Main_match_0 (s0 : St) (v1 : Int32) (v2 : Int32) (v3 : Int32) : Option (Int32 × St) := (ob1 (F_Main_tellsTwo s0 v1) (fun r_1 => (if ¬ r_1 = 0 then (if (F_Main_isWithin v2 (0 : Int32) (40 : Int32)) = 0 then (some ((-200 : Int32), s0)) else (if ¬ (F_Main_isWithin v3 (0 : Int32) (3 : Int32)) = 0 then (ob1 (F_Main_opn s0 (v1 / (10 : Int32)) (jrem v1 (10 : Int32))) (fun s_5 => (if ¬ v3 = (3 : Int32) then (F_Main_match_60 s_5 v2 v3 (0 : Int32)) else (F_Main_match_60 s_5 v2 v3 (1 : Int32))))) else (some ((-200 : Int32), s0)))) else (some ((-100 : Int32), s0)))))
set_option maxHeartbeats 4000000 in
set_option maxRecDepth 100000 in
theorem q_Main_match_0 (hn : 46 ≤ nC) (K : Fx p s m args meth c b_Main_match 4 R_Main (some .int))  : ∀ (H : Heap) (locs : List Loc) (ls : Array Slot) (s0 : St) (v1 : Int32) (v2 : Int32) (v3 : Int32), Wh D cA ad (shC.take nC) A s s0 H locs → lv_has ls 4 [(0, .ref (ad 20)), (1, .int v1), (2, .int v2), (3, .int v3)] → F_Main_match_0 s0 v1 v2 v3 = (some (r, τ)) → W p l e rm_Main_match s m args below meth c H locs 0 0 (MQ below (QcI D cA ad (shC.take nC) A r τ) args s 0 0 A) (F0 m 0 ls []) := by
  have hx := K.1.1; have hb := K.1.2.1
  intro H locs ls s0 v1 v2 v3 hw hl hF
  unfold F_Main_match_0 at hF
  refine lv_aload_n hx hb d_Main_match_0 rfl (lv_at hl 0 rfl) ?_
  refine lv_iload_n hx hb d_Main_match_1 rfl (lv_at hl 1 rfl) ?_
  obtain ⟨r_1, h_r_1, hF⟩ := ob1E hF
  refine r_callVI (As := [.int v1]) (rest := []) K hw hl.1 (c_Main_tellsTwo (l := l) (D := D) (cA := cA) (ad := ad) (s0 := s0) (Nat.le_trans (Nat.le_of_ble_eq_true rfl) hn)  h_r_1) (sh_Main (Nat.le_trans (Nat.le_of_ble_eq_true rfl) hn)) rfl (tb_gV w_720 w_722 w_16 w_63 w_723) a_Main_tellsTwo ⟨rfl, rfl, Nat.le_of_ble_eq_true rfl, Nat.le_of_ble_eq_true rfl⟩ rfl rfl (Nat.le_of_ble_eq_true rfl) d_Main_match_2 (fun H locs hw => ?_)
  refine lv_if_ne (tgt := 11) hx hb d_Main_match_5 (by decide) (fun c_2 => ?_) (fun c_2 => ?_)
  · replace hF := ifT hF c_2
    refine lv_iload_n hx hb d_Main_match_11 rfl (lv_at hl 2 rfl) ?_
    refine lv_iconst (v := 0) hx hb d_Main_match_12 (by decide) ?_
    refine lv_bipush (v := 40) hx hb d_Main_match_13 (by decide) ?_
    refine r_callSI (As := [.int v2, .int (0 : Int32), .int (40 : Int32)]) (rest := []) K hw hl.1 (c_Main_isWithin (l := l) (D := D) (cA := cA) (ad := ad) (s0 := s0) (Nat.le_trans (Nat.le_of_ble_eq_true rfl) hn)  rfl) (tb_gS w_640 w_347 w_63 w_348) a_Main_isWithin ⟨rfl, rfl, Nat.le_of_ble_eq_true rfl, Nat.le_of_ble_eq_true rfl⟩ rfl rfl (Nat.le_of_ble_eq_true rfl) d_Main_match_15 (fun H locs hw => ?_)
    refine lv_if_eq (tgt := 30) hx hb d_Main_match_18 (by decide) (fun c_3 => ?_) (fun c_3 => ?_)
    · replace hF := ifT hF c_3
      refine lv_sipush (v := -200) hx hb d_Main_match_30 (by decide) ?_
      obtain ⟨hF, hG⟩ := sE2 hF
      subst hF
      subst hG
      exact r_iret K hw d_Main_match_33
    · replace hF := ifF hF c_3
      refine lv_iload_n hx hb d_Main_match_21 rfl (lv_at hl 3 rfl) ?_
      refine lv_iconst (v := 0) hx hb d_Main_match_22 (by decide) ?_
      refine lv_iconst (v := 3) hx hb d_Main_match_23 (by decide) ?_
      refine r_callSI (As := [.int v3, .int (0 : Int32), .int (3 : Int32)]) (rest := []) K hw hl.1 (c_Main_isWithin (l := l) (D := D) (cA := cA) (ad := ad) (s0 := s0) (Nat.le_trans (Nat.le_of_ble_eq_true rfl) hn)  rfl) (tb_gS w_640 w_347 w_63 w_348) a_Main_isWithin ⟨rfl, rfl, Nat.le_of_ble_eq_true rfl, Nat.le_of_ble_eq_true rfl⟩ rfl rfl (Nat.le_of_ble_eq_true rfl) d_Main_match_24 (fun H locs hw => ?_)
      refine lv_if_ne (tgt := 34) hx hb d_Main_match_27 (by decide) (fun c_4 => ?_) (fun c_4 => ?_)
      · replace hF := ifT hF c_4
        refine lv_aload_n hx hb d_Main_match_34 rfl (lv_at hl 0 rfl) ?_
        refine lv_iload_n hx hb d_Main_match_35 rfl (lv_at hl 1 rfl) ?_
        refine lv_bipush (v := 10) hx hb d_Main_match_36 (by decide) ?_
        refine lv_idiv hx hb d_Main_match_38 (by decide) ?_
        refine lv_iload_n hx hb d_Main_match_39 rfl (lv_at hl 1 rfl) ?_
        refine lv_bipush (v := 10) hx hb d_Main_match_40 (by decide) ?_
        refine lv_irem hx hb d_Main_match_42 (by decide) ?_
        obtain ⟨s_5, h_s_5, hF⟩ := ob1E hF
        refine r_callVV (As := [.int (v1 / (10 : Int32)), .int (jrem v1 (10 : Int32))]) (rest := []) K hw hl.1 (c_Main_opn (l := l) (D := D) (cA := cA) (ad := ad) (s0 := s0) (Nat.le_trans (Nat.le_of_ble_eq_true rfl) hn)  h_s_5) (sh_Main (Nat.le_trans (Nat.le_of_ble_eq_true rfl) hn)) rfl (tb_gV w_728 w_730 w_18 w_63 w_731) a_Main_opn ⟨rfl, rfl, Nat.le_of_ble_eq_true rfl, Nat.le_of_ble_eq_true rfl⟩ rfl rfl (Nat.le_of_ble_eq_true rfl) d_Main_match_43 (fun H locs hw => ?_)
        refine lv_aload_n hx hb d_Main_match_46 rfl (lv_at hl 0 rfl) ?_
        refine r_get (v := .ref (ad 41)) K hw i_Main (sh_Main (Nat.le_trans (Nat.le_of_ble_eq_true rfl) hn)) rfl 7 (by decide) w_605 rfl rfl rfl d_Main_match_47 ?_
        refine lv_iload_n hx hb d_Main_match_50 rfl (lv_at hl 3 rfl) ?_
        refine lv_iconst (v := 3) hx hb d_Main_match_51 (by decide) ?_
        refine lv_icmp_ne (tgt := 59) hx hb d_Main_match_52 (by decide) (fun c_6 => ?_) (fun c_6 => ?_)
        · replace hF := ifT hF c_6
          refine lv_iconst (v := 0) hx hb d_Main_match_59 (by decide) ?_
          exact q_Main_match_60 hn K _ _ _ _ _ _ _  hw (lv_sub hl [0, 2, 3] rfl) hF
        · replace hF := ifN hF c_6
          refine lv_iconst (v := 1) hx hb d_Main_match_55 (by decide) ?_
          refine lv_goto (tgt := 60) hx hb d_Main_match_56 (by decide) ?_
          exact q_Main_match_60 hn K _ _ _ _ _ _ _  hw (lv_sub hl [0, 2, 3] rfl) hF
      · replace hF := ifN hF c_4
        refine lv_sipush (v := -200) hx hb d_Main_match_30 (by decide) ?_
        obtain ⟨hF, hG⟩ := sE2 hF
        subst hF
        subst hG
        exact r_iret K hw d_Main_match_33
  · replace hF := ifN hF c_2
    refine lv_bipush (v := -100) hx hb d_Main_match_8 (by decide) ?_
    obtain ⟨hF, hG⟩ := sE2 hF
    subst hF
    subst hG
    exact r_iret K hw d_Main_match_10
end S_Main_match
noncomputable abbrev F_Main_match := F_Main_match_0
theorem c_Main_match {l : Launch} {D : va_G} {cA : Nat → ClassId} {ad : Nat → Nat} {s0 τ : St} {nC : Nat} (hn : 46 ≤ nC) {r : Int32} {v1 : Int32} {v2 : Int32} {v3 : Int32}  (hF : F_Main_match s0 v1 v2 v3 = (some (r, τ))) : MI l D cA ad (shC.take nC) y_Main_match (wT y_Main_match b_Main_match 4 (some .int)) rm_Main_match [.ref (ad 20), .int v1, .int v2, .int v3] s0 r τ := fun sz => m_start (Qc := fun A => QcI D cA ad (shC.take nC) A r τ) (by decide +kernel) w_719 (Nat.le_of_ble_eq_true rfl) (fun p e s m below meth c ls K hl hw => q_Main_match_0 hn K _ _ _ _ _ _ _  hw hl hF)

/-! Main.winner(II)I -/
abbrev b_Main_winner : ByteArray := prog_1_method_47_code
def y_Main_winner : MethodName := ⟨R_Main, "winne\x72", "(II)I"⟩
theorem a_Main_winner : y_Main_winner.cls = R_Main ∧ y_Main_winner.cls ≠ "java/lang/invoke/MethodHandle" ∧ y_Main_winner.cls ≠ "java/lang/invoke/VarHandle" ∧ (parseMethodDescriptor y_Main_winner.desc).map (fun d => d.parameters.length) = some 2 := by decide +kernel
abbrev rm_Main_winner : Room := { frames := 0, cells := 0, slots := 0, locals := 0 }
theorem w_779 : Cond.code y_Main_winner b_Main_winner 3 (some .int) ∈ TB := tb_in 779 (by decide +kernel) (by decide +kernel)
theorem d_Main_winner_0 : decode b_Main_winner 0 = .ok (.aload_n 0, 1) := by decide +kernel
theorem d_Main_winner_1 : decode b_Main_winner 1 = .ok (.getfield 86, 3) := by decide +kernel
theorem d_Main_winner_4 : decode b_Main_winner 4 = .ok (.getfield 185, 3) := by decide +kernel
theorem d_Main_winner_7 : decode b_Main_winner 7 = .ok (.ifCond .ne 5, 3) := by decide +kernel
theorem d_Main_winner_10 : decode b_Main_winner 10 = .ok (.iconst (-1), 1) := by decide +kernel
theorem d_Main_winner_11 : decode b_Main_winner 11 = .ok (.ireturn, 1) := by decide +kernel
theorem d_Main_winner_12 : decode b_Main_winner 12 = .ok (.aload_n 0, 1) := by decide +kernel
theorem d_Main_winner_13 : decode b_Main_winner 13 = .ok (.getfield 86, 3) := by decide +kernel
theorem d_Main_winner_16 : decode b_Main_winner 16 = .ok (.getfield 185, 3) := by decide +kernel
theorem d_Main_winner_19 : decode b_Main_winner 19 = .ok (.ifCond .le 7, 3) := by decide +kernel
theorem d_Main_winner_22 : decode b_Main_winner 22 = .ok (.iload_n 1, 1) := by decide +kernel
theorem d_Main_winner_23 : decode b_Main_winner 23 = .ok (.goto 4, 3) := by decide +kernel
theorem d_Main_winner_26 : decode b_Main_winner 26 = .ok (.iload_n 2, 1) := by decide +kernel
theorem d_Main_winner_27 : decode b_Main_winner 27 = .ok (.ireturn, 1) := by decide +kernel
section S_Main_winner
variable {p : Program} {l : Launch} {e : Env} {s : State} {m : MethodId} {args : Array Value} {below : List Frame} {meth : Method} {c : Code} {D : va_G} {cA : Nat → ClassId} {ad : Nat → Nat} {nC : Nat} {A : Nat → Prop} {r : Int32} {τ : St}
noncomputable def F_Main_winner_0 (s0 : St) (v1 : Int32) (v2 : Int32) : Int32 := (if ¬ (s0.1 41 3) = 0 then (if (s0.1 41 3) ≤ 0 then v2 else v1) else (-1 : Int32))
set_option maxHeartbeats 4000000 in
set_option maxRecDepth 100000 in
theorem q_Main_winner_0 (hn : 42 ≤ nC) (s0 : St) (K : Fx p s m args meth c b_Main_winner 3 R_Main (some .int))  : ∀ (H : Heap) (locs : List Loc) (ls : Array Slot) (v1 : Int32) (v2 : Int32), Wh D cA ad (shC.take nC) A s s0 H locs → lv_has ls 3 [(0, .ref (ad 20)), (1, .int v1), (2, .int v2)] → F_Main_winner_0 s0 v1 v2 = r → W p l e rm_Main_winner s m args below meth c H locs 0 0 (MQ below (QcI D cA ad (shC.take nC) A r s0) args s 0 0 A) (F0 m 0 ls []) := by
  have hx := K.1.1; have hb := K.1.2.1
  intro H locs ls v1 v2 hw hl hF
  unfold F_Main_winner_0 at hF
  refine lv_aload_n hx hb d_Main_winner_0 rfl (lv_at hl 0 rfl) ?_
  refine r_get (v := .ref (ad 41)) K hw i_Main (sh_Main (Nat.le_trans (Nat.le_of_ble_eq_true rfl) hn)) rfl 7 (by decide) w_605 rfl rfl rfl d_Main_winner_1 ?_
  refine r_get (v := .int (s0.1 41 3)) K hw i_Bout (sh_Bout (Nat.le_trans (Nat.le_of_ble_eq_true rfl) hn)) rfl 3 (by decide) w_540 rfl rfl rfl d_Main_winner_4 ?_
  refine lv_if_ne (tgt := 12) hx hb d_Main_winner_7 (by decide) (fun c_1 => ?_) (fun c_1 => ?_)
  · replace hF := ifT hF c_1
    refine lv_aload_n hx hb d_Main_winner_12 rfl (lv_at hl 0 rfl) ?_
    refine r_get (v := .ref (ad 41)) K hw i_Main (sh_Main (Nat.le_trans (Nat.le_of_ble_eq_true rfl) hn)) rfl 7 (by decide) w_605 rfl rfl rfl d_Main_winner_13 ?_
    refine r_get (v := .int (s0.1 41 3)) K hw i_Bout (sh_Bout (Nat.le_trans (Nat.le_of_ble_eq_true rfl) hn)) rfl 3 (by decide) w_540 rfl rfl rfl d_Main_winner_16 ?_
    refine lv_if_le (tgt := 26) hx hb d_Main_winner_19 (by decide) (fun c_2 => ?_) (fun c_2 => ?_)
    · replace hF := ifT hF c_2
      refine lv_iload_n hx hb d_Main_winner_26 rfl (lv_at hl 2 rfl) ?_
      subst hF
      exact r_iret K hw d_Main_winner_27
    · replace hF := ifF hF c_2
      refine lv_iload_n hx hb d_Main_winner_22 rfl (lv_at hl 1 rfl) ?_
      refine lv_goto (tgt := 27) hx hb d_Main_winner_23 (by decide) ?_
      subst hF
      exact r_iret K hw d_Main_winner_27
  · replace hF := ifN hF c_1
    refine lv_iconst (v := -1) hx hb d_Main_winner_10 (by decide) ?_
    subst hF
    exact r_iret K hw d_Main_winner_11
end S_Main_winner
noncomputable abbrev F_Main_winner := F_Main_winner_0
theorem c_Main_winner {l : Launch} {D : va_G} {cA : Nat → ClassId} {ad : Nat → Nat} {s0 : St} {nC : Nat} (hn : 42 ≤ nC) {r : Int32} {v1 : Int32} {v2 : Int32}  (hF : F_Main_winner s0 v1 v2 = r) : MI l D cA ad (shC.take nC) y_Main_winner (wT y_Main_winner b_Main_winner 3 (some .int)) rm_Main_winner [.ref (ad 20), .int v1, .int v2] s0 r s0 := fun sz => m_start (Qc := fun A => QcI D cA ad (shC.take nC) A r s0) (by decide +kernel) w_779 (Nat.le_of_ble_eq_true rfl) (fun p e s m below meth c ls K hl hw => q_Main_winner_0 hn s0 K _ _ _ _ _  hw hl hF)

/-! Main.wins(III)I -/
abbrev b_Main_wins : ByteArray := prog_1_method_11_code
def y_Main_wins : MethodName := ⟨R_Main, "wins", "(III)I"⟩
theorem a_Main_wins : y_Main_wins.cls = R_Main ∧ y_Main_wins.cls ≠ "java/lang/invoke/MethodHandle" ∧ y_Main_wins.cls ≠ "java/lang/invoke/VarHandle" ∧ (parseMethodDescriptor y_Main_wins.desc).map (fun d => d.parameters.length) = some 3 := by decide +kernel
abbrev rm_Main_wins : Room := { frames := 5, cells := 0, slots := 0, locals := 116 }
theorem w_780 : Cond.methodLink R_Main 202 y_Bout_isOver ∈ TB := tb_in 780 (by decide +kernel) (by decide +kernel)
theorem w_543 : Cond.fieldLink R_Main 206 R_Bout "tenth" "I" ∈ TB := tb_in 543 (by decide +kernel) (by decide +kernel)
theorem w_776 : Cond.methodLink R_Main 198 y_Main_winner ∈ TB := tb_in 776 (by decide +kernel) (by decide +kernel)
theorem w_778 : Cond.instanceMethod y_Main_winner ∈ TB := tb_in 778 (by decide +kernel) (by decide +kernel)
theorem w_19 : Cond.selects R_Main y_Main_winner y_Main_winner ∈ TB := tb_in 19 (by decide +kernel) (by decide +kernel)
theorem w_775 : Cond.code y_Main_wins b_Main_wins 4 (some .int) ∈ TB := tb_in 775 (by decide +kernel) (by decide +kernel)
theorem d_Main_wins_0 : decode b_Main_wins 0 = .ok (.aload_n 0, 1) := by decide +kernel
theorem d_Main_wins_1 : decode b_Main_wins 1 = .ok (.iload_n 1, 1) := by decide +kernel
theorem d_Main_wins_2 : decode b_Main_wins 2 = .ok (.iload_n 2, 1) := by decide +kernel
theorem d_Main_wins_3 : decode b_Main_wins 3 = .ok (.invokevirtual 194, 3) := by decide +kernel
theorem d_Main_wins_6 : decode b_Main_wins 6 = .ok (.ifCond .ne 6, 3) := by decide +kernel
theorem d_Main_wins_9 : decode b_Main_wins 9 = .ok (.bipush (-5), 2) := by decide +kernel
theorem d_Main_wins_11 : decode b_Main_wins 11 = .ok (.ireturn, 1) := by decide +kernel
theorem d_Main_wins_12 : decode b_Main_wins 12 = .ok (.iload_n 3, 1) := by decide +kernel
theorem d_Main_wins_13 : decode b_Main_wins 13 = .ok (.iconst 0, 1) := by decide +kernel
theorem d_Main_wins_14 : decode b_Main_wins 14 = .ok (.iconst 1, 1) := by decide +kernel
theorem d_Main_wins_15 : decode b_Main_wins 15 = .ok (.invokestatic 108, 3) := by decide +kernel
theorem d_Main_wins_18 : decode b_Main_wins 18 = .ok (.ifCond .ne 6, 3) := by decide +kernel
theorem d_Main_wins_21 : decode b_Main_wins 21 = .ok (.bipush (-7), 2) := by decide +kernel
theorem d_Main_wins_23 : decode b_Main_wins 23 = .ok (.ireturn, 1) := by decide +kernel
theorem d_Main_wins_24 : decode b_Main_wins 24 = .ok (.aload_n 0, 1) := by decide +kernel
theorem d_Main_wins_25 : decode b_Main_wins 25 = .ok (.iload_n 1, 1) := by decide +kernel
theorem d_Main_wins_26 : decode b_Main_wins 26 = .ok (.iload_n 2, 1) := by decide +kernel
theorem d_Main_wins_27 : decode b_Main_wins 27 = .ok (.invokevirtual 174, 3) := by decide +kernel
theorem d_Main_wins_30 : decode b_Main_wins 30 = .ok (.aload_n 0, 1) := by decide +kernel
theorem d_Main_wins_31 : decode b_Main_wins 31 = .ok (.getfield 86, 3) := by decide +kernel
theorem d_Main_wins_34 : decode b_Main_wins 34 = .ok (.bipush 40, 2) := by decide +kernel
theorem d_Main_wins_36 : decode b_Main_wins 36 = .ok (.invokevirtual 182, 3) := by decide +kernel
theorem d_Main_wins_39 : decode b_Main_wins 39 = .ok (.iload_n 3, 1) := by decide +kernel
theorem d_Main_wins_40 : decode b_Main_wins 40 = .ok (.ifCond .ne 10, 3) := by decide +kernel
theorem d_Main_wins_43 : decode b_Main_wins 43 = .ok (.aload_n 0, 1) := by decide +kernel
theorem d_Main_wins_44 : decode b_Main_wins 44 = .ok (.iload_n 1, 1) := by decide +kernel
theorem d_Main_wins_45 : decode b_Main_wins 45 = .ok (.iload_n 2, 1) := by decide +kernel
theorem d_Main_wins_46 : decode b_Main_wins 46 = .ok (.invokevirtual 198, 3) := by decide +kernel
theorem d_Main_wins_49 : decode b_Main_wins 49 = .ok (.ireturn, 1) := by decide +kernel
theorem d_Main_wins_50 : decode b_Main_wins 50 = .ok (.aload_n 0, 1) := by decide +kernel
theorem d_Main_wins_51 : decode b_Main_wins 51 = .ok (.getfield 86, 3) := by decide +kernel
theorem d_Main_wins_54 : decode b_Main_wins 54 = .ok (.invokevirtual 202, 3) := by decide +kernel
theorem d_Main_wins_57 : decode b_Main_wins 57 = .ok (.ifCond .eq 13, 3) := by decide +kernel
theorem d_Main_wins_60 : decode b_Main_wins 60 = .ok (.aload_n 0, 1) := by decide +kernel
theorem d_Main_wins_61 : decode b_Main_wins 61 = .ok (.getfield 86, 3) := by decide +kernel
theorem d_Main_wins_64 : decode b_Main_wins 64 = .ok (.getfield 206, 3) := by decide +kernel
theorem d_Main_wins_67 : decode b_Main_wins 67 = .ok (.goto 4, 3) := by decide +kernel
theorem d_Main_wins_70 : decode b_Main_wins 70 = .ok (.iconst (-1), 1) := by decide +kernel
theorem d_Main_wins_71 : decode b_Main_wins 71 = .ok (.ireturn, 1) := by decide +kernel
section S_Main_wins
variable {p : Program} {l : Launch} {e : Env} {s : State} {m : MethodId} {args : Array Value} {below : List Frame} {meth : Method} {c : Code} {D : va_G} {cA : Nat → ClassId} {ad : Nat → Nat} {nC : Nat} {A : Nat → Prop} {r : Int32} {τ : St}
noncomputable def F_Main_wins_0 (s0 : St) (v1 : Int32) (v2 : Int32) (v3 : Int32) : Option (Int32 × St) := (ob1 (F_Main_areTwo s0 v1 v2) (fun r_1 => (if ¬ r_1 = 0 then (if ¬ (F_Main_isWithin v3 (0 : Int32) (1 : Int32)) = 0 then (ob1 (F_Main_opn s0 v1 v2) (fun s_4 => (ob1 (F_Bout_playTo s_4 (40 : Int32)) (fun s_5 => (if ¬ v3 = 0 then (if (F_Bout_isOver s_5 ) = 0 then (some ((-1 : Int32), s_5)) else (some ((s_5.1 41 4), s_5))) else (some ((F_Main_winner s_5 v1 v2), s_5))))))) else (some ((-7 : Int32), s0))) else (some ((-5 : Int32), s0)))))
set_option maxHeartbeats 4000000 in
set_option maxRecDepth 100000 in
theorem q_Main_wins_0 (hn : 46 ≤ nC) (K : Fx p s m args meth c b_Main_wins 4 R_Main (some .int))  : ∀ (H : Heap) (locs : List Loc) (ls : Array Slot) (s0 : St) (v1 : Int32) (v2 : Int32) (v3 : Int32), Wh D cA ad (shC.take nC) A s s0 H locs → lv_has ls 4 [(0, .ref (ad 20)), (1, .int v1), (2, .int v2), (3, .int v3)] → F_Main_wins_0 s0 v1 v2 v3 = (some (r, τ)) → W p l e rm_Main_wins s m args below meth c H locs 0 0 (MQ below (QcI D cA ad (shC.take nC) A r τ) args s 0 0 A) (F0 m 0 ls []) := by
  have hx := K.1.1; have hb := K.1.2.1
  intro H locs ls s0 v1 v2 v3 hw hl hF
  unfold F_Main_wins_0 at hF
  refine lv_aload_n hx hb d_Main_wins_0 rfl (lv_at hl 0 rfl) ?_
  refine lv_iload_n hx hb d_Main_wins_1 rfl (lv_at hl 1 rfl) ?_
  refine lv_iload_n hx hb d_Main_wins_2 rfl (lv_at hl 2 rfl) ?_
  obtain ⟨r_1, h_r_1, hF⟩ := ob1E hF
  refine r_callVI (As := [.int v1, .int v2]) (rest := []) K hw hl.1 (c_Main_areTwo (l := l) (D := D) (cA := cA) (ad := ad) (s0 := s0) (Nat.le_trans (Nat.le_of_ble_eq_true rfl) hn)  h_r_1) (sh_Main (Nat.le_trans (Nat.le_of_ble_eq_true rfl) hn)) rfl (tb_gV w_724 w_726 w_17 w_63 w_727) a_Main_areTwo ⟨rfl, rfl, Nat.le_of_ble_eq_true rfl, Nat.le_of_ble_eq_true rfl⟩ rfl rfl (Nat.le_of_ble_eq_true rfl) d_Main_wins_3 (fun H locs hw => ?_)
  refine lv_if_ne (tgt := 12) hx hb d_Main_wins_6 (by decide) (fun c_2 => ?_) (fun c_2 => ?_)
  · replace hF := ifT hF c_2
    refine lv_iload_n hx hb d_Main_wins_12 rfl (lv_at hl 3 rfl) ?_
    refine lv_iconst (v := 0) hx hb d_Main_wins_13 (by decide) ?_
    refine lv_iconst (v := 1) hx hb d_Main_wins_14 (by decide) ?_
    refine r_callSI (As := [.int v3, .int (0 : Int32), .int (1 : Int32)]) (rest := []) K hw hl.1 (c_Main_isWithin (l := l) (D := D) (cA := cA) (ad := ad) (s0 := s0) (Nat.le_trans (Nat.le_of_ble_eq_true rfl) hn)  rfl) (tb_gS w_640 w_347 w_63 w_348) a_Main_isWithin ⟨rfl, rfl, Nat.le_of_ble_eq_true rfl, Nat.le_of_ble_eq_true rfl⟩ rfl rfl (Nat.le_of_ble_eq_true rfl) d_Main_wins_15 (fun H locs hw => ?_)
    refine lv_if_ne (tgt := 24) hx hb d_Main_wins_18 (by decide) (fun c_3 => ?_) (fun c_3 => ?_)
    · replace hF := ifT hF c_3
      refine lv_aload_n hx hb d_Main_wins_24 rfl (lv_at hl 0 rfl) ?_
      refine lv_iload_n hx hb d_Main_wins_25 rfl (lv_at hl 1 rfl) ?_
      refine lv_iload_n hx hb d_Main_wins_26 rfl (lv_at hl 2 rfl) ?_
      obtain ⟨s_4, h_s_4, hF⟩ := ob1E hF
      refine r_callVV (As := [.int v1, .int v2]) (rest := []) K hw hl.1 (c_Main_opn (l := l) (D := D) (cA := cA) (ad := ad) (s0 := s0) (Nat.le_trans (Nat.le_of_ble_eq_true rfl) hn)  h_s_4) (sh_Main (Nat.le_trans (Nat.le_of_ble_eq_true rfl) hn)) rfl (tb_gV w_728 w_730 w_18 w_63 w_731) a_Main_opn ⟨rfl, rfl, Nat.le_of_ble_eq_true rfl, Nat.le_of_ble_eq_true rfl⟩ rfl rfl (Nat.le_of_ble_eq_true rfl) d_Main_wins_27 (fun H locs hw => ?_)
      refine lv_aload_n hx hb d_Main_wins_30 rfl (lv_at hl 0 rfl) ?_
      refine r_get (v := .ref (ad 41)) K hw i_Main (sh_Main (Nat.le_trans (Nat.le_of_ble_eq_true rfl) hn)) rfl 7 (by decide) w_605 rfl rfl rfl d_Main_wins_31 ?_
      refine lv_bipush (v := 40) hx hb d_Main_wins_34 (by decide) ?_
      obtain ⟨s_5, h_s_5, hF⟩ := ob1E hF
      refine r_callVV (As := [.int (40 : Int32)]) (rest := []) K hw hl.1 (c_Bout_playTo (l := l) (D := D) (cA := cA) (ad := ad) (s0 := s_4) (Nat.le_trans (Nat.le_of_ble_eq_true rfl) hn)  h_s_5) (sh_Bout (Nat.le_trans (Nat.le_of_ble_eq_true rfl) hn)) rfl (tb_gV w_737 w_738 w_739 w_77 w_740) a_Bout_playTo ⟨rfl, rfl, Nat.le_of_ble_eq_true rfl, Nat.le_of_ble_eq_true rfl⟩ rfl rfl (Nat.le_of_ble_eq_true rfl) d_Main_wins_36 (fun H locs hw => ?_)
      refine lv_iload_n hx hb d_Main_wins_39 rfl (lv_at hl 3 rfl) ?_
      refine lv_if_ne (tgt := 50) hx hb d_Main_wins_40 (by decide) (fun c_6 => ?_) (fun c_6 => ?_)
      · replace hF := ifT hF c_6
        refine lv_aload_n hx hb d_Main_wins_50 rfl (lv_at hl 0 rfl) ?_
        refine r_get (v := .ref (ad 41)) K hw i_Main (sh_Main (Nat.le_trans (Nat.le_of_ble_eq_true rfl) hn)) rfl 7 (by decide) w_605 rfl rfl rfl d_Main_wins_51 ?_
        refine r_callVI (As := []) (rest := []) K hw hl.1 (c_Bout_isOver (l := l) (D := D) (cA := cA) (ad := ad) (s0 := s_5) (Nat.le_trans (Nat.le_of_ble_eq_true rfl) hn)  rfl) (sh_Bout (Nat.le_trans (Nat.le_of_ble_eq_true rfl) hn)) rfl (tb_gV w_780 w_742 w_743 w_77 w_744) a_Bout_isOver ⟨rfl, rfl, Nat.le_of_ble_eq_true rfl, Nat.le_of_ble_eq_true rfl⟩ rfl rfl (Nat.le_of_ble_eq_true rfl) d_Main_wins_54 (fun H locs hw => ?_)
        refine lv_if_eq (tgt := 70) hx hb d_Main_wins_57 (by decide) (fun c_7 => ?_) (fun c_7 => ?_)
        · replace hF := ifT hF c_7
          refine lv_iconst (v := -1) hx hb d_Main_wins_70 (by decide) ?_
          obtain ⟨hF, hG⟩ := sE2 hF
          subst hF
          subst hG
          exact r_iret K hw d_Main_wins_71
        · replace hF := ifF hF c_7
          refine lv_aload_n hx hb d_Main_wins_60 rfl (lv_at hl 0 rfl) ?_
          refine r_get (v := .ref (ad 41)) K hw i_Main (sh_Main (Nat.le_trans (Nat.le_of_ble_eq_true rfl) hn)) rfl 7 (by decide) w_605 rfl rfl rfl d_Main_wins_61 ?_
          refine r_get (v := .int (s_5.1 41 4)) K hw i_Bout (sh_Bout (Nat.le_trans (Nat.le_of_ble_eq_true rfl) hn)) rfl 4 (by decide) w_543 rfl rfl rfl d_Main_wins_64 ?_
          refine lv_goto (tgt := 71) hx hb d_Main_wins_67 (by decide) ?_
          obtain ⟨hF, hG⟩ := sE2 hF
          subst hF
          subst hG
          exact r_iret K hw d_Main_wins_71
      · replace hF := ifN hF c_6
        refine lv_aload_n hx hb d_Main_wins_43 rfl (lv_at hl 0 rfl) ?_
        refine lv_iload_n hx hb d_Main_wins_44 rfl (lv_at hl 1 rfl) ?_
        refine lv_iload_n hx hb d_Main_wins_45 rfl (lv_at hl 2 rfl) ?_
        refine r_callVI (As := [.int v1, .int v2]) (rest := []) K hw hl.1 (c_Main_winner (l := l) (D := D) (cA := cA) (ad := ad) (s0 := s_5) (Nat.le_trans (Nat.le_of_ble_eq_true rfl) hn)  rfl) (sh_Main (Nat.le_trans (Nat.le_of_ble_eq_true rfl) hn)) rfl (tb_gV w_776 w_778 w_19 w_63 w_779) a_Main_winner ⟨rfl, rfl, Nat.le_of_ble_eq_true rfl, Nat.le_of_ble_eq_true rfl⟩ rfl rfl (Nat.le_of_ble_eq_true rfl) d_Main_wins_46 (fun H locs hw => ?_)
        obtain ⟨hF, hG⟩ := sE2 hF
        subst hF
        subst hG
        exact r_iret K hw d_Main_wins_49
    · replace hF := ifN hF c_3
      refine lv_bipush (v := -7) hx hb d_Main_wins_21 (by decide) ?_
      obtain ⟨hF, hG⟩ := sE2 hF
      subst hF
      subst hG
      exact r_iret K hw d_Main_wins_23
  · replace hF := ifN hF c_2
    refine lv_bipush (v := -5) hx hb d_Main_wins_9 (by decide) ?_
    obtain ⟨hF, hG⟩ := sE2 hF
    subst hF
    subst hG
    exact r_iret K hw d_Main_wins_11
end S_Main_wins
noncomputable abbrev F_Main_wins := F_Main_wins_0
theorem c_Main_wins {l : Launch} {D : va_G} {cA : Nat → ClassId} {ad : Nat → Nat} {s0 τ : St} {nC : Nat} (hn : 46 ≤ nC) {r : Int32} {v1 : Int32} {v2 : Int32} {v3 : Int32}  (hF : F_Main_wins s0 v1 v2 v3 = (some (r, τ))) : MI l D cA ad (shC.take nC) y_Main_wins (wT y_Main_wins b_Main_wins 4 (some .int)) rm_Main_wins [.ref (ad 20), .int v1, .int v2, .int v3] s0 r τ := fun sz => m_start (Qc := fun A => QcI D cA ad (shC.take nC) A r τ) (by decide +kernel) w_775 (Nat.le_of_ble_eq_true rfl) (fun p e s m below meth c ls K hl hw => q_Main_wins_0 hn K _ _ _ _ _ _ _  hw hl hF)

/-! Main.fight(II)I -/
abbrev b_Main_fight : ByteArray := prog_1_method_12_code
def y_Main_fight : MethodName := ⟨R_Main, "fight", "(II)I"⟩
theorem a_Main_fight : y_Main_fight.cls = R_Main ∧ y_Main_fight.cls ≠ "java/lang/invoke/MethodHandle" ∧ y_Main_fight.cls ≠ "java/lang/invoke/VarHandle" ∧ (parseMethodDescriptor y_Main_fight.desc).map (fun d => d.parameters.length) = some 2 := by decide +kernel
abbrev rm_Main_fight : Room := { frames := 5, cells := 0, slots := 0, locals := 116 }
theorem w_784 : Cond.code y_Main_fight b_Main_fight 3 (some .int) ∈ TB := tb_in 784 (by decide +kernel) (by decide +kernel)
theorem d_Main_fight_0 : decode b_Main_fight 0 = .ok (.aload_n 0, 1) := by decide +kernel
theorem d_Main_fight_1 : decode b_Main_fight 1 = .ok (.iload_n 1, 1) := by decide +kernel
theorem d_Main_fight_2 : decode b_Main_fight 2 = .ok (.iload_n 2, 1) := by decide +kernel
theorem d_Main_fight_3 : decode b_Main_fight 3 = .ok (.invokevirtual 194, 3) := by decide +kernel
theorem d_Main_fight_6 : decode b_Main_fight 6 = .ok (.ifCond .ne 6, 3) := by decide +kernel
theorem d_Main_fight_9 : decode b_Main_fight 9 = .ok (.bipush (-100), 2) := by decide +kernel
theorem d_Main_fight_11 : decode b_Main_fight 11 = .ok (.ireturn, 1) := by decide +kernel
theorem d_Main_fight_12 : decode b_Main_fight 12 = .ok (.aload_n 0, 1) := by decide +kernel
theorem d_Main_fight_13 : decode b_Main_fight 13 = .ok (.iload_n 1, 1) := by decide +kernel
theorem d_Main_fight_14 : decode b_Main_fight 14 = .ok (.iload_n 2, 1) := by decide +kernel
theorem d_Main_fight_15 : decode b_Main_fight 15 = .ok (.invokevirtual 174, 3) := by decide +kernel
theorem d_Main_fight_18 : decode b_Main_fight 18 = .ok (.aload_n 0, 1) := by decide +kernel
theorem d_Main_fight_19 : decode b_Main_fight 19 = .ok (.getfield 86, 3) := by decide +kernel
theorem d_Main_fight_22 : decode b_Main_fight 22 = .ok (.bipush 40, 2) := by decide +kernel
theorem d_Main_fight_24 : decode b_Main_fight 24 = .ok (.invokevirtual 182, 3) := by decide +kernel
theorem d_Main_fight_27 : decode b_Main_fight 27 = .ok (.aload_n 0, 1) := by decide +kernel
theorem d_Main_fight_28 : decode b_Main_fight 28 = .ok (.getfield 11, 3) := by decide +kernel
theorem d_Main_fight_31 : decode b_Main_fight 31 = .ok (.iload_n 1, 1) := by decide +kernel
theorem d_Main_fight_32 : decode b_Main_fight 32 = .ok (.aaload, 1) := by decide +kernel
theorem d_Main_fight_33 : decode b_Main_fight 33 = .ok (.aload_n 0, 1) := by decide +kernel
theorem d_Main_fight_34 : decode b_Main_fight 34 = .ok (.getfield 86, 3) := by decide +kernel
theorem d_Main_fight_37 : decode b_Main_fight 37 = .ok (.getfield 123, 3) := by decide +kernel
theorem d_Main_fight_40 : decode b_Main_fight 40 = .ok (.getfield 133, 3) := by decide +kernel
theorem d_Main_fight_43 : decode b_Main_fight 43 = .ok (.putfield 152, 3) := by decide +kernel
theorem d_Main_fight_46 : decode b_Main_fight 46 = .ok (.aload_n 0, 1) := by decide +kernel
theorem d_Main_fight_47 : decode b_Main_fight 47 = .ok (.getfield 11, 3) := by decide +kernel
theorem d_Main_fight_50 : decode b_Main_fight 50 = .ok (.iload_n 2, 1) := by decide +kernel
theorem d_Main_fight_51 : decode b_Main_fight 51 = .ok (.aaload, 1) := by decide +kernel
theorem d_Main_fight_52 : decode b_Main_fight 52 = .ok (.aload_n 0, 1) := by decide +kernel
theorem d_Main_fight_53 : decode b_Main_fight 53 = .ok (.getfield 86, 3) := by decide +kernel
theorem d_Main_fight_56 : decode b_Main_fight 56 = .ok (.getfield 188, 3) := by decide +kernel
theorem d_Main_fight_59 : decode b_Main_fight 59 = .ok (.getfield 133, 3) := by decide +kernel
theorem d_Main_fight_62 : decode b_Main_fight 62 = .ok (.putfield 152, 3) := by decide +kernel
theorem d_Main_fight_65 : decode b_Main_fight 65 = .ok (.aload_n 0, 1) := by decide +kernel
theorem d_Main_fight_66 : decode b_Main_fight 66 = .ok (.getfield 86, 3) := by decide +kernel
theorem d_Main_fight_69 : decode b_Main_fight 69 = .ok (.getfield 185, 3) := by decide +kernel
theorem d_Main_fight_72 : decode b_Main_fight 72 = .ok (.ireturn, 1) := by decide +kernel
section S_Main_fight
variable {p : Program} {l : Launch} {e : Env} {s : State} {m : MethodId} {args : Array Value} {below : List Frame} {meth : Method} {c : Code} {D : va_G} {cA : Nat → ClassId} {ad : Nat → Nat} {nC : Nat} {A : Nat → Prop} {r : Int32} {τ : St}
noncomputable def F_Main_fight_0 (s0 : St) (v1 : Int32) (v2 : Int32) : Option (Int32 × St) := (ob1 (F_Main_areTwo s0 v1 v2) (fun r_1 => (if ¬ r_1 = 0 then (ob1 (F_Main_opn s0 v1 v2) (fun s_3 => (ob1 (F_Bout_playTo s_3 (40 : Int32)) (fun s_4 => (if inB v1 6 = true then (lt (up1 s_4 (27 + v1.toNatClampNeg) 4 (s_4.1 42 1)) (fun s_6 => (if inB v2 6 = true then (lt (up1 s_6 (27 + v2.toNatClampNeg) 4 (s_6.1 44 1)) (fun s_8 => (some ((s_8.1 41 3), s_8)))) else none))) else none))))) else (some ((-100 : Int32), s0)))))
set_option maxHeartbeats 4000000 in
set_option maxRecDepth 100000 in
theorem q_Main_fight_0 (hn : 46 ≤ nC) (K : Fx p s m args meth c b_Main_fight 3 R_Main (some .int))  : ∀ (H : Heap) (locs : List Loc) (ls : Array Slot) (s0 : St) (v1 : Int32) (v2 : Int32), Wh D cA ad (shC.take nC) A s s0 H locs → lv_has ls 3 [(0, .ref (ad 20)), (1, .int v1), (2, .int v2)] → F_Main_fight_0 s0 v1 v2 = (some (r, τ)) → W p l e rm_Main_fight s m args below meth c H locs 0 0 (MQ below (QcI D cA ad (shC.take nC) A r τ) args s 0 0 A) (F0 m 0 ls []) := by
  have hx := K.1.1; have hb := K.1.2.1
  intro H locs ls s0 v1 v2 hw hl hF
  unfold F_Main_fight_0 at hF
  refine lv_aload_n hx hb d_Main_fight_0 rfl (lv_at hl 0 rfl) ?_
  refine lv_iload_n hx hb d_Main_fight_1 rfl (lv_at hl 1 rfl) ?_
  refine lv_iload_n hx hb d_Main_fight_2 rfl (lv_at hl 2 rfl) ?_
  obtain ⟨r_1, h_r_1, hF⟩ := ob1E hF
  refine r_callVI (As := [.int v1, .int v2]) (rest := []) K hw hl.1 (c_Main_areTwo (l := l) (D := D) (cA := cA) (ad := ad) (s0 := s0) (Nat.le_trans (Nat.le_of_ble_eq_true rfl) hn)  h_r_1) (sh_Main (Nat.le_trans (Nat.le_of_ble_eq_true rfl) hn)) rfl (tb_gV w_724 w_726 w_17 w_63 w_727) a_Main_areTwo ⟨rfl, rfl, Nat.le_of_ble_eq_true rfl, Nat.le_of_ble_eq_true rfl⟩ rfl rfl (Nat.le_of_ble_eq_true rfl) d_Main_fight_3 (fun H locs hw => ?_)
  refine lv_if_ne (tgt := 12) hx hb d_Main_fight_6 (by decide) (fun c_2 => ?_) (fun c_2 => ?_)
  · replace hF := ifT hF c_2
    refine lv_aload_n hx hb d_Main_fight_12 rfl (lv_at hl 0 rfl) ?_
    refine lv_iload_n hx hb d_Main_fight_13 rfl (lv_at hl 1 rfl) ?_
    refine lv_iload_n hx hb d_Main_fight_14 rfl (lv_at hl 2 rfl) ?_
    obtain ⟨s_3, h_s_3, hF⟩ := ob1E hF
    refine r_callVV (As := [.int v1, .int v2]) (rest := []) K hw hl.1 (c_Main_opn (l := l) (D := D) (cA := cA) (ad := ad) (s0 := s0) (Nat.le_trans (Nat.le_of_ble_eq_true rfl) hn)  h_s_3) (sh_Main (Nat.le_trans (Nat.le_of_ble_eq_true rfl) hn)) rfl (tb_gV w_728 w_730 w_18 w_63 w_731) a_Main_opn ⟨rfl, rfl, Nat.le_of_ble_eq_true rfl, Nat.le_of_ble_eq_true rfl⟩ rfl rfl (Nat.le_of_ble_eq_true rfl) d_Main_fight_15 (fun H locs hw => ?_)
    refine lv_aload_n hx hb d_Main_fight_18 rfl (lv_at hl 0 rfl) ?_
    refine r_get (v := .ref (ad 41)) K hw i_Main (sh_Main (Nat.le_trans (Nat.le_of_ble_eq_true rfl) hn)) rfl 7 (by decide) w_605 rfl rfl rfl d_Main_fight_19 ?_
    refine lv_bipush (v := 40) hx hb d_Main_fight_22 (by decide) ?_
    obtain ⟨s_4, h_s_4, hF⟩ := ob1E hF
    refine r_callVV (As := [.int (40 : Int32)]) (rest := []) K hw hl.1 (c_Bout_playTo (l := l) (D := D) (cA := cA) (ad := ad) (s0 := s_3) (Nat.le_trans (Nat.le_of_ble_eq_true rfl) hn)  h_s_4) (sh_Bout (Nat.le_trans (Nat.le_of_ble_eq_true rfl) hn)) rfl (tb_gV w_737 w_738 w_739 w_77 w_740) a_Bout_playTo ⟨rfl, rfl, Nat.le_of_ble_eq_true rfl, Nat.le_of_ble_eq_true rfl⟩ rfl rfl (Nat.le_of_ble_eq_true rfl) d_Main_fight_24 (fun H locs hw => ?_)
    refine lv_aload_n hx hb d_Main_fight_27 rfl (lv_at hl 0 rfl) ?_
    refine r_get (v := .ref (ad 21)) K hw i_Main (sh_Main (Nat.le_trans (Nat.le_of_ble_eq_true rfl) hn)) rfl 0 (by decide) w_598 rfl rfl rfl d_Main_fight_28 ?_
    refine lv_iload_n hx hb d_Main_fight_31 rfl (lv_at hl 1 rfl) ?_
    obtain ⟨g_5, hF⟩ := ifG hF
    refine r_aald (k := v1.toNatClampNeg) K hw (sh_a21 (Nat.le_trans (Nat.le_of_ble_eq_true rfl) hn)) (rfl : (TYS cA)[1]? = some (cA 1, _)) rfl (inB_vp g_5) d_Main_fight_32 ?_
    refine lv_aload_n hx hb d_Main_fight_33 rfl (lv_at hl 0 rfl) ?_
    refine r_get (v := .ref (ad 41)) K hw i_Main (sh_Main (Nat.le_trans (Nat.le_of_ble_eq_true rfl) hn)) rfl 7 (by decide) w_605 rfl rfl rfl d_Main_fight_34 ?_
    refine r_get (v := .ref (ad 42)) K hw i_Bout (sh_Bout (Nat.le_trans (Nat.le_of_ble_eq_true rfl) hn)) rfl 0 (by decide) w_532 rfl rfl rfl d_Main_fight_37 ?_
    refine r_get (v := .int (s_4.1 42 1)) K hw i_Side (sh_Side (by decide) (Nat.le_trans (Nat.le_of_ble_eq_true rfl) hn)) rfl 1 (by decide) w_513 rfl rfl rfl d_Main_fight_40 ?_
    refine r_putI K hw i_Arm t_Arm t_Arm_ok n_Arm (sh_Arm (P_Arm_of g_5) (Nat.le_trans (Nat.le_of_ble_eq_true rfl) hn)) rfl 4 (by decide) w_155 rfl rfl rfl rfl rfl d_Main_fight_43 (fun s_6 f_s_6 H locs hw => ?_)
    replace hF := ltN hF f_s_6
    refine lv_aload_n hx hb d_Main_fight_46 rfl (lv_at hl 0 rfl) ?_
    refine r_get (v := .ref (ad 21)) K hw i_Main (sh_Main (Nat.le_trans (Nat.le_of_ble_eq_true rfl) hn)) rfl 0 (by decide) w_598 rfl rfl rfl d_Main_fight_47 ?_
    refine lv_iload_n hx hb d_Main_fight_50 rfl (lv_at hl 2 rfl) ?_
    obtain ⟨g_7, hF⟩ := ifG hF
    refine r_aald (k := v2.toNatClampNeg) K hw (sh_a21 (Nat.le_trans (Nat.le_of_ble_eq_true rfl) hn)) (rfl : (TYS cA)[1]? = some (cA 1, _)) rfl (inB_vp g_7) d_Main_fight_51 ?_
    refine lv_aload_n hx hb d_Main_fight_52 rfl (lv_at hl 0 rfl) ?_
    refine r_get (v := .ref (ad 41)) K hw i_Main (sh_Main (Nat.le_trans (Nat.le_of_ble_eq_true rfl) hn)) rfl 7 (by decide) w_605 rfl rfl rfl d_Main_fight_53 ?_
    refine r_get (v := .ref (ad 44)) K hw i_Bout (sh_Bout (Nat.le_trans (Nat.le_of_ble_eq_true rfl) hn)) rfl 1 (by decide) w_535 rfl rfl rfl d_Main_fight_56 ?_
    refine r_get (v := .int (s_6.1 44 1)) K hw i_Side (sh_Side (by decide) (Nat.le_trans (Nat.le_of_ble_eq_true rfl) hn)) rfl 1 (by decide) w_513 rfl rfl rfl d_Main_fight_59 ?_
    refine r_putI K hw i_Arm t_Arm t_Arm_ok n_Arm (sh_Arm (P_Arm_of g_7) (Nat.le_trans (Nat.le_of_ble_eq_true rfl) hn)) rfl 4 (by decide) w_155 rfl rfl rfl rfl rfl d_Main_fight_62 (fun s_8 f_s_8 H locs hw => ?_)
    replace hF := ltN hF f_s_8
    refine lv_aload_n hx hb d_Main_fight_65 rfl (lv_at hl 0 rfl) ?_
    refine r_get (v := .ref (ad 41)) K hw i_Main (sh_Main (Nat.le_trans (Nat.le_of_ble_eq_true rfl) hn)) rfl 7 (by decide) w_605 rfl rfl rfl d_Main_fight_66 ?_
    refine r_get (v := .int (s_8.1 41 3)) K hw i_Bout (sh_Bout (Nat.le_trans (Nat.le_of_ble_eq_true rfl) hn)) rfl 3 (by decide) w_540 rfl rfl rfl d_Main_fight_69 ?_
    obtain ⟨hF, hG⟩ := sE2 hF
    subst hF
    subst hG
    exact r_iret K hw d_Main_fight_72
  · replace hF := ifN hF c_2
    refine lv_bipush (v := -100) hx hb d_Main_fight_9 (by decide) ?_
    obtain ⟨hF, hG⟩ := sE2 hF
    subst hF
    subst hG
    exact r_iret K hw d_Main_fight_11
end S_Main_fight
noncomputable abbrev F_Main_fight := F_Main_fight_0
theorem c_Main_fight {l : Launch} {D : va_G} {cA : Nat → ClassId} {ad : Nat → Nat} {s0 τ : St} {nC : Nat} (hn : 46 ≤ nC) {r : Int32} {v1 : Int32} {v2 : Int32}  (hF : F_Main_fight s0 v1 v2 = (some (r, τ))) : MI l D cA ad (shC.take nC) y_Main_fight (wT y_Main_fight b_Main_fight 3 (some .int)) rm_Main_fight [.ref (ad 20), .int v1, .int v2] s0 r τ := fun sz => m_start (Qc := fun A => QcI D cA ad (shC.take nC) A r τ) (by decide +kernel) w_784 (Nat.le_of_ble_eq_true rfl) (fun p e s m below meth c ls K hl hw => q_Main_fight_0 hn K _ _ _ _ _ _  hw hl hF)

/-! Main.rest(I)I -/
abbrev b_Main_rest : ByteArray := prog_1_method_13_code
def y_Main_rest : MethodName := ⟨R_Main, "rest", "(I)I"⟩
theorem a_Main_rest : y_Main_rest.cls = R_Main ∧ y_Main_rest.cls ≠ "java/lang/invoke/MethodHandle" ∧ y_Main_rest.cls ≠ "java/lang/invoke/VarHandle" ∧ (parseMethodDescriptor y_Main_rest.desc).map (fun d => d.parameters.length) = some 1 := by decide +kernel
abbrev rm_Main_rest : Room := { frames := 1, cells := 0, slots := 0, locals := 40 }
theorem w_789 : Cond.methodLink R_Main 209 Lib.Math.min.name ∈ TB := tb_in 789 (by decide +kernel) (by decide +kernel)
theorem w_788 : Cond.code y_Main_rest b_Main_rest 4 (some .int) ∈ TB := tb_in 788 (by decide +kernel) (by decide +kernel)
theorem d_Main_rest_0 : decode b_Main_rest 0 = .ok (.iload_n 1, 1) := by decide +kernel
theorem d_Main_rest_1 : decode b_Main_rest 1 = .ok (.iconst 0, 1) := by decide +kernel
theorem d_Main_rest_2 : decode b_Main_rest 2 = .ok (.bipush 24, 2) := by decide +kernel
theorem d_Main_rest_4 : decode b_Main_rest 4 = .ok (.invokestatic 108, 3) := by decide +kernel
theorem d_Main_rest_7 : decode b_Main_rest 7 = .ok (.ifCond .ne 6, 3) := by decide +kernel
theorem d_Main_rest_10 : decode b_Main_rest 10 = .ok (.bipush (-2), 2) := by decide +kernel
theorem d_Main_rest_12 : decode b_Main_rest 12 = .ok (.ireturn, 1) := by decide +kernel
theorem d_Main_rest_13 : decode b_Main_rest 13 = .ok (.iconst 0, 1) := by decide +kernel
theorem d_Main_rest_14 : decode b_Main_rest 14 = .ok (.istore_n 2, 1) := by decide +kernel
theorem d_Main_rest_15 : decode b_Main_rest 15 = .ok (.iconst 0, 1) := by decide +kernel
theorem d_Main_rest_16 : decode b_Main_rest 16 = .ok (.istore_n 3, 1) := by decide +kernel
theorem d_Main_rest_17 : decode b_Main_rest 17 = .ok (.iload_n 3, 1) := by decide +kernel
theorem d_Main_rest_18 : decode b_Main_rest 18 = .ok (.aload_n 0, 1) := by decide +kernel
theorem d_Main_rest_19 : decode b_Main_rest 19 = .ok (.getfield 99, 3) := by decide +kernel
theorem d_Main_rest_22 : decode b_Main_rest 22 = .ok (.if_icmp .ge 46, 3) := by decide +kernel
theorem d_Main_rest_25 : decode b_Main_rest 25 = .ok (.aload_n 0, 1) := by decide +kernel
theorem d_Main_rest_26 : decode b_Main_rest 26 = .ok (.getfield 11, 3) := by decide +kernel
theorem d_Main_rest_29 : decode b_Main_rest 29 = .ok (.iload_n 3, 1) := by decide +kernel
theorem d_Main_rest_30 : decode b_Main_rest 30 = .ok (.aaload, 1) := by decide +kernel
theorem d_Main_rest_31 : decode b_Main_rest 31 = .ok (.bipush 24, 2) := by decide +kernel
theorem d_Main_rest_33 : decode b_Main_rest 33 = .ok (.aload_n 0, 1) := by decide +kernel
theorem d_Main_rest_34 : decode b_Main_rest 34 = .ok (.getfield 11, 3) := by decide +kernel
theorem d_Main_rest_37 : decode b_Main_rest 37 = .ok (.iload_n 3, 1) := by decide +kernel
theorem d_Main_rest_38 : decode b_Main_rest 38 = .ok (.aaload, 1) := by decide +kernel
theorem d_Main_rest_39 : decode b_Main_rest 39 = .ok (.getfield 152, 3) := by decide +kernel
theorem d_Main_rest_42 : decode b_Main_rest 42 = .ok (.iload_n 1, 1) := by decide +kernel
theorem d_Main_rest_43 : decode b_Main_rest 43 = .ok (.iadd, 1) := by decide +kernel
theorem d_Main_rest_44 : decode b_Main_rest 44 = .ok (.invokestatic 209, 3) := by decide +kernel
theorem d_Main_rest_47 : decode b_Main_rest 47 = .ok (.putfield 152, 3) := by decide +kernel
theorem d_Main_rest_50 : decode b_Main_rest 50 = .ok (.iload_n 2, 1) := by decide +kernel
theorem d_Main_rest_51 : decode b_Main_rest 51 = .ok (.aload_n 0, 1) := by decide +kernel
theorem d_Main_rest_52 : decode b_Main_rest 52 = .ok (.getfield 11, 3) := by decide +kernel
theorem d_Main_rest_55 : decode b_Main_rest 55 = .ok (.iload_n 3, 1) := by decide +kernel
theorem d_Main_rest_56 : decode b_Main_rest 56 = .ok (.aaload, 1) := by decide +kernel
theorem d_Main_rest_57 : decode b_Main_rest 57 = .ok (.getfield 152, 3) := by decide +kernel
theorem d_Main_rest_60 : decode b_Main_rest 60 = .ok (.iadd, 1) := by decide +kernel
theorem d_Main_rest_61 : decode b_Main_rest 61 = .ok (.istore_n 2, 1) := by decide +kernel
theorem d_Main_rest_62 : decode b_Main_rest 62 = .ok (.iinc 3 1, 3) := by decide +kernel
theorem d_Main_rest_65 : decode b_Main_rest 65 = .ok (.goto (-48), 3) := by decide +kernel
theorem d_Main_rest_68 : decode b_Main_rest 68 = .ok (.iload_n 2, 1) := by decide +kernel
theorem d_Main_rest_69 : decode b_Main_rest 69 = .ok (.ireturn, 1) := by decide +kernel
section S_Main_rest
variable {p : Program} {l : Launch} {e : Env} {s : State} {m : MethodId} {args : Array Value} {below : List Frame} {meth : Method} {c : Code} {D : va_G} {cA : Nat → ClassId} {ad : Nat → Nat} {nC : Nat} {A : Nat → Prop} {r : Int32} {τ : St}
noncomputable def F_Main_rest_17 : Nat → St → Int32 → Int32 → Int32 → Option (Int32 × St)
  | 0, _, _, _, _ => none
  | n + 1, s0, v1, v2, v3 => (if (s0.1 20 1) ≤ v3 then (some (v2, s0)) else (if inB v3 6 = true then (if inB v3 6 = true then (lt (up1 s0 (27 + v3.toNatClampNeg) 4 (if ((s0.1 (27 + v3.toNatClampNeg) 4) + v1) < (24 : Int32) then ((s0.1 (27 + v3.toNatClampNeg) 4) + v1) else (24 : Int32))) (fun s_5 => (if inB v3 6 = true then (F_Main_rest_17 n s_5 v1 (v2 + (s_5.1 (27 + v3.toNatClampNeg) 4)) (v3 + 1)) else none))) else none) else none))
set_option maxHeartbeats 4000000 in
set_option maxRecDepth 100000 in
theorem q_Main_rest_17 (hn : 33 ≤ nC) (K : Fx p s m args meth c b_Main_rest 4 R_Main (some .int))  : ∀ (n : Nat), ∀ (H : Heap) (locs : List Loc) (ls : Array Slot) (s0 : St) (v1 : Int32) (v2 : Int32) (v3 : Int32), Wh D cA ad (shC.take nC) A s s0 H locs → lv_has ls 4 [(0, .ref (ad 20)), (1, .int v1), (2, .int v2), (3, .int v3)] → F_Main_rest_17 n s0 v1 v2 v3 = (some (r, τ)) → W p l e rm_Main_rest s m args below meth c H locs 0 0 (MQ below (QcI D cA ad (shC.take nC) A r τ) args s 0 0 A) (F0 m 17 ls []) := by
  have hx := K.1.1; have hb := K.1.2.1
  intro n
  induction n with
  | zero =>
    intro H locs ls s0 v1 v2 v3 hw hl hF
    exact absurd hF (by rw [F_Main_rest_17]; exact nofun)
  | succ n ih =>
    intro H locs ls s0 v1 v2 v3 hw hl hF
    rw [F_Main_rest_17] at hF
    refine lv_iload_n hx hb d_Main_rest_17 rfl (lv_at hl 3 rfl) ?_
    refine lv_aload_n hx hb d_Main_rest_18 rfl (lv_at hl 0 rfl) ?_
    refine r_get (v := .int (s0.1 20 1)) K hw i_Main (sh_Main (Nat.le_trans (Nat.le_of_ble_eq_true rfl) hn)) rfl 1 (by decide) w_599 rfl rfl rfl d_Main_rest_19 ?_
    refine lv_icmp_ge (tgt := 68) hx hb d_Main_rest_22 (by decide) (fun c_2 => ?_) (fun c_2 => ?_)
    · replace hF := ifT hF c_2
      refine lv_iload_n hx hb d_Main_rest_68 rfl (lv_at hl 2 rfl) ?_
      obtain ⟨hF, hG⟩ := sE2 hF
      subst hF
      subst hG
      exact r_iret K hw d_Main_rest_69
    · replace hF := ifF hF c_2
      refine lv_aload_n hx hb d_Main_rest_25 rfl (lv_at hl 0 rfl) ?_
      refine r_get (v := .ref (ad 21)) K hw i_Main (sh_Main (Nat.le_trans (Nat.le_of_ble_eq_true rfl) hn)) rfl 0 (by decide) w_598 rfl rfl rfl d_Main_rest_26 ?_
      refine lv_iload_n hx hb d_Main_rest_29 rfl (lv_at hl 3 rfl) ?_
      obtain ⟨g_3, hF⟩ := ifG hF
      refine r_aald (k := v3.toNatClampNeg) K hw (sh_a21 (Nat.le_trans (Nat.le_of_ble_eq_true rfl) hn)) (rfl : (TYS cA)[1]? = some (cA 1, _)) rfl (inB_vp g_3) d_Main_rest_30 ?_
      refine lv_bipush (v := 24) hx hb d_Main_rest_31 (by decide) ?_
      refine lv_aload_n hx hb d_Main_rest_33 rfl (lv_at hl 0 rfl) ?_
      refine r_get (v := .ref (ad 21)) K hw i_Main (sh_Main (Nat.le_trans (Nat.le_of_ble_eq_true rfl) hn)) rfl 0 (by decide) w_598 rfl rfl rfl d_Main_rest_34 ?_
      refine lv_iload_n hx hb d_Main_rest_37 rfl (lv_at hl 3 rfl) ?_
      obtain ⟨g_4, hF⟩ := ifG hF
      refine r_aald (k := v3.toNatClampNeg) K hw (sh_a21 (Nat.le_trans (Nat.le_of_ble_eq_true rfl) hn)) (rfl : (TYS cA)[1]? = some (cA 1, _)) rfl (inB_vp g_4) d_Main_rest_38 ?_
      refine r_get (v := .int (s0.1 (27 + v3.toNatClampNeg) 4)) K hw i_Arm (sh_Arm (P_Arm_of g_4) (Nat.le_trans (Nat.le_of_ble_eq_true rfl) hn)) rfl 4 (by decide) w_155 rfl rfl rfl d_Main_rest_39 ?_
      refine lv_iload_n hx hb d_Main_rest_42 rfl (lv_at hl 1 rfl) ?_
      refine lv_iadd hx hb d_Main_rest_43 ?_
      refine va_mmin (rest := [.ref (ad (27 + v3.toNatClampNeg))]) hx hb (K.1.2.2.1.trans hl.1.symm) K.1.2.2.2.1 (K.1.2.2.2.2 _ w_789) (K.1.2.2.2.2 _ w_397) (K.1.2.2.2.2 _ w_75) (K.1.2.2.2.2 _ w_398) (Nat.le_of_ble_eq_true rfl) (Nat.le_of_ble_eq_true rfl) (Nat.zero_le _) (Nat.zero_le _) d_Main_rest_44 ?_
      refine r_putI K hw i_Arm t_Arm t_Arm_ok n_Arm (sh_Arm (P_Arm_of g_3) (Nat.le_trans (Nat.le_of_ble_eq_true rfl) hn)) rfl 4 (by decide) w_155 rfl rfl rfl rfl rfl d_Main_rest_47 (fun s_5 f_s_5 H locs hw => ?_)
      replace hF := ltN hF f_s_5
      refine lv_iload_n hx hb d_Main_rest_50 rfl (lv_at hl 2 rfl) ?_
      refine lv_aload_n hx hb d_Main_rest_51 rfl (lv_at hl 0 rfl) ?_
      refine r_get (v := .ref (ad 21)) K hw i_Main (sh_Main (Nat.le_trans (Nat.le_of_ble_eq_true rfl) hn)) rfl 0 (by decide) w_598 rfl rfl rfl d_Main_rest_52 ?_
      refine lv_iload_n hx hb d_Main_rest_55 rfl (lv_at hl 3 rfl) ?_
      obtain ⟨g_6, hF⟩ := ifG hF
      refine r_aald (k := v3.toNatClampNeg) K hw (sh_a21 (Nat.le_trans (Nat.le_of_ble_eq_true rfl) hn)) (rfl : (TYS cA)[1]? = some (cA 1, _)) rfl (inB_vp g_6) d_Main_rest_56 ?_
      refine r_get (v := .int (s_5.1 (27 + v3.toNatClampNeg) 4)) K hw i_Arm (sh_Arm (P_Arm_of g_6) (Nat.le_trans (Nat.le_of_ble_eq_true rfl) hn)) rfl 4 (by decide) w_155 rfl rfl rfl d_Main_rest_57 ?_
      refine lv_iadd hx hb d_Main_rest_60 ?_
      refine lv_istore_n (lv' := [(2, .int (v2 + (s_5.1 (27 + v3.toNatClampNeg) 4))), (0, .ref (ad 20)), (1, .int v1), (3, .int v3)]) hx hb d_Main_rest_61 rfl hl (by decide) rfl (fun ls hl => ?_)
      refine lv_iinc (v := (v3 + 1)) (lv' := [(3, .int (v3 + 1)), (2, .int (v2 + (s_5.1 (27 + v3.toNatClampNeg) 4))), (0, .ref (ad 20)), (1, .int v1)]) hx hb d_Main_rest_62 hl (k := 3) rfl rfl (by decide) rfl (fun ls hl => ?_)
      refine lv_goto (tgt := 17) hx hb d_Main_rest_65 (by decide) ?_
      exact ih _ _ _ _ _ _ _  hw (lv_sub hl [2, 3, 1, 0] rfl) hF
noncomputable def F_Main_rest_0 (s0 : St) (v1 : Int32) : Option (Int32 × St) := (if ¬ (F_Main_isWithin v1 (0 : Int32) (24 : Int32)) = 0 then (F_Main_rest_17 FU s0 v1 (0 : Int32) (0 : Int32)) else (some ((-2 : Int32), s0)))
set_option maxHeartbeats 4000000 in
set_option maxRecDepth 100000 in
theorem q_Main_rest_0 (hn : 33 ≤ nC) (K : Fx p s m args meth c b_Main_rest 4 R_Main (some .int))  : ∀ (H : Heap) (locs : List Loc) (ls : Array Slot) (s0 : St) (v1 : Int32), Wh D cA ad (shC.take nC) A s s0 H locs → lv_has ls 4 [(0, .ref (ad 20)), (1, .int v1)] → F_Main_rest_0 s0 v1 = (some (r, τ)) → W p l e rm_Main_rest s m args below meth c H locs 0 0 (MQ below (QcI D cA ad (shC.take nC) A r τ) args s 0 0 A) (F0 m 0 ls []) := by
  have hx := K.1.1; have hb := K.1.2.1
  intro H locs ls s0 v1 hw hl hF
  unfold F_Main_rest_0 at hF
  refine lv_iload_n hx hb d_Main_rest_0 rfl (lv_at hl 1 rfl) ?_
  refine lv_iconst (v := 0) hx hb d_Main_rest_1 (by decide) ?_
  refine lv_bipush (v := 24) hx hb d_Main_rest_2 (by decide) ?_
  refine r_callSI (As := [.int v1, .int (0 : Int32), .int (24 : Int32)]) (rest := []) K hw hl.1 (c_Main_isWithin (l := l) (D := D) (cA := cA) (ad := ad) (s0 := s0) (Nat.le_trans (Nat.le_of_ble_eq_true rfl) hn)  rfl) (tb_gS w_640 w_347 w_63 w_348) a_Main_isWithin ⟨rfl, rfl, Nat.le_of_ble_eq_true rfl, Nat.le_of_ble_eq_true rfl⟩ rfl rfl (Nat.le_of_ble_eq_true rfl) d_Main_rest_4 (fun H locs hw => ?_)
  refine lv_if_ne (tgt := 13) hx hb d_Main_rest_7 (by decide) (fun c_1 => ?_) (fun c_1 => ?_)
  · replace hF := ifT hF c_1
    refine lv_iconst (v := 0) hx hb d_Main_rest_13 (by decide) ?_
    refine lv_istore_n (lv' := [(2, .int (0 : Int32)), (0, .ref (ad 20)), (1, .int v1)]) hx hb d_Main_rest_14 rfl hl (by decide) rfl (fun ls hl => ?_)
    refine lv_iconst (v := 0) hx hb d_Main_rest_15 (by decide) ?_
    refine lv_istore_n (lv' := [(3, .int (0 : Int32)), (2, .int (0 : Int32)), (0, .ref (ad 20)), (1, .int v1)]) hx hb d_Main_rest_16 rfl hl (by decide) rfl (fun ls hl => ?_)
    exact q_Main_rest_17 hn K FU _ _ _ _ _ _ _  hw (lv_sub hl [2, 3, 1, 0] rfl) hF
  · replace hF := ifN hF c_1
    refine lv_bipush (v := -2) hx hb d_Main_rest_10 (by decide) ?_
    obtain ⟨hF, hG⟩ := sE2 hF
    subst hF
    subst hG
    exact r_iret K hw d_Main_rest_12
end S_Main_rest
noncomputable abbrev F_Main_rest := F_Main_rest_0
theorem c_Main_rest {l : Launch} {D : va_G} {cA : Nat → ClassId} {ad : Nat → Nat} {s0 τ : St} {nC : Nat} (hn : 33 ≤ nC) {r : Int32} {v1 : Int32}  (hF : F_Main_rest s0 v1 = (some (r, τ))) : MI l D cA ad (shC.take nC) y_Main_rest (wT y_Main_rest b_Main_rest 4 (some .int)) rm_Main_rest [.ref (ad 20), .int v1] s0 r τ := fun sz => m_start (Qc := fun A => QcI D cA ad (shC.take nC) A r τ) (by decide +kernel) w_788 (Nat.le_of_ble_eq_true rfl) (fun p e s m below meth c ls K hl hw => q_Main_rest_0 hn K _ _ _ _ _  hw hl hF)

/-! Seeker.firstOther(I)I -/
abbrev b_Seeker_firstOther : ByteArray := prog_6_method_3_code
def y_Seeker_firstOther : MethodName := ⟨R_Seeker, "firstOthe\x72", "(I)I"⟩
theorem a_Seeker_firstOther : y_Seeker_firstOther.cls = R_Seeker ∧ y_Seeker_firstOther.cls ≠ "java/lang/invoke/MethodHandle" ∧ y_Seeker_firstOther.cls ≠ "java/lang/invoke/VarHandle" ∧ (parseMethodDescriptor y_Seeker_firstOther.desc).map (fun d => d.parameters.length) = some 1 := by decide +kernel
abbrev rm_Seeker_firstOther : Room := { frames := 0, cells := 0, slots := 0, locals := 0 }
theorem w_804 : Cond.code y_Seeker_firstOther b_Seeker_firstOther 1 (some .int) ∈ TB := tb_in 804 (by decide +kernel) (by decide +kernel)
theorem d_Seeker_firstOther_0 : decode b_Seeker_firstOther 0 = .ok (.iload_n 0, 1) := by decide +kernel
theorem d_Seeker_firstOther_1 : decode b_Seeker_firstOther 1 = .ok (.bipush 64, 2) := by decide +kernel
theorem d_Seeker_firstOther_3 : decode b_Seeker_firstOther 3 = .ok (.irem, 1) := by decide +kernel
theorem d_Seeker_firstOther_4 : decode b_Seeker_firstOther 4 = .ok (.ifCond .ne 5, 3) := by decide +kernel
theorem d_Seeker_firstOther_7 : decode b_Seeker_firstOther 7 = .ok (.iconst 0, 1) := by decide +kernel
theorem d_Seeker_firstOther_8 : decode b_Seeker_firstOther 8 = .ok (.ireturn, 1) := by decide +kernel
theorem d_Seeker_firstOther_9 : decode b_Seeker_firstOther 9 = .ok (.iload_n 0, 1) := by decide +kernel
theorem d_Seeker_firstOther_10 : decode b_Seeker_firstOther 10 = .ok (.bipush 16, 2) := by decide +kernel
theorem d_Seeker_firstOther_12 : decode b_Seeker_firstOther 12 = .ok (.irem, 1) := by decide +kernel
theorem d_Seeker_firstOther_13 : decode b_Seeker_firstOther 13 = .ok (.ifCond .ne 5, 3) := by decide +kernel
theorem d_Seeker_firstOther_16 : decode b_Seeker_firstOther 16 = .ok (.iconst 1, 1) := by decide +kernel
theorem d_Seeker_firstOther_17 : decode b_Seeker_firstOther 17 = .ok (.ireturn, 1) := by decide +kernel
theorem d_Seeker_firstOther_18 : decode b_Seeker_firstOther 18 = .ok (.iload_n 0, 1) := by decide +kernel
theorem d_Seeker_firstOther_19 : decode b_Seeker_firstOther 19 = .ok (.iconst 4, 1) := by decide +kernel
theorem d_Seeker_firstOther_20 : decode b_Seeker_firstOther 20 = .ok (.irem, 1) := by decide +kernel
theorem d_Seeker_firstOther_21 : decode b_Seeker_firstOther 21 = .ok (.ifCond .ne 7, 3) := by decide +kernel
theorem d_Seeker_firstOther_24 : decode b_Seeker_firstOther 24 = .ok (.iconst 2, 1) := by decide +kernel
theorem d_Seeker_firstOther_25 : decode b_Seeker_firstOther 25 = .ok (.goto 4, 3) := by decide +kernel
theorem d_Seeker_firstOther_28 : decode b_Seeker_firstOther 28 = .ok (.iconst 3, 1) := by decide +kernel
theorem d_Seeker_firstOther_29 : decode b_Seeker_firstOther 29 = .ok (.ireturn, 1) := by decide +kernel
section S_Seeker_firstOther
variable {p : Program} {l : Launch} {e : Env} {s : State} {m : MethodId} {args : Array Value} {below : List Frame} {meth : Method} {c : Code} {D : va_G} {cA : Nat → ClassId} {ad : Nat → Nat} {nC : Nat} {A : Nat → Prop} {r : Int32} {τ : St}
noncomputable def F_Seeker_firstOther_0 (v0 : Int32) : Int32 := (if ¬ (jrem v0 (64 : Int32)) = 0 then (if ¬ (jrem v0 (16 : Int32)) = 0 then (if ¬ (jrem v0 (4 : Int32)) = 0 then (3 : Int32) else (2 : Int32)) else (1 : Int32)) else (0 : Int32))
set_option maxHeartbeats 4000000 in
set_option maxRecDepth 100000 in
theorem q_Seeker_firstOther_0 (hn : 0 ≤ nC) (s0 : St) (K : Fx p s m args meth c b_Seeker_firstOther 1 R_Seeker (some .int))  : ∀ (H : Heap) (locs : List Loc) (ls : Array Slot) (v0 : Int32), Wh D cA ad (shC.take nC) A s s0 H locs → lv_has ls 1 [(0, .int v0)] → F_Seeker_firstOther_0 v0 = r → W p l e rm_Seeker_firstOther s m args below meth c H locs 0 0 (MQ below (QcI D cA ad (shC.take nC) A r s0) args s 0 0 A) (F0 m 0 ls []) := by
  have hx := K.1.1; have hb := K.1.2.1
  intro H locs ls v0 hw hl hF
  unfold F_Seeker_firstOther_0 at hF
  refine lv_iload_n hx hb d_Seeker_firstOther_0 rfl (lv_at hl 0 rfl) ?_
  refine lv_bipush (v := 64) hx hb d_Seeker_firstOther_1 (by decide) ?_
  refine lv_irem hx hb d_Seeker_firstOther_3 (by decide) ?_
  refine lv_if_ne (tgt := 9) hx hb d_Seeker_firstOther_4 (by decide) (fun c_1 => ?_) (fun c_1 => ?_)
  · replace hF := ifT hF c_1
    refine lv_iload_n hx hb d_Seeker_firstOther_9 rfl (lv_at hl 0 rfl) ?_
    refine lv_bipush (v := 16) hx hb d_Seeker_firstOther_10 (by decide) ?_
    refine lv_irem hx hb d_Seeker_firstOther_12 (by decide) ?_
    refine lv_if_ne (tgt := 18) hx hb d_Seeker_firstOther_13 (by decide) (fun c_2 => ?_) (fun c_2 => ?_)
    · replace hF := ifT hF c_2
      refine lv_iload_n hx hb d_Seeker_firstOther_18 rfl (lv_at hl 0 rfl) ?_
      refine lv_iconst (v := 4) hx hb d_Seeker_firstOther_19 (by decide) ?_
      refine lv_irem hx hb d_Seeker_firstOther_20 (by decide) ?_
      refine lv_if_ne (tgt := 28) hx hb d_Seeker_firstOther_21 (by decide) (fun c_3 => ?_) (fun c_3 => ?_)
      · replace hF := ifT hF c_3
        refine lv_iconst (v := 3) hx hb d_Seeker_firstOther_28 (by decide) ?_
        subst hF
        exact r_iret K hw d_Seeker_firstOther_29
      · replace hF := ifN hF c_3
        refine lv_iconst (v := 2) hx hb d_Seeker_firstOther_24 (by decide) ?_
        refine lv_goto (tgt := 29) hx hb d_Seeker_firstOther_25 (by decide) ?_
        subst hF
        exact r_iret K hw d_Seeker_firstOther_29
    · replace hF := ifN hF c_2
      refine lv_iconst (v := 1) hx hb d_Seeker_firstOther_16 (by decide) ?_
      subst hF
      exact r_iret K hw d_Seeker_firstOther_17
  · replace hF := ifN hF c_1
    refine lv_iconst (v := 0) hx hb d_Seeker_firstOther_7 (by decide) ?_
    subst hF
    exact r_iret K hw d_Seeker_firstOther_8
end S_Seeker_firstOther
noncomputable abbrev F_Seeker_firstOther := F_Seeker_firstOther_0
theorem c_Seeker_firstOther {l : Launch} {D : va_G} {cA : Nat → ClassId} {ad : Nat → Nat} {s0 : St} {nC : Nat} (hn : 0 ≤ nC) {r : Int32} {v0 : Int32}  (hF : F_Seeker_firstOther v0 = r) : MI l D cA ad (shC.take nC) y_Seeker_firstOther (wT y_Seeker_firstOther b_Seeker_firstOther 1 (some .int)) rm_Seeker_firstOther [.int v0] s0 r s0 := fun sz => m_start (Qc := fun A => QcI D cA ad (shC.take nC) A r s0) (by decide +kernel) w_804 (Nat.le_of_ble_eq_true rfl) (fun p e s m below meth c ls K hl hw => q_Seeker_firstOther_0 hn s0 K _ _ _ _  hw hl hF)

/-! Seeker.isBetter()Z -/
abbrev b_Seeker_isBetter : ByteArray := prog_6_method_6_code
def y_Seeker_isBetter : MethodName := ⟨R_Seeker, "isBette\x72", "()Z"⟩
theorem a_Seeker_isBetter : y_Seeker_isBetter.cls = R_Seeker ∧ y_Seeker_isBetter.cls ≠ "java/lang/invoke/MethodHandle" ∧ y_Seeker_isBetter.cls ≠ "java/lang/invoke/VarHandle" ∧ (parseMethodDescriptor y_Seeker_isBetter.desc).map (fun d => d.parameters.length) = some 0 := by decide +kernel
abbrev rm_Seeker_isBetter : Room := { frames := 0, cells := 0, slots := 0, locals := 0 }
theorem w_569 : Cond.fieldLink R_Seeker 21 R_Seeker "bout" "LArmAgainstArm$Bout;" ∈ TB := tb_in 569 (by decide +kernel) (by decide +kernel)
theorem w_539 : Cond.fieldLink R_Seeker 55 R_Bout "angle" "I" ∈ TB := tb_in 539 (by decide +kernel) (by decide +kernel)
theorem w_575 : Cond.fieldLink R_Seeker 73 R_Seeker "angle" "I" ∈ TB := tb_in 575 (by decide +kernel) (by decide +kernel)
theorem w_531 : Cond.fieldLink R_Seeker 25 R_Bout "a" "LArmAgainstArm$Side;" ∈ TB := tb_in 531 (by decide +kernel) (by decide +kernel)
theorem w_512 : Cond.fieldLink R_Seeker 64 R_Side "hold" "I" ∈ TB := tb_in 512 (by decide +kernel) (by decide +kernel)
theorem w_577 : Cond.fieldLink R_Seeker 74 R_Seeker "hold" "I" ∈ TB := tb_in 577 (by decide +kernel) (by decide +kernel)
theorem w_813 : Cond.code y_Seeker_isBetter b_Seeker_isBetter 1 (some .boolean) ∈ TB := tb_in 813 (by decide +kernel) (by decide +kernel)
theorem d_Seeker_isBetter_0 : decode b_Seeker_isBetter 0 = .ok (.aload_n 0, 1) := by decide +kernel
theorem d_Seeker_isBetter_1 : decode b_Seeker_isBetter 1 = .ok (.getfield 21, 3) := by decide +kernel
theorem d_Seeker_isBetter_4 : decode b_Seeker_isBetter 4 = .ok (.getfield 55, 3) := by decide +kernel
theorem d_Seeker_isBetter_7 : decode b_Seeker_isBetter 7 = .ok (.aload_n 0, 1) := by decide +kernel
theorem d_Seeker_isBetter_8 : decode b_Seeker_isBetter 8 = .ok (.getfield 73, 3) := by decide +kernel
theorem d_Seeker_isBetter_11 : decode b_Seeker_isBetter 11 = .ok (.if_icmp .gt 34, 3) := by decide +kernel
theorem d_Seeker_isBetter_14 : decode b_Seeker_isBetter 14 = .ok (.aload_n 0, 1) := by decide +kernel
theorem d_Seeker_isBetter_15 : decode b_Seeker_isBetter 15 = .ok (.getfield 21, 3) := by decide +kernel
theorem d_Seeker_isBetter_18 : decode b_Seeker_isBetter 18 = .ok (.getfield 55, 3) := by decide +kernel
theorem d_Seeker_isBetter_21 : decode b_Seeker_isBetter 21 = .ok (.aload_n 0, 1) := by decide +kernel
theorem d_Seeker_isBetter_22 : decode b_Seeker_isBetter 22 = .ok (.getfield 73, 3) := by decide +kernel
theorem d_Seeker_isBetter_25 : decode b_Seeker_isBetter 25 = .ok (.if_icmp .ne 24, 3) := by decide +kernel
theorem d_Seeker_isBetter_28 : decode b_Seeker_isBetter 28 = .ok (.aload_n 0, 1) := by decide +kernel
theorem d_Seeker_isBetter_29 : decode b_Seeker_isBetter 29 = .ok (.getfield 21, 3) := by decide +kernel
theorem d_Seeker_isBetter_32 : decode b_Seeker_isBetter 32 = .ok (.getfield 25, 3) := by decide +kernel
theorem d_Seeker_isBetter_35 : decode b_Seeker_isBetter 35 = .ok (.getfield 64, 3) := by decide +kernel
theorem d_Seeker_isBetter_38 : decode b_Seeker_isBetter 38 = .ok (.aload_n 0, 1) := by decide +kernel
theorem d_Seeker_isBetter_39 : decode b_Seeker_isBetter 39 = .ok (.getfield 74, 3) := by decide +kernel
theorem d_Seeker_isBetter_42 : decode b_Seeker_isBetter 42 = .ok (.if_icmp .le 7, 3) := by decide +kernel
theorem d_Seeker_isBetter_45 : decode b_Seeker_isBetter 45 = .ok (.iconst 1, 1) := by decide +kernel
theorem d_Seeker_isBetter_46 : decode b_Seeker_isBetter 46 = .ok (.goto 4, 3) := by decide +kernel
theorem d_Seeker_isBetter_49 : decode b_Seeker_isBetter 49 = .ok (.iconst 0, 1) := by decide +kernel
theorem d_Seeker_isBetter_50 : decode b_Seeker_isBetter 50 = .ok (.ireturn, 1) := by decide +kernel
section S_Seeker_isBetter
variable {p : Program} {l : Launch} {e : Env} {s : State} {m : MethodId} {args : Array Value} {below : List Frame} {meth : Method} {c : Code} {D : va_G} {cA : Nat → ClassId} {ad : Nat → Nat} {nC : Nat} {A : Nat → Prop} {r : Int32} {τ : St}
noncomputable def F_Seeker_isBetter_0 (s0 : St) : Int32 := (if (s0.1 46 5) < (s0.1 41 3) then (1 : Int32) else (if ¬ (s0.1 41 3) = (s0.1 46 5) then (0 : Int32) else (if (s0.1 42 1) ≤ (s0.1 46 6) then (0 : Int32) else (1 : Int32))))
set_option maxHeartbeats 4000000 in
set_option maxRecDepth 100000 in
theorem q_Seeker_isBetter_0 (hn : 47 ≤ nC) (s0 : St) (K : Fx p s m args meth c b_Seeker_isBetter 1 R_Seeker (some .boolean))  : ∀ (H : Heap) (locs : List Loc) (ls : Array Slot), Wh D cA ad (shC.take nC) A s s0 H locs → lv_has ls 1 [(0, .ref (ad 46))] → F_Seeker_isBetter_0 s0  = r → W p l e rm_Seeker_isBetter s m args below meth c H locs 0 0 (MQ below (QcI D cA ad (shC.take nC) A r s0) args s 0 0 A) (F0 m 0 ls []) := by
  have hx := K.1.1; have hb := K.1.2.1
  intro H locs ls  hw hl hF
  unfold F_Seeker_isBetter_0 at hF
  refine lv_aload_n hx hb d_Seeker_isBetter_0 rfl (lv_at hl 0 rfl) ?_
  refine r_get (v := .ref (ad 41)) K hw i_Seeker (sh_Seeker (Nat.le_trans (Nat.le_of_ble_eq_true rfl) hn)) rfl 0 (by decide) w_569 rfl rfl rfl d_Seeker_isBetter_1 ?_
  refine r_get (v := .int (s0.1 41 3)) K hw i_Bout (sh_Bout (Nat.le_trans (Nat.le_of_ble_eq_true rfl) hn)) rfl 3 (by decide) w_539 rfl rfl rfl d_Seeker_isBetter_4 ?_
  refine lv_aload_n hx hb d_Seeker_isBetter_7 rfl (lv_at hl 0 rfl) ?_
  refine r_get (v := .int (s0.1 46 5)) K hw i_Seeker (sh_Seeker (Nat.le_trans (Nat.le_of_ble_eq_true rfl) hn)) rfl 5 (by decide) w_575 rfl rfl rfl d_Seeker_isBetter_8 ?_
  refine lv_icmp_gt (tgt := 45) hx hb d_Seeker_isBetter_11 (by decide) (fun c_1 => ?_) (fun c_1 => ?_)
  · replace hF := ifT hF c_1
    refine lv_iconst (v := 1) hx hb d_Seeker_isBetter_45 (by decide) ?_
    refine lv_goto (tgt := 50) hx hb d_Seeker_isBetter_46 (by decide) ?_
    subst hF
    exact r_zret K hw (by decide) d_Seeker_isBetter_50
  · replace hF := ifF hF c_1
    refine lv_aload_n hx hb d_Seeker_isBetter_14 rfl (lv_at hl 0 rfl) ?_
    refine r_get (v := .ref (ad 41)) K hw i_Seeker (sh_Seeker (Nat.le_trans (Nat.le_of_ble_eq_true rfl) hn)) rfl 0 (by decide) w_569 rfl rfl rfl d_Seeker_isBetter_15 ?_
    refine r_get (v := .int (s0.1 41 3)) K hw i_Bout (sh_Bout (Nat.le_trans (Nat.le_of_ble_eq_true rfl) hn)) rfl 3 (by decide) w_539 rfl rfl rfl d_Seeker_isBetter_18 ?_
    refine lv_aload_n hx hb d_Seeker_isBetter_21 rfl (lv_at hl 0 rfl) ?_
    refine r_get (v := .int (s0.1 46 5)) K hw i_Seeker (sh_Seeker (Nat.le_trans (Nat.le_of_ble_eq_true rfl) hn)) rfl 5 (by decide) w_575 rfl rfl rfl d_Seeker_isBetter_22 ?_
    refine lv_icmp_ne (tgt := 49) hx hb d_Seeker_isBetter_25 (by decide) (fun c_2 => ?_) (fun c_2 => ?_)
    · replace hF := ifT hF c_2
      refine lv_iconst (v := 0) hx hb d_Seeker_isBetter_49 (by decide) ?_
      subst hF
      exact r_zret K hw (by decide) d_Seeker_isBetter_50
    · replace hF := ifN hF c_2
      refine lv_aload_n hx hb d_Seeker_isBetter_28 rfl (lv_at hl 0 rfl) ?_
      refine r_get (v := .ref (ad 41)) K hw i_Seeker (sh_Seeker (Nat.le_trans (Nat.le_of_ble_eq_true rfl) hn)) rfl 0 (by decide) w_569 rfl rfl rfl d_Seeker_isBetter_29 ?_
      refine r_get (v := .ref (ad 42)) K hw i_Bout (sh_Bout (Nat.le_trans (Nat.le_of_ble_eq_true rfl) hn)) rfl 0 (by decide) w_531 rfl rfl rfl d_Seeker_isBetter_32 ?_
      refine r_get (v := .int (s0.1 42 1)) K hw i_Side (sh_Side (by decide) (Nat.le_trans (Nat.le_of_ble_eq_true rfl) hn)) rfl 1 (by decide) w_512 rfl rfl rfl d_Seeker_isBetter_35 ?_
      refine lv_aload_n hx hb d_Seeker_isBetter_38 rfl (lv_at hl 0 rfl) ?_
      refine r_get (v := .int (s0.1 46 6)) K hw i_Seeker (sh_Seeker (Nat.le_trans (Nat.le_of_ble_eq_true rfl) hn)) rfl 6 (by decide) w_577 rfl rfl rfl d_Seeker_isBetter_39 ?_
      refine lv_icmp_le (tgt := 49) hx hb d_Seeker_isBetter_42 (by decide) (fun c_3 => ?_) (fun c_3 => ?_)
      · replace hF := ifT hF c_3
        refine lv_iconst (v := 0) hx hb d_Seeker_isBetter_49 (by decide) ?_
        subst hF
        exact r_zret K hw (by decide) d_Seeker_isBetter_50
      · replace hF := ifF hF c_3
        refine lv_iconst (v := 1) hx hb d_Seeker_isBetter_45 (by decide) ?_
        refine lv_goto (tgt := 50) hx hb d_Seeker_isBetter_46 (by decide) ?_
        subst hF
        exact r_zret K hw (by decide) d_Seeker_isBetter_50
end S_Seeker_isBetter
noncomputable abbrev F_Seeker_isBetter := F_Seeker_isBetter_0
theorem c_Seeker_isBetter {l : Launch} {D : va_G} {cA : Nat → ClassId} {ad : Nat → Nat} {s0 : St} {nC : Nat} (hn : 47 ≤ nC) {r : Int32}   (hF : F_Seeker_isBetter s0 = r) : MI l D cA ad (shC.take nC) y_Seeker_isBetter (wT y_Seeker_isBetter b_Seeker_isBetter 1 (some .boolean)) rm_Seeker_isBetter [.ref (ad 46)] s0 r s0 := fun sz => m_start (Qc := fun A => QcI D cA ad (shC.take nC) A r s0) (by decide +kernel) w_813 (Nat.le_of_ble_eq_true rfl) (fun p e s m below meth c ls K hl hw => q_Seeker_isBetter_0 hn s0 K _ _ _   hw hl hF)

/-! Seeker.keep(I)V -/
abbrev b_Seeker_keep : ByteArray := prog_6_method_5_code
def y_Seeker_keep : MethodName := ⟨R_Seeker, "keep", "(I)V"⟩
theorem a_Seeker_keep : y_Seeker_keep.cls = R_Seeker ∧ y_Seeker_keep.cls ≠ "java/lang/invoke/MethodHandle" ∧ y_Seeker_keep.cls ≠ "java/lang/invoke/VarHandle" ∧ (parseMethodDescriptor y_Seeker_keep.desc).map (fun d => d.parameters.length) = some 1 := by decide +kernel
abbrev rm_Seeker_keep : Room := { frames := 0, cells := 0, slots := 0, locals := 0 }
theorem w_570 : Cond.fieldLink R_Seeker 9 R_Seeker "angles" "[I" ∈ TB := tb_in 570 (by decide +kernel) (by decide +kernel)
theorem w_571 : Cond.fieldLink R_Seeker 15 R_Seeker "holdsA" "[I" ∈ TB := tb_in 571 (by decide +kernel) (by decide +kernel)
theorem w_572 : Cond.fieldLink R_Seeker 18 R_Seeker "holdsB" "[I" ∈ TB := tb_in 572 (by decide +kernel) (by decide +kernel)
theorem w_534 : Cond.fieldLink R_Seeker 67 R_Bout "b" "LArmAgainstArm$Side;" ∈ TB := tb_in 534 (by decide +kernel) (by decide +kernel)
theorem w_801 : Cond.code y_Seeker_keep b_Seeker_keep 2 none ∈ TB := tb_in 801 (by decide +kernel) (by decide +kernel)
theorem d_Seeker_keep_0 : decode b_Seeker_keep 0 = .ok (.aload_n 0, 1) := by decide +kernel
theorem d_Seeker_keep_1 : decode b_Seeker_keep 1 = .ok (.getfield 9, 3) := by decide +kernel
theorem d_Seeker_keep_4 : decode b_Seeker_keep 4 = .ok (.iload_n 1, 1) := by decide +kernel
theorem d_Seeker_keep_5 : decode b_Seeker_keep 5 = .ok (.aload_n 0, 1) := by decide +kernel
theorem d_Seeker_keep_6 : decode b_Seeker_keep 6 = .ok (.getfield 21, 3) := by decide +kernel
theorem d_Seeker_keep_9 : decode b_Seeker_keep 9 = .ok (.getfield 55, 3) := by decide +kernel
theorem d_Seeker_keep_12 : decode b_Seeker_keep 12 = .ok (.iastore, 1) := by decide +kernel
theorem d_Seeker_keep_13 : decode b_Seeker_keep 13 = .ok (.aload_n 0, 1) := by decide +kernel
theorem d_Seeker_keep_14 : decode b_Seeker_keep 14 = .ok (.getfield 15, 3) := by decide +kernel
theorem d_Seeker_keep_17 : decode b_Seeker_keep 17 = .ok (.iload_n 1, 1) := by decide +kernel
theorem d_Seeker_keep_18 : decode b_Seeker_keep 18 = .ok (.aload_n 0, 1) := by decide +kernel
theorem d_Seeker_keep_19 : decode b_Seeker_keep 19 = .ok (.getfield 21, 3) := by decide +kernel
theorem d_Seeker_keep_22 : decode b_Seeker_keep 22 = .ok (.getfield 25, 3) := by decide +kernel
theorem d_Seeker_keep_25 : decode b_Seeker_keep 25 = .ok (.getfield 64, 3) := by decide +kernel
theorem d_Seeker_keep_28 : decode b_Seeker_keep 28 = .ok (.iastore, 1) := by decide +kernel
theorem d_Seeker_keep_29 : decode b_Seeker_keep 29 = .ok (.aload_n 0, 1) := by decide +kernel
theorem d_Seeker_keep_30 : decode b_Seeker_keep 30 = .ok (.getfield 18, 3) := by decide +kernel
theorem d_Seeker_keep_33 : decode b_Seeker_keep 33 = .ok (.iload_n 1, 1) := by decide +kernel
theorem d_Seeker_keep_34 : decode b_Seeker_keep 34 = .ok (.aload_n 0, 1) := by decide +kernel
theorem d_Seeker_keep_35 : decode b_Seeker_keep 35 = .ok (.getfield 21, 3) := by decide +kernel
theorem d_Seeker_keep_38 : decode b_Seeker_keep 38 = .ok (.getfield 67, 3) := by decide +kernel
theorem d_Seeker_keep_41 : decode b_Seeker_keep 41 = .ok (.getfield 64, 3) := by decide +kernel
theorem d_Seeker_keep_44 : decode b_Seeker_keep 44 = .ok (.iastore, 1) := by decide +kernel
theorem d_Seeker_keep_45 : decode b_Seeker_keep 45 = .ok (.return_, 1) := by decide +kernel
section S_Seeker_keep
variable {p : Program} {l : Launch} {e : Env} {s : State} {m : MethodId} {args : Array Value} {below : List Frame} {meth : Method} {c : Code} {D : va_G} {cA : Nat → ClassId} {ad : Nat → Nat} {nC : Nat} {A : Nat → Prop} {τ : St}
noncomputable def F_Seeker_keep_0 (s0 : St) (v1 : Int32) : Option St := (if inB v1 4 = true then (lt (up1 s0 47 v1.toNatClampNeg (s0.1 41 3)) (fun s_2 => (if inB v1 4 = true then (lt (up1 s_2 48 v1.toNatClampNeg (s_2.1 42 1)) (fun s_4 => (if inB v1 4 = true then (lt (up1 s_4 49 v1.toNatClampNeg (s_4.1 44 1)) (fun s_6 => (some s_6))) else none))) else none))) else none)
set_option maxHeartbeats 4000000 in
set_option maxRecDepth 100000 in
theorem q_Seeker_keep_0 (hn : 50 ≤ nC) (K : Fx p s m args meth c b_Seeker_keep 2 R_Seeker none)  : ∀ (H : Heap) (locs : List Loc) (ls : Array Slot) (s0 : St) (v1 : Int32), Wh D cA ad (shC.take nC) A s s0 H locs → lv_has ls 2 [(0, .ref (ad 46)), (1, .int v1)] → F_Seeker_keep_0 s0 v1 = (some τ) → W p l e rm_Seeker_keep s m args below meth c H locs 0 0 (MQ below (QcV D cA ad (shC.take nC) A τ) args s 0 0 A) (F0 m 0 ls []) := by
  have hx := K.1.1; have hb := K.1.2.1
  intro H locs ls s0 v1 hw hl hF
  unfold F_Seeker_keep_0 at hF
  refine lv_aload_n hx hb d_Seeker_keep_0 rfl (lv_at hl 0 rfl) ?_
  refine r_get (v := .ref (ad 47)) K hw i_Seeker (sh_Seeker (Nat.le_trans (Nat.le_of_ble_eq_true rfl) hn)) rfl 1 (by decide) w_570 rfl rfl rfl d_Seeker_keep_1 ?_
  refine lv_iload_n hx hb d_Seeker_keep_4 rfl (lv_at hl 1 rfl) ?_
  refine lv_aload_n hx hb d_Seeker_keep_5 rfl (lv_at hl 0 rfl) ?_
  refine r_get (v := .ref (ad 41)) K hw i_Seeker (sh_Seeker (Nat.le_trans (Nat.le_of_ble_eq_true rfl) hn)) rfl 0 (by decide) w_569 rfl rfl rfl d_Seeker_keep_6 ?_
  refine r_get (v := .int (s0.1 41 3)) K hw i_Bout (sh_Bout (Nat.le_trans (Nat.le_of_ble_eq_true rfl) hn)) rfl 3 (by decide) w_539 rfl rfl rfl d_Seeker_keep_9 ?_
  obtain ⟨g_1, hF⟩ := ifG hF
  refine r_iast (k := v1.toNatClampNeg) K hw (sh_a47 (Nat.le_trans (Nat.le_of_ble_eq_true rfl) hn)) rfl (inB_vp g_1) d_Seeker_keep_12 (fun s_2 f_s_2 H locs hw => ?_)
  replace hF := ltN hF f_s_2
  refine lv_aload_n hx hb d_Seeker_keep_13 rfl (lv_at hl 0 rfl) ?_
  refine r_get (v := .ref (ad 48)) K hw i_Seeker (sh_Seeker (Nat.le_trans (Nat.le_of_ble_eq_true rfl) hn)) rfl 2 (by decide) w_571 rfl rfl rfl d_Seeker_keep_14 ?_
  refine lv_iload_n hx hb d_Seeker_keep_17 rfl (lv_at hl 1 rfl) ?_
  refine lv_aload_n hx hb d_Seeker_keep_18 rfl (lv_at hl 0 rfl) ?_
  refine r_get (v := .ref (ad 41)) K hw i_Seeker (sh_Seeker (Nat.le_trans (Nat.le_of_ble_eq_true rfl) hn)) rfl 0 (by decide) w_569 rfl rfl rfl d_Seeker_keep_19 ?_
  refine r_get (v := .ref (ad 42)) K hw i_Bout (sh_Bout (Nat.le_trans (Nat.le_of_ble_eq_true rfl) hn)) rfl 0 (by decide) w_531 rfl rfl rfl d_Seeker_keep_22 ?_
  refine r_get (v := .int (s_2.1 42 1)) K hw i_Side (sh_Side (by decide) (Nat.le_trans (Nat.le_of_ble_eq_true rfl) hn)) rfl 1 (by decide) w_512 rfl rfl rfl d_Seeker_keep_25 ?_
  obtain ⟨g_3, hF⟩ := ifG hF
  refine r_iast (k := v1.toNatClampNeg) K hw (sh_a48 (Nat.le_trans (Nat.le_of_ble_eq_true rfl) hn)) rfl (inB_vp g_3) d_Seeker_keep_28 (fun s_4 f_s_4 H locs hw => ?_)
  replace hF := ltN hF f_s_4
  refine lv_aload_n hx hb d_Seeker_keep_29 rfl (lv_at hl 0 rfl) ?_
  refine r_get (v := .ref (ad 49)) K hw i_Seeker (sh_Seeker (Nat.le_trans (Nat.le_of_ble_eq_true rfl) hn)) rfl 3 (by decide) w_572 rfl rfl rfl d_Seeker_keep_30 ?_
  refine lv_iload_n hx hb d_Seeker_keep_33 rfl (lv_at hl 1 rfl) ?_
  refine lv_aload_n hx hb d_Seeker_keep_34 rfl (lv_at hl 0 rfl) ?_
  refine r_get (v := .ref (ad 41)) K hw i_Seeker (sh_Seeker (Nat.le_trans (Nat.le_of_ble_eq_true rfl) hn)) rfl 0 (by decide) w_569 rfl rfl rfl d_Seeker_keep_35 ?_
  refine r_get (v := .ref (ad 44)) K hw i_Bout (sh_Bout (Nat.le_trans (Nat.le_of_ble_eq_true rfl) hn)) rfl 1 (by decide) w_534 rfl rfl rfl d_Seeker_keep_38 ?_
  refine r_get (v := .int (s_4.1 44 1)) K hw i_Side (sh_Side (by decide) (Nat.le_trans (Nat.le_of_ble_eq_true rfl) hn)) rfl 1 (by decide) w_512 rfl rfl rfl d_Seeker_keep_41 ?_
  obtain ⟨g_5, hF⟩ := ifG hF
  refine r_iast (k := v1.toNatClampNeg) K hw (sh_a49 (Nat.le_trans (Nat.le_of_ble_eq_true rfl) hn)) rfl (inB_vp g_5) d_Seeker_keep_44 (fun s_6 f_s_6 H locs hw => ?_)
  replace hF := ltN hF f_s_6
  replace hF := sE1 hF
  subst hF
  exact r_vret K hw d_Seeker_keep_45
end S_Seeker_keep
noncomputable abbrev F_Seeker_keep := F_Seeker_keep_0
theorem c_Seeker_keep {l : Launch} {D : va_G} {cA : Nat → ClassId} {ad : Nat → Nat} {s0 τ : St} {nC : Nat} (hn : 50 ≤ nC) {v1 : Int32}  (hF : F_Seeker_keep s0 v1 = (some τ)) : MV l D cA ad (shC.take nC) y_Seeker_keep (wT y_Seeker_keep b_Seeker_keep 2 none) rm_Seeker_keep [.ref (ad 46), .int v1] s0 τ := fun sz => m_start (Qc := fun A => QcV D cA ad (shC.take nC) A τ) (by decide +kernel) w_801 (Nat.le_of_ble_eq_true rfl) (fun p e s m below meth c ls K hl hw => q_Seeker_keep_0 hn K _ _ _ _ _  hw hl hF)
