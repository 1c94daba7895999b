/-! Main.longestOrder(IIIII)I -/
abbrev b_Main_longestOrder : ByteArray := prog_1_method_50_code
def y_Main_longestOrder : MethodName := ⟨R_Main, "longestOrde\x72", "(IIIII)I"⟩
theorem a_Main_longestOrder : y_Main_longestOrder.cls = R_Main ∧ y_Main_longestOrder.cls ≠ "java/lang/invoke/MethodHandle" ∧ y_Main_longestOrder.cls ≠ "java/lang/invoke/VarHandle" ∧ (parseMethodDescriptor y_Main_longestOrder.desc).map (fun d => d.parameters.length) = some 5 := by decide +kernel
def rmLongest (d : Nat) : Room := { frames := d + 6, cells := 0, slots := 0, locals := d * 29 + 139 }
theorem rmLongest_step (d : Nat) : (rmLongest d).frames + 1 ≤ (rmLongest (d + 1)).frames ∧ ∀ mL, mL ≤ 10 → 8 + (mL + 11) + (rmLongest d).locals ≤ (rmLongest (d + 1)).locals := by
  simp only [rmLongest]
  exact ⟨by omega, fun mL h => by omega⟩
theorem rmLongest_big (d : Nat) : 6 ≤ (rmLongest (d + 1)).frames ∧ 139 ≤ (rmLongest (d + 1)).locals := by
  simp only [rmLongest]
  exact ⟨by omega, by omega⟩
theorem w_838 : Cond.methodLink R_Main 226 y_Main_has ∈ TB := tb_in 838 (by decide +kernel) (by decide +kernel)
theorem w_839 : Cond.static y_Main_has ∈ TB := tb_in 839 (by decide +kernel) (by decide +kernel)
theorem w_850 : Cond.code y_Main_longestOrder b_Main_longestOrder 10 (some .int) ∈ TB := tb_in 850 (by decide +kernel) (by decide +kernel)
theorem w_847 : Cond.methodLink R_Main 235 y_Main_longestOrder ∈ TB := tb_in 847 (by decide +kernel) (by decide +kernel)
theorem w_849 : Cond.instanceMethod y_Main_longestOrder ∈ TB := tb_in 849 (by decide +kernel) (by decide +kernel)
theorem w_25 : Cond.selects R_Main y_Main_longestOrder y_Main_longestOrder ∈ TB := tb_in 25 (by decide +kernel) (by decide +kernel)
theorem w_851 : Cond.methodLink R_Main 239 y_Main_digits ∈ TB := tb_in 851 (by decide +kernel) (by decide +kernel)
theorem w_852 : Cond.static y_Main_digits ∈ TB := tb_in 852 (by decide +kernel) (by decide +kernel)
theorem d_Main_longestOrder_0 : decode b_Main_longestOrder 0 = .ok (.iload 4, 2) := by decide +kernel
theorem d_Main_longestOrder_2 : decode b_Main_longestOrder 2 = .ok (.istore 6, 2) := by decide +kernel
theorem d_Main_longestOrder_4 : decode b_Main_longestOrder 4 = .ok (.iload 5, 2) := by decide +kernel
theorem d_Main_longestOrder_6 : decode b_Main_longestOrder 6 = .ok (.ifCond .ne 6, 3) := by decide +kernel
theorem d_Main_longestOrder_9 : decode b_Main_longestOrder 9 = .ok (.iload 6, 2) := by decide +kernel
theorem d_Main_longestOrder_11 : decode b_Main_longestOrder 11 = .ok (.ireturn, 1) := by decide +kernel
theorem d_Main_longestOrder_12 : decode b_Main_longestOrder 12 = .ok (.iconst 0, 1) := by decide +kernel
theorem d_Main_longestOrder_13 : decode b_Main_longestOrder 13 = .ok (.istore 7, 2) := by decide +kernel
theorem d_Main_longestOrder_15 : decode b_Main_longestOrder 15 = .ok (.iload 7, 2) := by decide +kernel
theorem d_Main_longestOrder_17 : decode b_Main_longestOrder 17 = .ok (.aload_n 0, 1) := by decide +kernel
theorem d_Main_longestOrder_18 : decode b_Main_longestOrder 18 = .ok (.getfield 99, 3) := by decide +kernel
theorem d_Main_longestOrder_21 : decode b_Main_longestOrder 21 = .ok (.if_icmp .ge 99, 3) := by decide +kernel
theorem d_Main_longestOrder_24 : decode b_Main_longestOrder 24 = .ok (.iload_n 2, 1) := by decide +kernel
theorem d_Main_longestOrder_25 : decode b_Main_longestOrder 25 = .ok (.iload 7, 2) := by decide +kernel
theorem d_Main_longestOrder_27 : decode b_Main_longestOrder 27 = .ok (.invokestatic 226, 3) := by decide +kernel
theorem d_Main_longestOrder_30 : decode b_Main_longestOrder 30 = .ok (.ifCond .eq 84, 3) := by decide +kernel
theorem d_Main_longestOrder_33 : decode b_Main_longestOrder 33 = .ok (.aload_n 0, 1) := by decide +kernel
theorem d_Main_longestOrder_34 : decode b_Main_longestOrder 34 = .ok (.iload_n 1, 1) := by decide +kernel
theorem d_Main_longestOrder_35 : decode b_Main_longestOrder 35 = .ok (.iload 7, 2) := by decide +kernel
theorem d_Main_longestOrder_37 : decode b_Main_longestOrder 37 = .ok (.iload_n 3, 1) := by decide +kernel
theorem d_Main_longestOrder_38 : decode b_Main_longestOrder 38 = .ok (.invokevirtual 223, 3) := by decide +kernel
theorem d_Main_longestOrder_41 : decode b_Main_longestOrder 41 = .ok (.ifCond .ne 6, 3) := by decide +kernel
theorem d_Main_longestOrder_44 : decode b_Main_longestOrder 44 = .ok (.goto 70, 3) := by decide +kernel
theorem d_Main_longestOrder_47 : decode b_Main_longestOrder 47 = .ok (.bipush 24, 2) := by decide +kernel
theorem d_Main_longestOrder_49 : decode b_Main_longestOrder 49 = .ok (.aload_n 0, 1) := by decide +kernel
theorem d_Main_longestOrder_50 : decode b_Main_longestOrder 50 = .ok (.getfield 86, 3) := by decide +kernel
theorem d_Main_longestOrder_53 : decode b_Main_longestOrder 53 = .ok (.getfield 123, 3) := by decide +kernel
theorem d_Main_longestOrder_56 : decode b_Main_longestOrder 56 = .ok (.getfield 133, 3) := by decide +kernel
theorem d_Main_longestOrder_59 : decode b_Main_longestOrder 59 = .ok (.iconst 4, 1) := by decide +kernel
theorem d_Main_longestOrder_60 : decode b_Main_longestOrder 60 = .ok (.iadd, 1) := by decide +kernel
theorem d_Main_longestOrder_61 : decode b_Main_longestOrder 61 = .ok (.invokestatic 209, 3) := by decide +kernel
theorem d_Main_longestOrder_64 : decode b_Main_longestOrder 64 = .ok (.istore 8, 2) := by decide +kernel
theorem d_Main_longestOrder_66 : decode b_Main_longestOrder 66 = .ok (.aload_n 0, 1) := by decide +kernel
theorem d_Main_longestOrder_67 : decode b_Main_longestOrder 67 = .ok (.iload_n 1, 1) := by decide +kernel
theorem d_Main_longestOrder_68 : decode b_Main_longestOrder 68 = .ok (.iload_n 2, 1) := by decide +kernel
theorem d_Main_longestOrder_69 : decode b_Main_longestOrder 69 = .ok (.iconst 1, 1) := by decide +kernel
theorem d_Main_longestOrder_70 : decode b_Main_longestOrder 70 = .ok (.iload 7, 2) := by decide +kernel
theorem d_Main_longestOrder_72 : decode b_Main_longestOrder 72 = .ok (.ishl, 1) := by decide +kernel
theorem d_Main_longestOrder_73 : decode b_Main_longestOrder 73 = .ok (.iconst (-1), 1) := by decide +kernel
theorem d_Main_longestOrder_74 : decode b_Main_longestOrder 74 = .ok (.ixor, 1) := by decide +kernel
theorem d_Main_longestOrder_75 : decode b_Main_longestOrder 75 = .ok (.iand, 1) := by decide +kernel
theorem d_Main_longestOrder_76 : decode b_Main_longestOrder 76 = .ok (.iload 8, 2) := by decide +kernel
theorem d_Main_longestOrder_78 : decode b_Main_longestOrder 78 = .ok (.bipush 10, 2) := by decide +kernel
theorem d_Main_longestOrder_80 : decode b_Main_longestOrder 80 = .ok (.iload 4, 2) := by decide +kernel
theorem d_Main_longestOrder_82 : decode b_Main_longestOrder 82 = .ok (.imul, 1) := by decide +kernel
theorem d_Main_longestOrder_83 : decode b_Main_longestOrder 83 = .ok (.iload 7, 2) := by decide +kernel
theorem d_Main_longestOrder_85 : decode b_Main_longestOrder 85 = .ok (.iadd, 1) := by decide +kernel
theorem d_Main_longestOrder_86 : decode b_Main_longestOrder 86 = .ok (.iconst 1, 1) := by decide +kernel
theorem d_Main_longestOrder_87 : decode b_Main_longestOrder 87 = .ok (.iadd, 1) := by decide +kernel
theorem d_Main_longestOrder_88 : decode b_Main_longestOrder 88 = .ok (.iload 5, 2) := by decide +kernel
theorem d_Main_longestOrder_90 : decode b_Main_longestOrder 90 = .ok (.iconst 1, 1) := by decide +kernel
theorem d_Main_longestOrder_91 : decode b_Main_longestOrder 91 = .ok (.isub, 1) := by decide +kernel
theorem d_Main_longestOrder_92 : decode b_Main_longestOrder 92 = .ok (.invokevirtual 235, 3) := by decide +kernel
theorem d_Main_longestOrder_95 : decode b_Main_longestOrder 95 = .ok (.istore 9, 2) := by decide +kernel
theorem d_Main_longestOrder_97 : decode b_Main_longestOrder 97 = .ok (.iload 9, 2) := by decide +kernel
theorem d_Main_longestOrder_99 : decode b_Main_longestOrder 99 = .ok (.invokestatic 239, 3) := by decide +kernel
theorem d_Main_longestOrder_102 : decode b_Main_longestOrder 102 = .ok (.iload 6, 2) := by decide +kernel
theorem d_Main_longestOrder_104 : decode b_Main_longestOrder 104 = .ok (.invokestatic 239, 3) := by decide +kernel
theorem d_Main_longestOrder_107 : decode b_Main_longestOrder 107 = .ok (.if_icmp .le 7, 3) := by decide +kernel
theorem d_Main_longestOrder_110 : decode b_Main_longestOrder 110 = .ok (.iload 9, 2) := by decide +kernel
theorem d_Main_longestOrder_112 : decode b_Main_longestOrder 112 = .ok (.istore 6, 2) := by decide +kernel
theorem d_Main_longestOrder_114 : decode b_Main_longestOrder 114 = .ok (.iinc 7 1, 3) := by decide +kernel
theorem d_Main_longestOrder_117 : decode b_Main_longestOrder 117 = .ok (.goto (-102), 3) := by decide +kernel
theorem d_Main_longestOrder_120 : decode b_Main_longestOrder 120 = .ok (.iload 6, 2) := by decide +kernel
theorem d_Main_longestOrder_122 : decode b_Main_longestOrder 122 = .ok (.ireturn, 1) := by decide +kernel
section S_Main_longestOrder
variable {p : Program} {l : Launch} {e : Env} {s : State} {m : MethodId} {args : Array Value} {below : List Frame} {meth : Method} {c : Code} {D : va_G} {cA : Nat → ClassId} {ad : Nat → Nat} {nC : Nat} {A : Nat → Prop} {r : Int32} {τ : St}
noncomputable def F_Main_longestOrder_114 (r_Main_longestOrder : St → Int32 → Int32 → Int32 → Int32 → Int32 → Option (Int32 × St)) (k8 : (St → Int32 → Int32 → Int32 → Int32 → Int32 → Int32 → Int32 → Option (Int32 × St))) (s0 : St) (v1 : Int32) (v2 : Int32) (v3 : Int32) (v4 : Int32) (v5 : Int32) (v6 : Int32) (v7 : Int32) : Option (Int32 × St) := (k8 s0 v1 v2 v3 v4 v5 v6 (v7 + 1))
set_option maxHeartbeats 4000000 in
set_option maxRecDepth 100000 in
theorem q_Main_longestOrder_114 (hn : 46 ≤ nC) {d : Nat} (r_Main_longestOrder : St → Int32 → Int32 → Int32 → Int32 → Int32 → Option (Int32 × St)) (hr_Main_longestOrder : ∀ (s0 τ : St) (r : Int32) (v1 : Int32) (v2 : Int32) (v3 : Int32) (v4 : Int32) (v5 : Int32), r_Main_longestOrder s0 v1 v2 v3 v4 v5 = some (r, τ) → MI l D cA ad (shC.take nC) y_Main_longestOrder (wT y_Main_longestOrder b_Main_longestOrder 10 (some .int)) (rmLongest d) [.ref (ad 20), .int v1, .int v2, .int v3, .int v4, .int v5] s0 r τ) (K : Fx p s m args meth c b_Main_longestOrder 10 R_Main (some .int)) (k8 : (St → Int32 → Int32 → Int32 → Int32 → Int32 → Int32 → Int32 → Option (Int32 × St))) (hk8 : ∀ (H : Heap) (locs : List Loc) (ls : Array Slot) (s0 : St) (v1 : Int32) (v2 : Int32) (v3 : Int32) (v4 : Int32) (v5 : Int32) (v6 : Int32) (v7 : Int32), Wh D cA ad (shC.take nC) A s s0 H locs → lv_has ls 10 [(0, .ref (ad 20)), (1, .int v1), (2, .int v2), (3, .int v3), (4, .int v4), (5, .int v5), (6, .int v6), (7, .int v7)] → k8 s0 v1 v2 v3 v4 v5 v6 v7 = (some (r, τ)) → W p l e (rmLongest (d + 1)) s m args below meth c H locs 0 0 (MQ below (QcI D cA ad (shC.take nC) A r τ) args s 0 0 A) (F0 m 15 ls [])) : ∀ (H : Heap) (locs : List Loc) (ls : Array Slot) (s0 : St) (v1 : Int32) (v2 : Int32) (v3 : Int32) (v4 : Int32) (v5 : Int32) (v6 : Int32) (v7 : Int32), Wh D cA ad (shC.take nC) A s s0 H locs → lv_has ls 10 [(0, .ref (ad 20)), (1, .int v1), (2, .int v2), (3, .int v3), (4, .int v4), (5, .int v5), (6, .int v6), (7, .int v7)] → F_Main_longestOrder_114 r_Main_longestOrder k8 s0 v1 v2 v3 v4 v5 v6 v7 = (some (r, τ)) → W p l e (rmLongest (d + 1)) s m args below meth c H locs 0 0 (MQ below (QcI D cA ad (shC.take nC) A r τ) args s 0 0 A) (F0 m 114 ls []) := by
  have hx := K.1.1; have hb := K.1.2.1
  intro H locs ls s0 v1 v2 v3 v4 v5 v6 v7 hw hl hF
  unfold F_Main_longestOrder_114 at hF
  refine lv_iinc (v := (v7 + 1)) (lv' := [(7, .int (v7 + 1)), (0, .ref (ad 20)), (1, .int v1), (2, .int v2), (3, .int v3), (4, .int v4), (5, .int v5), (6, .int v6)]) hx hb d_Main_longestOrder_114 hl (k := 7) rfl rfl (by decide) rfl (fun ls hl => ?_)
  refine lv_goto (tgt := 15) hx hb d_Main_longestOrder_117 (by decide) ?_
  exact hk8 _ _ _ _ _ _ _ _ _ _ _  hw (lv_sub hl [1, 2, 3, 4, 5, 6, 7, 0] rfl) hF
noncomputable def F_Main_longestOrder_15 (r_Main_longestOrder : St → Int32 → Int32 → Int32 → Int32 → Int32 → Option (Int32 × St)) : Nat → St → Int32 → Int32 → Int32 → Int32 → Int32 → Int32 → Int32 → Option (Int32 × St)
  | 0, _, _, _, _, _, _, _, _ => none
  | n + 1, s0, v1, v2, v3, v4, v5, v6, v7 => (if (s0.1 20 1) ≤ v7 then (some (v6, s0)) else (if (F_Main_has v2 v7) = 0 then (F_Main_longestOrder_114 r_Main_longestOrder (fun z0 zv1 zv2 zv3 zv4 zv5 zv6 zv7 => F_Main_longestOrder_15 r_Main_longestOrder n z0 zv1 zv2 zv3 zv4 zv5 zv6 zv7) s0 v1 v2 v3 v4 v5 v6 v7) else (ob2 (F_Main_wouldWin s0 v1 v7 v3) (fun r_4 s_5 => (if ¬ r_4 = 0 then (lt ((if ((s_5.1 42 1) + (4 : Int32)) < (24 : Int32) then ((s_5.1 42 1) + (4 : Int32)) else (24 : Int32))) (fun w_7 => (ob2 (r_Main_longestOrder s_5 v1 (v2 &&& ((jshl (1 : Int32) v7) ^^^ (-1 : Int32))) w_7 ((((10 : Int32) * v4) + v7) + (1 : Int32)) (v5 - (1 : Int32))) (fun r_8 s_9 => (ob1 (F_Main_digits r_8) (fun r_10 => (ob1 (F_Main_digits v6) (fun r_11 => (if r_10 ≤ r_11 then (F_Main_longestOrder_114 r_Main_longestOrder (fun z0 zv1 zv2 zv3 zv4 zv5 zv6 zv7 => F_Main_longestOrder_15 r_Main_longestOrder n z0 zv1 zv2 zv3 zv4 zv5 zv6 zv7) s_9 v1 v2 v3 v4 v5 v6 v7) else (F_Main_longestOrder_114 r_Main_longestOrder (fun z0 zv1 zv2 zv3 zv4 zv5 zv6 zv7 => F_Main_longestOrder_15 r_Main_longestOrder n z0 zv1 zv2 zv3 zv4 zv5 zv6 zv7) s_9 v1 v2 v3 v4 v5 r_8 v7)))))))))) else (F_Main_longestOrder_114 r_Main_longestOrder (fun z0 zv1 zv2 zv3 zv4 zv5 zv6 zv7 => F_Main_longestOrder_15 r_Main_longestOrder n z0 zv1 zv2 zv3 zv4 zv5 zv6 zv7) s_5 v1 v2 v3 v4 v5 v6 v7))))))
set_option maxHeartbeats 4000000 in
set_option maxRecDepth 100000 in
theorem q_Main_longestOrder_15 (hn : 46 ≤ nC) {d : Nat} (r_Main_longestOrder : St → Int32 → Int32 → Int32 → Int32 → Int32 → Option (Int32 × St)) (hr_Main_longestOrder : ∀ (s0 τ : St) (r : Int32) (v1 : Int32) (v2 : Int32) (v3 : Int32) (v4 : Int32) (v5 : Int32), r_Main_longestOrder s0 v1 v2 v3 v4 v5 = some (r, τ) → MI l D cA ad (shC.take nC) y_Main_longestOrder (wT y_Main_longestOrder b_Main_longestOrder 10 (some .int)) (rmLongest d) [.ref (ad 20), .int v1, .int v2, .int v3, .int v4, .int v5] s0 r τ) (K : Fx p s m args meth c b_Main_longestOrder 10 R_Main (some .int))  : ∀ (n : Nat), ∀ (H : Heap) (locs : List Loc) (ls : Array Slot) (s0 : St) (v1 : Int32) (v2 : Int32) (v3 : Int32) (v4 : Int32) (v5 : Int32) (v6 : Int32) (v7 : Int32), Wh D cA ad (shC.take nC) A s s0 H locs → lv_has ls 10 [(0, .ref (ad 20)), (1, .int v1), (2, .int v2), (3, .int v3), (4, .int v4), (5, .int v5), (6, .int v6), (7, .int v7)] → F_Main_longestOrder_15 r_Main_longestOrder n s0 v1 v2 v3 v4 v5 v6 v7 = (some (r, τ)) → W p l e (rmLongest (d + 1)) s m args below meth c H locs 0 0 (MQ below (QcI D cA ad (shC.take nC) A r τ) args s 0 0 A) (F0 m 15 ls []) := by
  have hx := K.1.1; have hb := K.1.2.1
  intro n
  induction n with
  | zero =>
    intro H locs ls s0 v1 v2 v3 v4 v5 v6 v7 hw hl hF
    exact absurd hF (by rw [F_Main_longestOrder_15]; exact nofun)
  | succ n ih =>
    intro H locs ls s0 v1 v2 v3 v4 v5 v6 v7 hw hl hF
    rw [F_Main_longestOrder_15] at hF
    refine lv_iload hx hb d_Main_longestOrder_15 (lv_at hl 7 rfl) ?_
    refine lv_aload_n hx hb d_Main_longestOrder_17 rfl (lv_at hl 0 rfl) ?_
    refine r_get (v := .int (s0.1 20 1)) K hw i_Main (sh_Main (Nat.le_trans (Nat.le_of_ble_eq_true rfl) hn)) rfl 1 (by decide) w_599 rfl rfl rfl d_Main_longestOrder_18 ?_
    refine lv_icmp_ge (tgt := 120) hx hb d_Main_longestOrder_21 (by decide) (fun c_2 => ?_) (fun c_2 => ?_)
    · replace hF := ifT hF c_2
      refine lv_iload hx hb d_Main_longestOrder_120 (lv_at hl 6 rfl) ?_
      obtain ⟨hF, hG⟩ := sE2 hF
      subst hF
      subst hG
      exact r_iret K hw d_Main_longestOrder_122
    · replace hF := ifF hF c_2
      refine lv_iload_n hx hb d_Main_longestOrder_24 rfl (lv_at hl 2 rfl) ?_
      refine lv_iload hx hb d_Main_longestOrder_25 (lv_at hl 7 rfl) ?_
      refine r_callSI (As := [.int v2, .int v7]) (rest := []) K hw hl.1 (c_Main_has (l := l) (D := D) (cA := cA) (ad := ad) (s0 := s0) (Nat.le_trans (Nat.le_of_ble_eq_true rfl) hn)  rfl) (tb_gS w_838 w_839 w_63 w_840) a_Main_has ⟨rfl, rfl, Nat.le_trans (Nat.le_of_ble_eq_true rfl) (rmLongest_big d).1, Nat.le_trans (Nat.le_of_ble_eq_true rfl) (rmLongest_big d).2⟩ rfl rfl (Nat.le_of_ble_eq_true rfl) d_Main_longestOrder_27 (fun H locs hw => ?_)
      refine lv_if_eq (tgt := 114) hx hb d_Main_longestOrder_30 (by decide) (fun c_3 => ?_) (fun c_3 => ?_)
      · replace hF := ifT hF c_3
        exact q_Main_longestOrder_114 hn r_Main_longestOrder hr_Main_longestOrder K (fun z0 zv1 zv2 zv3 zv4 zv5 zv6 zv7 => F_Main_longestOrder_15 r_Main_longestOrder n z0 zv1 zv2 zv3 zv4 zv5 zv6 zv7) ih _ _ _ _ _ _ _ _ _ _ _  hw (lv_sub hl [0, 1, 2, 3, 4, 5, 6, 7] rfl) hF
      · replace hF := ifF hF c_3
        refine lv_aload_n hx hb d_Main_longestOrder_33 rfl (lv_at hl 0 rfl) ?_
        refine lv_iload_n hx hb d_Main_longestOrder_34 rfl (lv_at hl 1 rfl) ?_
        refine lv_iload hx hb d_Main_longestOrder_35 (lv_at hl 7 rfl) ?_
        refine lv_iload_n hx hb d_Main_longestOrder_37 rfl (lv_at hl 3 rfl) ?_
        obtain ⟨r_4, s_5, h_s_5, hF⟩ := ob2E hF
        refine r_callVI (As := [.int v1, .int v7, .int v3]) (rest := []) K hw hl.1 (c_Main_wouldWin (l := l) (D := D) (cA := cA) (ad := ad) (s0 := s0) (Nat.le_trans (Nat.le_of_ble_eq_true rfl) hn)  h_s_5) (sh_Main (Nat.le_trans (Nat.le_of_ble_eq_true rfl) hn)) rfl (tb_gV w_830 w_832 w_24 w_63 w_833) a_Main_wouldWin ⟨rfl, rfl, Nat.le_trans (Nat.le_of_ble_eq_true rfl) (rmLongest_big d).1, Nat.le_trans (Nat.le_of_ble_eq_true rfl) (rmLongest_big d).2⟩ rfl rfl (Nat.le_of_ble_eq_true rfl) d_Main_longestOrder_38 (fun H locs hw => ?_)
        refine lv_if_ne (tgt := 47) hx hb d_Main_longestOrder_41 (by decide) (fun c_6 => ?_) (fun c_6 => ?_)
        · replace hF := ifT hF c_6
          refine lv_bipush (v := 24) hx hb d_Main_longestOrder_47 (by decide) ?_
          refine lv_aload_n hx hb d_Main_longestOrder_49 rfl (lv_at hl 0 rfl) ?_
          refine r_get (v := .ref (ad 41)) K hw i_Main (sh_Main (Nat.le_trans (Nat.le_of_ble_eq_true rfl) hn)) rfl 7 (by decide) w_605 rfl rfl rfl d_Main_longestOrder_50 ?_
          refine r_get (v := .ref (ad 42)) K hw i_Bout (sh_Bout (Nat.le_trans (Nat.le_of_ble_eq_true rfl) hn)) rfl 0 (by decide) w_532 rfl rfl rfl d_Main_longestOrder_53 ?_
          refine r_get (v := .int (s_5.1 42 1)) K hw i_Side (sh_Side (by decide) (Nat.le_trans (Nat.le_of_ble_eq_true rfl) hn)) rfl 1 (by decide) w_513 rfl rfl rfl d_Main_longestOrder_56 ?_
          refine lv_iconst (v := 4) hx hb d_Main_longestOrder_59 (by decide) ?_
          refine lv_iadd hx hb d_Main_longestOrder_60 ?_
          refine va_mmin (rest := []) hx hb (K.1.2.2.1.trans hl.1.symm) K.1.2.2.2.1 (K.1.2.2.2.2 _ w_789) (K.1.2.2.2.2 _ w_397) (K.1.2.2.2.2 _ w_75) (K.1.2.2.2.2 _ w_398) (Nat.le_trans (Nat.le_of_ble_eq_true rfl) (rmLongest_big d).1) (Nat.le_trans (Nat.le_of_ble_eq_true rfl) (rmLongest_big d).2) (Nat.zero_le _) (Nat.zero_le _) d_Main_longestOrder_61 ?_
          refine lv_topi (fun w_7 f_w_7 => ?_)
          replace hF := ltN hF f_w_7
          refine lv_istore (lv' := [(8, .int w_7), (0, .ref (ad 20)), (1, .int v1), (2, .int v2), (3, .int v3), (4, .int v4), (5, .int v5), (6, .int v6), (7, .int v7)]) hx hb d_Main_longestOrder_64 hl (by decide) rfl (fun ls hl => ?_)
          refine lv_aload_n hx hb d_Main_longestOrder_66 rfl (lv_at hl 1 rfl) ?_
          refine lv_iload_n hx hb d_Main_longestOrder_67 rfl (lv_at hl 2 rfl) ?_
          refine lv_iload_n hx hb d_Main_longestOrder_68 rfl (lv_at hl 3 rfl) ?_
          refine lv_iconst (v := 1) hx hb d_Main_longestOrder_69 (by decide) ?_
          refine lv_iload hx hb d_Main_longestOrder_70 (lv_at hl 8 rfl) ?_
          refine lv_ishl hx hb d_Main_longestOrder_72 ?_
          refine lv_iconst (v := -1) hx hb d_Main_longestOrder_73 (by decide) ?_
          refine lv_ixor hx hb d_Main_longestOrder_74 ?_
          refine lv_iand hx hb d_Main_longestOrder_75 ?_
          refine lv_iload hx hb d_Main_longestOrder_76 (lv_at hl 0 rfl) ?_
          refine lv_bipush (v := 10) hx hb d_Main_longestOrder_78 (by decide) ?_
          refine lv_iload hx hb d_Main_longestOrder_80 (lv_at hl 5 rfl) ?_
          refine lv_imul hx hb d_Main_longestOrder_82 ?_
          refine lv_iload hx hb d_Main_longestOrder_83 (lv_at hl 8 rfl) ?_
          refine lv_iadd hx hb d_Main_longestOrder_85 ?_
          refine lv_iconst (v := 1) hx hb d_Main_longestOrder_86 (by decide) ?_
          refine lv_iadd hx hb d_Main_longestOrder_87 ?_
          refine lv_iload hx hb d_Main_longestOrder_88 (lv_at hl 6 rfl) ?_
          refine lv_iconst (v := 1) hx hb d_Main_longestOrder_90 (by decide) ?_
          refine lv_isub hx hb d_Main_longestOrder_91 ?_
          obtain ⟨r_8, s_9, h_s_9, hF⟩ := ob2E hF
          refine r_callVI (As := [.int v1, .int (v2 &&& ((jshl (1 : Int32) v7) ^^^ (-1 : Int32))), .int w_7, .int ((((10 : Int32) * v4) + v7) + (1 : Int32)), .int (v5 - (1 : Int32))]) (rest := []) K hw hl.1 (hr_Main_longestOrder _ _ _ _ _ _ _ _  h_s_9) (sh_Main (Nat.le_trans (Nat.le_of_ble_eq_true rfl) hn)) rfl (tb_gV w_847 w_849 w_25 w_63 w_850) a_Main_longestOrder ⟨rfl, rfl, (rmLongest_step d).1, (rmLongest_step d).2 _ (Nat.le_of_ble_eq_true rfl)⟩ rfl rfl (Nat.le_of_ble_eq_true rfl) d_Main_longestOrder_92 (fun H locs hw => ?_)
          refine lv_istore (lv' := [(9, .int r_8), (8, .int w_7), (0, .ref (ad 20)), (1, .int v1), (2, .int v2), (3, .int v3), (4, .int v4), (5, .int v5), (6, .int v6), (7, .int v7)]) hx hb d_Main_longestOrder_95 hl (by decide) rfl (fun ls hl => ?_)
          refine lv_iload hx hb d_Main_longestOrder_97 (lv_at hl 0 rfl) ?_
          obtain ⟨r_10, h_r_10, hF⟩ := ob1E hF
          refine r_callSI (As := [.int r_8]) (rest := []) K hw hl.1 (c_Main_digits (l := l) (D := D) (cA := cA) (ad := ad) (s0 := s_9) (Nat.le_trans (Nat.le_of_ble_eq_true rfl) hn)  h_r_10) (tb_gS w_851 w_852 w_63 w_853) a_Main_digits ⟨rfl, rfl, Nat.le_trans (Nat.le_of_ble_eq_true rfl) (rmLongest_big d).1, Nat.le_trans (Nat.le_of_ble_eq_true rfl) (rmLongest_big d).2⟩ rfl rfl (Nat.le_of_ble_eq_true rfl) d_Main_longestOrder_99 (fun H locs hw => ?_)
          refine lv_iload hx hb d_Main_longestOrder_102 (lv_at hl 8 rfl) ?_
          obtain ⟨r_11, h_r_11, hF⟩ := ob1E hF
          refine r_callSI (As := [.int v6]) (rest := [.int r_10]) K hw hl.1 (c_Main_digits (l := l) (D := D) (cA := cA) (ad := ad) (s0 := s_9) (Nat.le_trans (Nat.le_of_ble_eq_true rfl) hn)  h_r_11) (tb_gS w_851 w_852 w_63 w_853) a_Main_digits ⟨rfl, rfl, Nat.le_trans (Nat.le_of_ble_eq_true rfl) (rmLongest_big d).1, Nat.le_trans (Nat.le_of_ble_eq_true rfl) (rmLongest_big d).2⟩ rfl rfl (Nat.le_of_ble_eq_true rfl) d_Main_longestOrder_104 (fun H locs hw => ?_)
          refine lv_icmp_le (tgt := 114) hx hb d_Main_longestOrder_107 (by decide) (fun c_12 => ?_) (fun c_12 => ?_)
          · replace hF := ifT hF c_12
            exact q_Main_longestOrder_114 hn r_Main_longestOrder hr_Main_longestOrder K (fun z0 zv1 zv2 zv3 zv4 zv5 zv6 zv7 => F_Main_longestOrder_15 r_Main_longestOrder n z0 zv1 zv2 zv3 zv4 zv5 zv6 zv7) ih _ _ _ _ _ _ _ _ _ _ _  hw (lv_sub hl [2, 3, 4, 5, 6, 7, 8, 9] rfl) hF
          · replace hF := ifF hF c_12
            refine lv_iload hx hb d_Main_longestOrder_110 (lv_at hl 0 rfl) ?_
            refine lv_istore (lv' := [(6, .int r_8), (9, .int r_8), (8, .int w_7), (0, .ref (ad 20)), (1, .int v1), (2, .int v2), (3, .int v3), (4, .int v4), (5, .int v5), (7, .int v7)]) hx hb d_Main_longestOrder_112 hl (by decide) rfl (fun ls hl => ?_)
            exact q_Main_longestOrder_114 hn r_Main_longestOrder hr_Main_longestOrder K (fun z0 zv1 zv2 zv3 zv4 zv5 zv6 zv7 => F_Main_longestOrder_15 r_Main_longestOrder n z0 zv1 zv2 zv3 zv4 zv5 zv6 zv7) ih _ _ _ _ _ _ _ _ _ _ _  hw (lv_sub hl [3, 4, 5, 6, 7, 8, 0, 9] rfl) hF
        · replace hF := ifN hF c_6
          refine lv_goto (tgt := 114) hx hb d_Main_longestOrder_44 (by decide) ?_
          exact q_Main_longestOrder_114 hn r_Main_longestOrder hr_Main_longestOrder K (fun z0 zv1 zv2 zv3 zv4 zv5 zv6 zv7 => F_Main_longestOrder_15 r_Main_longestOrder n z0 zv1 zv2 zv3 zv4 zv5 zv6 zv7) ih _ _ _ _ _ _ _ _ _ _ _  hw (lv_sub hl [0, 1, 2, 3, 4, 5, 6, 7] rfl) hF
noncomputable def F_Main_longestOrder_0 (r_Main_longestOrder : St → Int32 → Int32 → Int32 → Int32 → Int32 → Option (Int32 × St)) (s0 : St) (v1 : Int32) (v2 : Int32) (v3 : Int32) (v4 : Int32) (v5 : Int32) : Option (Int32 × St) := (if ¬ v5 = 0 then (F_Main_longestOrder_15 r_Main_longestOrder FU s0 v1 v2 v3 v4 v5 v4 (0 : Int32)) else (some (v4, s0)))
set_option maxHeartbeats 4000000 in
set_option maxRecDepth 100000 in
theorem q_Main_longestOrder_0 (hn : 46 ≤ nC) {d : Nat} (r_Main_longestOrder : St → Int32 → Int32 → Int32 → Int32 → Int32 → Option (Int32 × St)) (hr_Main_longestOrder : ∀ (s0 τ : St) (r : Int32) (v1 : Int32) (v2 : Int32) (v3 : Int32) (v4 : Int32) (v5 : Int32), r_Main_longestOrder s0 v1 v2 v3 v4 v5 = some (r, τ) → MI l D cA ad (shC.take nC) y_Main_longestOrder (wT y_Main_longestOrder b_Main_longestOrder 10 (some .int)) (rmLongest d) [.ref (ad 20), .int v1, .int v2, .int v3, .int v4, .int v5] s0 r τ) (K : Fx p s m args meth c b_Main_longestOrder 10 R_Main (some .int))  : ∀ (H : Heap) (locs : List Loc) (ls : Array Slot) (s0 : St) (v1 : Int32) (v2 : Int32) (v3 : Int32) (v4 : Int32) (v5 : Int32), Wh D cA ad (shC.take nC) A s s0 H locs → lv_has ls 10 [(0, .ref (ad 20)), (1, .int v1), (2, .int v2), (3, .int v3), (4, .int v4), (5, .int v5)] → F_Main_longestOrder_0 r_Main_longestOrder s0 v1 v2 v3 v4 v5 = (some (r, τ)) → W p l e (rmLongest (d + 1)) s m args below meth c H locs 0 0 (MQ below (QcI D cA ad (shC.take nC) A r τ) args s 0 0 A) (F0 m 0 ls []) := by
  have hx := K.1.1; have hb := K.1.2.1
  intro H locs ls s0 v1 v2 v3 v4 v5 hw hl hF
  unfold F_Main_longestOrder_0 at hF
  refine lv_iload hx hb d_Main_longestOrder_0 (lv_at hl 4 rfl) ?_
  refine lv_istore (lv' := [(6, .int v4), (0, .ref (ad 20)), (1, .int v1), (2, .int v2), (3, .int v3), (4, .int v4), (5, .int v5)]) hx hb d_Main_longestOrder_2 hl (by decide) rfl (fun ls hl => ?_)
  refine lv_iload hx hb d_Main_longestOrder_4 (lv_at hl 6 rfl) ?_
  refine lv_if_ne (tgt := 12) hx hb d_Main_longestOrder_6 (by decide) (fun c_1 => ?_) (fun c_1 => ?_)
  · replace hF := ifT hF c_1
    refine lv_iconst (v := 0) hx hb d_Main_longestOrder_12 (by decide) ?_
    refine lv_istore (lv' := [(7, .int (0 : Int32)), (6, .int v4), (0, .ref (ad 20)), (1, .int v1), (2, .int v2), (3, .int v3), (4, .int v4), (5, .int v5)]) hx hb d_Main_longestOrder_13 hl (by decide) rfl (fun ls hl => ?_)
    exact q_Main_longestOrder_15 hn r_Main_longestOrder hr_Main_longestOrder K FU _ _ _ _ _ _ _ _ _ _ _  hw (lv_sub hl [2, 3, 4, 5, 6, 7, 1, 0] rfl) hF
  · replace hF := ifN hF c_1
    refine lv_iload hx hb d_Main_longestOrder_9 (lv_at hl 0 rfl) ?_
    obtain ⟨hF, hG⟩ := sE2 hF
    subst hF
    subst hG
    exact r_iret K hw d_Main_longestOrder_11
end S_Main_longestOrder
noncomputable def GLongest : Nat → (St → Int32 → Int32 → Int32 → Int32 → Int32 → Option (Int32 × St))
  | 0 => fun _ _ _ _ _ _ => none
  | d + 1 => F_Main_longestOrder_0 (GLongest d)
theorem cgLongest {l : Launch} {D : va_G} {cA : Nat → ClassId} {ad : Nat → Nat} {nC : Nat} (hn : 46 ≤ nC) : ∀ d : Nat, (∀ (s0 τ : St) (r : Int32) (v1 : Int32) (v2 : Int32) (v3 : Int32) (v4 : Int32) (v5 : Int32), (GLongest d) s0 v1 v2 v3 v4 v5 = some (r, τ) → MI l D cA ad (shC.take nC) y_Main_longestOrder (wT y_Main_longestOrder b_Main_longestOrder 10 (some .int)) (rmLongest d) [.ref (ad 20), .int v1, .int v2, .int v3, .int v4, .int v5] s0 r τ) := by
  intro d
  induction d with
  | zero => exact fun s0 τ r v1 v2 v3 v4 v5 h => absurd (show (none : Option (Int32 × St)) = some (r, τ) from h) nofun
  | succ d ih =>
    have i0 := ih
    intro s0 τ r v1 v2 v3 v4 v5 hF sz
    exact m_start (Qc := fun A => QcI D cA ad (shC.take nC) A r τ) (by decide +kernel) w_850 (Nat.le_of_ble_eq_true rfl) (fun p e s m below meth c ls K hl hw => q_Main_longestOrder_0 hn (GLongest d) i0 K _ _ _ _ _ _ _ _ _ hw hl hF)
noncomputable abbrev F_Main_longestOrder := (GLongest 8)
abbrev rm_Main_longestOrder : Room := rmLongest 8
theorem c_Main_longestOrder {l : Launch} {D : va_G} {cA : Nat → ClassId} {ad : Nat → Nat} {s0 τ : St} {nC : Nat} (hn : 46 ≤ nC) {r : Int32} {v1 : Int32} {v2 : Int32} {v3 : Int32} {v4 : Int32} {v5 : Int32} (hF : F_Main_longestOrder s0 v1 v2 v3 v4 v5 = some (r, τ)) : MI l D cA ad (shC.take nC) y_Main_longestOrder (wT y_Main_longestOrder b_Main_longestOrder 10 (some .int)) rm_Main_longestOrder [.ref (ad 20), .int v1, .int v2, .int v3, .int v4, .int v5] s0 r τ := (cgLongest hn 8) _ _ _ _ _ _ _ _ hF

/-! JInteger.bitCount(I)I -/
abbrev b_JInteger_bitCount : ByteArray := prog_15_method_49_code
def y_JInteger_bitCount : MethodName := ⟨R_JInteger, "bitCount", "(I)I"⟩
theorem a_JInteger_bitCount : y_JInteger_bitCount.cls = R_JInteger ∧ y_JInteger_bitCount.cls ≠ "java/lang/invoke/MethodHandle" ∧ y_JInteger_bitCount.cls ≠ "java/lang/invoke/VarHandle" ∧ (parseMethodDescriptor y_JInteger_bitCount.desc).map (fun d => d.parameters.length) = some 1 := by decide +kernel
abbrev rm_JInteger_bitCount : Room := { frames := 0, cells := 0, slots := 0, locals := 0 }
theorem w_844 : Cond.constant R_JInteger 265 1431655765 ∈ TB := tb_in 844 (by decide +kernel) (by decide +kernel)
theorem w_845 : Cond.constant R_JInteger 266 858993459 ∈ TB := tb_in 845 (by decide +kernel) (by decide +kernel)
theorem w_846 : Cond.constant R_JInteger 267 252645135 ∈ TB := tb_in 846 (by decide +kernel) (by decide +kernel)
theorem w_843 : Cond.code y_JInteger_bitCount b_JInteger_bitCount 1 (some .int) ∈ TB := tb_in 843 (by decide +kernel) (by decide +kernel)
theorem d_JInteger_bitCount_0 : decode b_JInteger_bitCount 0 = .ok (.iload_n 0, 1) := by decide +kernel
theorem d_JInteger_bitCount_1 : decode b_JInteger_bitCount 1 = .ok (.iload_n 0, 1) := by decide +kernel
theorem d_JInteger_bitCount_2 : decode b_JInteger_bitCount 2 = .ok (.iconst 1, 1) := by decide +kernel
theorem d_JInteger_bitCount_3 : decode b_JInteger_bitCount 3 = .ok (.iushr, 1) := by decide +kernel
theorem d_JInteger_bitCount_4 : decode b_JInteger_bitCount 4 = .ok (.ldc_w 265, 3) := by decide +kernel
theorem d_JInteger_bitCount_7 : decode b_JInteger_bitCount 7 = .ok (.iand, 1) := by decide +kernel
theorem d_JInteger_bitCount_8 : decode b_JInteger_bitCount 8 = .ok (.isub, 1) := by decide +kernel
theorem d_JInteger_bitCount_9 : decode b_JInteger_bitCount 9 = .ok (.istore_n 0, 1) := by decide +kernel
theorem d_JInteger_bitCount_10 : decode b_JInteger_bitCount 10 = .ok (.iload_n 0, 1) := by decide +kernel
theorem d_JInteger_bitCount_11 : decode b_JInteger_bitCount 11 = .ok (.ldc_w 266, 3) := by decide +kernel
theorem d_JInteger_bitCount_14 : decode b_JInteger_bitCount 14 = .ok (.iand, 1) := by decide +kernel
theorem d_JInteger_bitCount_15 : decode b_JInteger_bitCount 15 = .ok (.iload_n 0, 1) := by decide +kernel
theorem d_JInteger_bitCount_16 : decode b_JInteger_bitCount 16 = .ok (.iconst 2, 1) := by decide +kernel
theorem d_JInteger_bitCount_17 : decode b_JInteger_bitCount 17 = .ok (.iushr, 1) := by decide +kernel
theorem d_JInteger_bitCount_18 : decode b_JInteger_bitCount 18 = .ok (.ldc_w 266, 3) := by decide +kernel
theorem d_JInteger_bitCount_21 : decode b_JInteger_bitCount 21 = .ok (.iand, 1) := by decide +kernel
theorem d_JInteger_bitCount_22 : decode b_JInteger_bitCount 22 = .ok (.iadd, 1) := by decide +kernel
theorem d_JInteger_bitCount_23 : decode b_JInteger_bitCount 23 = .ok (.istore_n 0, 1) := by decide +kernel
theorem d_JInteger_bitCount_24 : decode b_JInteger_bitCount 24 = .ok (.iload_n 0, 1) := by decide +kernel
theorem d_JInteger_bitCount_25 : decode b_JInteger_bitCount 25 = .ok (.iload_n 0, 1) := by decide +kernel
theorem d_JInteger_bitCount_26 : decode b_JInteger_bitCount 26 = .ok (.iconst 4, 1) := by decide +kernel
theorem d_JInteger_bitCount_27 : decode b_JInteger_bitCount 27 = .ok (.iushr, 1) := by decide +kernel
theorem d_JInteger_bitCount_28 : decode b_JInteger_bitCount 28 = .ok (.iadd, 1) := by decide +kernel
theorem d_JInteger_bitCount_29 : decode b_JInteger_bitCount 29 = .ok (.ldc_w 267, 3) := by decide +kernel
theorem d_JInteger_bitCount_32 : decode b_JInteger_bitCount 32 = .ok (.iand, 1) := by decide +kernel
theorem d_JInteger_bitCount_33 : decode b_JInteger_bitCount 33 = .ok (.istore_n 0, 1) := by decide +kernel
theorem d_JInteger_bitCount_34 : decode b_JInteger_bitCount 34 = .ok (.iload_n 0, 1) := by decide +kernel
theorem d_JInteger_bitCount_35 : decode b_JInteger_bitCount 35 = .ok (.iload_n 0, 1) := by decide +kernel
theorem d_JInteger_bitCount_36 : decode b_JInteger_bitCount 36 = .ok (.bipush 8, 2) := by decide +kernel
theorem d_JInteger_bitCount_38 : decode b_JInteger_bitCount 38 = .ok (.iushr, 1) := by decide +kernel
theorem d_JInteger_bitCount_39 : decode b_JInteger_bitCount 39 = .ok (.iadd, 1) := by decide +kernel
theorem d_JInteger_bitCount_40 : decode b_JInteger_bitCount 40 = .ok (.istore_n 0, 1) := by decide +kernel
theorem d_JInteger_bitCount_41 : decode b_JInteger_bitCount 41 = .ok (.iload_n 0, 1) := by decide +kernel
theorem d_JInteger_bitCount_42 : decode b_JInteger_bitCount 42 = .ok (.iload_n 0, 1) := by decide +kernel
theorem d_JInteger_bitCount_43 : decode b_JInteger_bitCount 43 = .ok (.bipush 16, 2) := by decide +kernel
theorem d_JInteger_bitCount_45 : decode b_JInteger_bitCount 45 = .ok (.iushr, 1) := by decide +kernel
theorem d_JInteger_bitCount_46 : decode b_JInteger_bitCount 46 = .ok (.iadd, 1) := by decide +kernel
theorem d_JInteger_bitCount_47 : decode b_JInteger_bitCount 47 = .ok (.istore_n 0, 1) := by decide +kernel
theorem d_JInteger_bitCount_48 : decode b_JInteger_bitCount 48 = .ok (.iload_n 0, 1) := by decide +kernel
theorem d_JInteger_bitCount_49 : decode b_JInteger_bitCount 49 = .ok (.bipush 63, 2) := by decide +kernel
theorem d_JInteger_bitCount_51 : decode b_JInteger_bitCount 51 = .ok (.iand, 1) := by decide +kernel
theorem d_JInteger_bitCount_52 : decode b_JInteger_bitCount 52 = .ok (.ireturn, 1) := by decide +kernel
section S_JInteger_bitCount
variable {p : Program} {l : Launch} {e : Env} {s : State} {m : MethodId} {args : Array Value} {below : List Frame} {meth : Method} {c : Code} {D : va_G} {cA : Nat → ClassId} {ad : Nat → Nat} {nC : Nat} {A : Nat → Prop} {r : Int32} {τ : St}
noncomputable def F_JInteger_bitCount_0 (v0 : Int32) : Int32 := (lt ((v0 - ((jushr v0 (1 : Int32)) &&& (1431655765 : Int32)))) (fun w_1 => (lt (((w_1 &&& (858993459 : Int32)) + ((jushr w_1 (2 : Int32)) &&& (858993459 : Int32)))) (fun w_2 => (lt (((w_2 + (jushr w_2 (4 : Int32))) &&& (252645135 : Int32))) (fun w_3 => (lt (((w_3 + (jushr w_3 (8 : Int32))) + (jushr (w_3 + (jushr w_3 (8 : Int32))) (16 : Int32)))) (fun w_4 => (w_4 &&& (63 : Int32))))))))))
set_option maxHeartbeats 4000000 in
set_option maxRecDepth 100000 in
theorem q_JInteger_bitCount_0 (hn : 0 ≤ nC) (s0 : St) (K : Fx p s m args meth c b_JInteger_bitCount 1 R_JInteger (some .int))  : ∀ (H : Heap) (locs : List Loc) (ls : Array Slot) (v0 : Int32), Wh D cA ad (shC.take nC) A s s0 H locs → lv_has ls 1 [(0, .int v0)] → F_JInteger_bitCount_0 v0 = r → W p l e rm_JInteger_bitCount s m args below meth c H locs 0 0 (MQ below (QcI D cA ad (shC.take nC) A r s0) args s 0 0 A) (F0 m 0 ls []) := by
  have hx := K.1.1; have hb := K.1.2.1
  intro H locs ls v0 hw hl hF
  unfold F_JInteger_bitCount_0 at hF
  refine lv_iload_n hx hb d_JInteger_bitCount_0 rfl (lv_at hl 0 rfl) ?_
  refine lv_iload_n hx hb d_JInteger_bitCount_1 rfl (lv_at hl 0 rfl) ?_
  refine lv_iconst (v := 1) hx hb d_JInteger_bitCount_2 (by decide) ?_
  refine lv_iushr (v := jushr v0 (1 : Int32)) hx hb d_JInteger_bitCount_3 rfl ?_
  refine lv_ldcw (v := 1431655765) hx hb K.1.2.2.2.1 (K.1.2.2.2.2 _ w_844) d_JInteger_bitCount_4 ?_
  refine lv_iand hx hb d_JInteger_bitCount_7 ?_
  refine lv_isub hx hb d_JInteger_bitCount_8 ?_
  refine lv_topi (fun w_1 f_w_1 => ?_)
  replace hF := ltN hF f_w_1
  refine lv_istore_n (lv' := [(0, .int w_1)]) hx hb d_JInteger_bitCount_9 rfl hl (by decide) rfl (fun ls hl => ?_)
  refine lv_iload_n hx hb d_JInteger_bitCount_10 rfl (lv_at hl 0 rfl) ?_
  refine lv_ldcw (v := 858993459) hx hb K.1.2.2.2.1 (K.1.2.2.2.2 _ w_845) d_JInteger_bitCount_11 ?_
  refine lv_iand hx hb d_JInteger_bitCount_14 ?_
  refine lv_iload_n hx hb d_JInteger_bitCount_15 rfl (lv_at hl 0 rfl) ?_
  refine lv_iconst (v := 2) hx hb d_JInteger_bitCount_16 (by decide) ?_
  refine lv_iushr (v := jushr w_1 (2 : Int32)) hx hb d_JInteger_bitCount_17 rfl ?_
  refine lv_ldcw (v := 858993459) hx hb K.1.2.2.2.1 (K.1.2.2.2.2 _ w_845) d_JInteger_bitCount_18 ?_
  refine lv_iand hx hb d_JInteger_bitCount_21 ?_
  refine lv_iadd hx hb d_JInteger_bitCount_22 ?_
  refine lv_topi (fun w_2 f_w_2 => ?_)
  replace hF := ltN hF f_w_2
  refine lv_istore_n (lv' := [(0, .int w_2)]) hx hb d_JInteger_bitCount_23 rfl hl (by decide) rfl (fun ls hl => ?_)
  refine lv_iload_n hx hb d_JInteger_bitCount_24 rfl (lv_at hl 0 rfl) ?_
  refine lv_iload_n hx hb d_JInteger_bitCount_25 rfl (lv_at hl 0 rfl) ?_
  refine lv_iconst (v := 4) hx hb d_JInteger_bitCount_26 (by decide) ?_
  refine lv_iushr (v := jushr w_2 (4 : Int32)) hx hb d_JInteger_bitCount_27 rfl ?_
  refine lv_iadd hx hb d_JInteger_bitCount_28 ?_
  refine lv_ldcw (v := 252645135) hx hb K.1.2.2.2.1 (K.1.2.2.2.2 _ w_846) d_JInteger_bitCount_29 ?_
  refine lv_iand hx hb d_JInteger_bitCount_32 ?_
  refine lv_topi (fun w_3 f_w_3 => ?_)
  replace hF := ltN hF f_w_3
  refine lv_istore_n (lv' := [(0, .int w_3)]) hx hb d_JInteger_bitCount_33 rfl hl (by decide) rfl (fun ls hl => ?_)
  refine lv_iload_n hx hb d_JInteger_bitCount_34 rfl (lv_at hl 0 rfl) ?_
  refine lv_iload_n hx hb d_JInteger_bitCount_35 rfl (lv_at hl 0 rfl) ?_
  refine lv_bipush (v := 8) hx hb d_JInteger_bitCount_36 (by decide) ?_
  refine lv_iushr (v := jushr w_3 (8 : Int32)) hx hb d_JInteger_bitCount_38 rfl ?_
  refine lv_iadd hx hb d_JInteger_bitCount_39 ?_
  refine lv_istore_n (lv' := [(0, .int (w_3 + (jushr w_3 (8 : Int32))))]) hx hb d_JInteger_bitCount_40 rfl hl (by decide) rfl (fun ls hl => ?_)
  refine lv_iload_n hx hb d_JInteger_bitCount_41 rfl (lv_at hl 0 rfl) ?_
  refine lv_iload_n hx hb d_JInteger_bitCount_42 rfl (lv_at hl 0 rfl) ?_
  refine lv_bipush (v := 16) hx hb d_JInteger_bitCount_43 (by decide) ?_
  refine lv_iushr (v := jushr (w_3 + (jushr w_3 (8 : Int32))) (16 : Int32)) hx hb d_JInteger_bitCount_45 rfl ?_
  refine lv_iadd hx hb d_JInteger_bitCount_46 ?_
  refine lv_topi (fun w_4 f_w_4 => ?_)
  replace hF := ltN hF f_w_4
  refine lv_istore_n (lv' := [(0, .int w_4)]) hx hb d_JInteger_bitCount_47 rfl hl (by decide) rfl (fun ls hl => ?_)
  refine lv_iload_n hx hb d_JInteger_bitCount_48 rfl (lv_at hl 0 rfl) ?_
  refine lv_bipush (v := 63) hx hb d_JInteger_bitCount_49 (by decide) ?_
  refine lv_iand hx hb d_JInteger_bitCount_51 ?_
  subst hF
  exact r_iret K hw d_JInteger_bitCount_52
end S_JInteger_bitCount
noncomputable abbrev F_JInteger_bitCount := F_JInteger_bitCount_0
theorem c_JInteger_bitCount {l : Launch} {D : va_G} {cA : Nat → ClassId} {ad : Nat → Nat} {s0 : St} {nC : Nat} (hn : 0 ≤ nC) {r : Int32} {v0 : Int32}  (hF : F_JInteger_bitCount v0 = r) : MI l D cA ad (shC.take nC) y_JInteger_bitCount (wT y_JInteger_bitCount b_JInteger_bitCount 1 (some .int)) rm_JInteger_bitCount [.int v0] s0 r s0 := fun sz => m_start (Qc := fun A => QcI D cA ad (shC.take nC) A r s0) (by decide +kernel) w_843 (Nat.le_of_ble_eq_true rfl) (fun p e s m below meth c ls K hl hw => q_JInteger_bitCount_0 hn s0 K _ _ _ _  hw hl hF)

/-! Main.row(III)I -/
abbrev b_Main_row : ByteArray := prog_1_method_18_code
def y_Main_row : MethodName := ⟨R_Main, "row", "(III)I"⟩
theorem a_Main_row : y_Main_row.cls = R_Main ∧ y_Main_row.cls ≠ "java/lang/invoke/MethodHandle" ∧ y_Main_row.cls ≠ "java/lang/invoke/VarHandle" ∧ (parseMethodDescriptor y_Main_row.desc).map (fun d => d.parameters.length) = some 3 := by decide +kernel
abbrev rm_Main_row : Room := { frames := 15, cells := 0, slots := 0, locals := 400 }
theorem w_841 : Cond.methodLink R_Main 229 y_JInteger_bitCount ∈ TB := tb_in 841 (by decide +kernel) (by decide +kernel)
theorem w_842 : Cond.static y_JInteger_bitCount ∈ TB := tb_in 842 (by decide +kernel) (by decide +kernel)
theorem w_81 : Cond.initialized R_JInteger ∈ TB := tb_in 81 (by decide +kernel) (by decide +kernel)
theorem w_837 : Cond.code y_Main_row b_Main_row 5 (some .int) ∈ TB := tb_in 837 (by decide +kernel) (by decide +kernel)
theorem d_Main_row_0 : decode b_Main_row 0 = .ok (.aload_n 0, 1) := by decide +kernel
theorem d_Main_row_1 : decode b_Main_row 1 = .ok (.iload_n 1, 1) := by decide +kernel
theorem d_Main_row_2 : decode b_Main_row 2 = .ok (.invokevirtual 120, 3) := by decide +kernel
theorem d_Main_row_5 : decode b_Main_row 5 = .ok (.ifCond .ne 6, 3) := by decide +kernel
theorem d_Main_row_8 : decode b_Main_row 8 = .ok (.bipush (-5), 2) := by decide +kernel
theorem d_Main_row_10 : decode b_Main_row 10 = .ok (.ireturn, 1) := by decide +kernel
theorem d_Main_row_11 : decode b_Main_row 11 = .ok (.iload_n 2, 1) := by decide +kernel
theorem d_Main_row_12 : decode b_Main_row 12 = .ok (.iconst 0, 1) := by decide +kernel
theorem d_Main_row_13 : decode b_Main_row 13 = .ok (.iconst 1, 1) := by decide +kernel
theorem d_Main_row_14 : decode b_Main_row 14 = .ok (.aload_n 0, 1) := by decide +kernel
theorem d_Main_row_15 : decode b_Main_row 15 = .ok (.getfield 99, 3) := by decide +kernel
theorem d_Main_row_18 : decode b_Main_row 18 = .ok (.ishl, 1) := by decide +kernel
theorem d_Main_row_19 : decode b_Main_row 19 = .ok (.iconst 1, 1) := by decide +kernel
theorem d_Main_row_20 : decode b_Main_row 20 = .ok (.isub, 1) := by decide +kernel
theorem d_Main_row_21 : decode b_Main_row 21 = .ok (.invokestatic 108, 3) := by decide +kernel
theorem d_Main_row_24 : decode b_Main_row 24 = .ok (.ifCond .eq 19, 3) := by decide +kernel
theorem d_Main_row_27 : decode b_Main_row 27 = .ok (.iload_n 2, 1) := by decide +kernel
theorem d_Main_row_28 : decode b_Main_row 28 = .ok (.iload_n 1, 1) := by decide +kernel
theorem d_Main_row_29 : decode b_Main_row 29 = .ok (.invokestatic 226, 3) := by decide +kernel
theorem d_Main_row_32 : decode b_Main_row 32 = .ok (.ifCond .ne 11, 3) := by decide +kernel
theorem d_Main_row_35 : decode b_Main_row 35 = .ok (.iload_n 2, 1) := by decide +kernel
theorem d_Main_row_36 : decode b_Main_row 36 = .ok (.invokestatic 229, 3) := by decide +kernel
theorem d_Main_row_39 : decode b_Main_row 39 = .ok (.iconst 4, 1) := by decide +kernel
theorem d_Main_row_40 : decode b_Main_row 40 = .ok (.if_icmp .le 6, 3) := by decide +kernel
theorem d_Main_row_43 : decode b_Main_row 43 = .ok (.bipush (-7), 2) := by decide +kernel
theorem d_Main_row_45 : decode b_Main_row 45 = .ok (.ireturn, 1) := by decide +kernel
theorem d_Main_row_46 : decode b_Main_row 46 = .ok (.iload_n 3, 1) := by decide +kernel
theorem d_Main_row_47 : decode b_Main_row 47 = .ok (.iconst 0, 1) := by decide +kernel
theorem d_Main_row_48 : decode b_Main_row 48 = .ok (.iconst 1, 1) := by decide +kernel
theorem d_Main_row_49 : decode b_Main_row 49 = .ok (.invokestatic 108, 3) := by decide +kernel
theorem d_Main_row_52 : decode b_Main_row 52 = .ok (.ifCond .ne 6, 3) := by decide +kernel
theorem d_Main_row_55 : decode b_Main_row 55 = .ok (.bipush (-7), 2) := by decide +kernel
theorem d_Main_row_57 : decode b_Main_row 57 = .ok (.ireturn, 1) := by decide +kernel
theorem d_Main_row_58 : decode b_Main_row 58 = .ok (.aload_n 0, 1) := by decide +kernel
theorem d_Main_row_59 : decode b_Main_row 59 = .ok (.iload_n 1, 1) := by decide +kernel
theorem d_Main_row_60 : decode b_Main_row 60 = .ok (.iload_n 2, 1) := by decide +kernel
theorem d_Main_row_61 : decode b_Main_row 61 = .ok (.aload_n 0, 1) := by decide +kernel
theorem d_Main_row_62 : decode b_Main_row 62 = .ok (.getfield 11, 3) := by decide +kernel
theorem d_Main_row_65 : decode b_Main_row 65 = .ok (.iload_n 1, 1) := by decide +kernel
theorem d_Main_row_66 : decode b_Main_row 66 = .ok (.aaload, 1) := by decide +kernel
theorem d_Main_row_67 : decode b_Main_row 67 = .ok (.getfield 152, 3) := by decide +kernel
theorem d_Main_row_70 : decode b_Main_row 70 = .ok (.iconst 0, 1) := by decide +kernel
theorem d_Main_row_71 : decode b_Main_row 71 = .ok (.iconst 4, 1) := by decide +kernel
theorem d_Main_row_72 : decode b_Main_row 72 = .ok (.invokevirtual 235, 3) := by decide +kernel
theorem d_Main_row_75 : decode b_Main_row 75 = .ok (.istore 4, 2) := by decide +kernel
theorem d_Main_row_77 : decode b_Main_row 77 = .ok (.iload_n 3, 1) := by decide +kernel
theorem d_Main_row_78 : decode b_Main_row 78 = .ok (.ifCond .ne 11, 3) := by decide +kernel
theorem d_Main_row_81 : decode b_Main_row 81 = .ok (.iload 4, 2) := by decide +kernel
theorem d_Main_row_83 : decode b_Main_row 83 = .ok (.invokestatic 239, 3) := by decide +kernel
theorem d_Main_row_86 : decode b_Main_row 86 = .ok (.goto 5, 3) := by decide +kernel
theorem d_Main_row_89 : decode b_Main_row 89 = .ok (.iload 4, 2) := by decide +kernel
theorem d_Main_row_91 : decode b_Main_row 91 = .ok (.ireturn, 1) := by decide +kernel
section S_Main_row
variable {p : Program} {l : Launch} {e : Env} {s : State} {m : MethodId} {args : Array Value} {below : List Frame} {meth : Method} {c : Code} {D : va_G} {cA : Nat → ClassId} {ad : Nat → Nat} {nC : Nat} {A : Nat → Prop} {r : Int32} {τ : St}
noncomputable def F_Main_row_0 (s0 : St) (v1 : Int32) (v2 : Int32) (v3 : Int32) : Option (Int32 × St) := (ob1 (F_Main_isArm s0 v1) (fun r_1 => (if ¬ r_1 = 0 then (if (F_Main_isWithin v2 (0 : Int32) ((jshl (1 : Int32) (s0.1 20 1)) - (1 : Int32))) = 0 then (some ((-7 : Int32), s0)) else (if ¬ (F_Main_has v2 v1) = 0 then (some ((-7 : Int32), s0)) else (if (F_JInteger_bitCount v2) ≤ (4 : Int32) then (if ¬ (F_Main_isWithin v3 (0 : Int32) (1 : Int32)) = 0 then (if inB v1 6 = true then (ob2 (F_Main_longestOrder s0 v1 v2 (s0.1 (27 + v1.toNatClampNeg) 4) (0 : Int32) (4 : Int32)) (fun r_8 s_9 => (if ¬ v3 = 0 then (some (r_8, s_9)) else (ob1 (F_Main_digits r_8) (fun r_11 => (some (r_11, s_9))))))) else none) else (some ((-7 : Int32), s0))) else (some ((-7 : Int32), s0))))) else (some ((-5 : Int32), s0)))))
set_option maxHeartbeats 4000000 in
set_option maxRecDepth 100000 in
theorem q_Main_row_0 (hn : 46 ≤ nC) (K : Fx p s m args meth c b_Main_row 5 R_Main (some .int))  : ∀ (H : Heap) (locs : List Loc) (ls : Array Slot) (s0 : St) (v1 : Int32) (v2 : Int32) (v3 : Int32), Wh D cA ad (shC.take nC) A s s0 H locs → lv_has ls 5 [(0, .ref (ad 20)), (1, .int v1), (2, .int v2), (3, .int v3)] → F_Main_row_0 s0 v1 v2 v3 = (some (r, τ)) → W p l e rm_Main_row s m args below meth c H locs 0 0 (MQ below (QcI D cA ad (shC.take nC) A r τ) args s 0 0 A) (F0 m 0 ls []) := by
  have hx := K.1.1; have hb := K.1.2.1
  intro H locs ls s0 v1 v2 v3 hw hl hF
  unfold F_Main_row_0 at hF
  refine lv_aload_n hx hb d_Main_row_0 rfl (lv_at hl 0 rfl) ?_
  refine lv_iload_n hx hb d_Main_row_1 rfl (lv_at hl 1 rfl) ?_
  obtain ⟨r_1, h_r_1, hF⟩ := ob1E hF
  refine r_callVI (As := [.int v1]) (rest := []) K hw hl.1 (c_Main_isArm (l := l) (D := D) (cA := cA) (ad := ad) (s0 := s0) (Nat.le_trans (Nat.le_of_ble_eq_true rfl) hn)  h_r_1) (sh_Main (Nat.le_trans (Nat.le_of_ble_eq_true rfl) hn)) rfl (tb_gV w_656 w_658 w_13 w_63 w_659) a_Main_isArm ⟨rfl, rfl, Nat.le_of_ble_eq_true rfl, Nat.le_of_ble_eq_true rfl⟩ rfl rfl (Nat.le_of_ble_eq_true rfl) d_Main_row_2 (fun H locs hw => ?_)
  refine lv_if_ne (tgt := 11) hx hb d_Main_row_5 (by decide) (fun c_2 => ?_) (fun c_2 => ?_)
  · replace hF := ifT hF c_2
    refine lv_iload_n hx hb d_Main_row_11 rfl (lv_at hl 2 rfl) ?_
    refine lv_iconst (v := 0) hx hb d_Main_row_12 (by decide) ?_
    refine lv_iconst (v := 1) hx hb d_Main_row_13 (by decide) ?_
    refine lv_aload_n hx hb d_Main_row_14 rfl (lv_at hl 0 rfl) ?_
    refine r_get (v := .int (s0.1 20 1)) K hw i_Main (sh_Main (Nat.le_trans (Nat.le_of_ble_eq_true rfl) hn)) rfl 1 (by decide) w_599 rfl rfl rfl d_Main_row_15 ?_
    refine lv_ishl hx hb d_Main_row_18 ?_
    refine lv_iconst (v := 1) hx hb d_Main_row_19 (by decide) ?_
    refine lv_isub hx hb d_Main_row_20 ?_
    refine r_callSI (As := [.int v2, .int (0 : Int32), .int ((jshl (1 : Int32) (s0.1 20 1)) - (1 : Int32))]) (rest := []) K hw hl.1 (c_Main_isWithin (l := l) (D := D) (cA := cA) (ad := ad) (s0 := s0) (Nat.le_trans (Nat.le_of_ble_eq_true rfl) hn)  rfl) (tb_gS w_640 w_347 w_63 w_348) a_Main_isWithin ⟨rfl, rfl, Nat.le_of_ble_eq_true rfl, Nat.le_of_ble_eq_true rfl⟩ rfl rfl (Nat.le_of_ble_eq_true rfl) d_Main_row_21 (fun H locs hw => ?_)
    refine lv_if_eq (tgt := 43) hx hb d_Main_row_24 (by decide) (fun c_3 => ?_) (fun c_3 => ?_)
    · replace hF := ifT hF c_3
      refine lv_bipush (v := -7) hx hb d_Main_row_43 (by decide) ?_
      obtain ⟨hF, hG⟩ := sE2 hF
      subst hF
      subst hG
      exact r_iret K hw d_Main_row_45
    · replace hF := ifF hF c_3
      refine lv_iload_n hx hb d_Main_row_27 rfl (lv_at hl 2 rfl) ?_
      refine lv_iload_n hx hb d_Main_row_28 rfl (lv_at hl 1 rfl) ?_
      refine r_callSI (As := [.int v2, .int v1]) (rest := []) K hw hl.1 (c_Main_has (l := l) (D := D) (cA := cA) (ad := ad) (s0 := s0) (Nat.le_trans (Nat.le_of_ble_eq_true rfl) hn)  rfl) (tb_gS w_838 w_839 w_63 w_840) a_Main_has ⟨rfl, rfl, Nat.le_of_ble_eq_true rfl, Nat.le_of_ble_eq_true rfl⟩ rfl rfl (Nat.le_of_ble_eq_true rfl) d_Main_row_29 (fun H locs hw => ?_)
      refine lv_if_ne (tgt := 43) hx hb d_Main_row_32 (by decide) (fun c_4 => ?_) (fun c_4 => ?_)
      · replace hF := ifT hF c_4
        refine lv_bipush (v := -7) hx hb d_Main_row_43 (by decide) ?_
        obtain ⟨hF, hG⟩ := sE2 hF
        subst hF
        subst hG
        exact r_iret K hw d_Main_row_45
      · replace hF := ifN hF c_4
        refine lv_iload_n hx hb d_Main_row_35 rfl (lv_at hl 2 rfl) ?_
        refine k_callTI (As := [.int v2]) (rest := []) K hw hl.1 (c_JInteger_bitCount (l := l) (D := D) (cA := cA) (ad := ad) (s0 := s0) (Nat.le_trans (Nat.le_of_ble_eq_true rfl) hn)  rfl) w_841 w_842 w_81 w_843 a_JInteger_bitCount.2 ⟨rfl, rfl, Nat.le_of_ble_eq_true rfl, Nat.le_of_ble_eq_true rfl⟩ rfl rfl (Nat.le_of_ble_eq_true rfl) d_Main_row_36 (fun H locs hw => ?_)
        refine lv_iconst (v := 4) hx hb d_Main_row_39 (by decide) ?_
        refine lv_icmp_le (tgt := 46) hx hb d_Main_row_40 (by decide) (fun c_5 => ?_) (fun c_5 => ?_)
        · replace hF := ifT hF c_5
          refine lv_iload_n hx hb d_Main_row_46 rfl (lv_at hl 3 rfl) ?_
          refine lv_iconst (v := 0) hx hb d_Main_row_47 (by decide) ?_
          refine lv_iconst (v := 1) hx hb d_Main_row_48 (by decide) ?_
          refine r_callSI (As := [.int v3, .int (0 : Int32), .int (1 : Int32)]) (rest := []) K hw hl.1 (c_Main_isWithin (l := l) (D := D) (cA := cA) (ad := ad) (s0 := s0) (Nat.le_trans (Nat.le_of_ble_eq_true rfl) hn)  rfl) (tb_gS w_640 w_347 w_63 w_348) a_Main_isWithin ⟨rfl, rfl, Nat.le_of_ble_eq_true rfl, Nat.le_of_ble_eq_true rfl⟩ rfl rfl (Nat.le_of_ble_eq_true rfl) d_Main_row_49 (fun H locs hw => ?_)
          refine lv_if_ne (tgt := 58) hx hb d_Main_row_52 (by decide) (fun c_6 => ?_) (fun c_6 => ?_)
          · replace hF := ifT hF c_6
            refine lv_aload_n hx hb d_Main_row_58 rfl (lv_at hl 0 rfl) ?_
            refine lv_iload_n hx hb d_Main_row_59 rfl (lv_at hl 1 rfl) ?_
            refine lv_iload_n hx hb d_Main_row_60 rfl (lv_at hl 2 rfl) ?_
            refine lv_aload_n hx hb d_Main_row_61 rfl (lv_at hl 0 rfl) ?_
            refine r_get (v := .ref (ad 21)) K hw i_Main (sh_Main (Nat.le_trans (Nat.le_of_ble_eq_true rfl) hn)) rfl 0 (by decide) w_598 rfl rfl rfl d_Main_row_62 ?_
            refine lv_iload_n hx hb d_Main_row_65 rfl (lv_at hl 1 rfl) ?_
            obtain ⟨g_7, hF⟩ := ifG hF
            refine r_aald (k := v1.toNatClampNeg) K hw (sh_a21 (Nat.le_trans (Nat.le_of_ble_eq_true rfl) hn)) (rfl : (TYS cA)[1]? = some (cA 1, _)) rfl (inB_vp g_7) d_Main_row_66 ?_
            refine r_get (v := .int (s0.1 (27 + v1.toNatClampNeg) 4)) K hw i_Arm (sh_Arm (P_Arm_of g_7) (Nat.le_trans (Nat.le_of_ble_eq_true rfl) hn)) rfl 4 (by decide) w_155 rfl rfl rfl d_Main_row_67 ?_
            refine lv_iconst (v := 0) hx hb d_Main_row_70 (by decide) ?_
            refine lv_iconst (v := 4) hx hb d_Main_row_71 (by decide) ?_
            obtain ⟨r_8, s_9, h_s_9, hF⟩ := ob2E hF
            refine r_callVI (As := [.int v1, .int v2, .int (s0.1 (27 + v1.toNatClampNeg) 4), .int (0 : Int32), .int (4 : Int32)]) (rest := []) K hw hl.1 (c_Main_longestOrder (l := l) (D := D) (cA := cA) (ad := ad) (s0 := s0) (Nat.le_trans (Nat.le_of_ble_eq_true rfl) hn)  h_s_9) (sh_Main (Nat.le_trans (Nat.le_of_ble_eq_true rfl) hn)) rfl (tb_gV w_847 w_849 w_25 w_63 w_850) a_Main_longestOrder ⟨rfl, rfl, Nat.le_of_ble_eq_true rfl, Nat.le_of_ble_eq_true rfl⟩ rfl rfl (Nat.le_of_ble_eq_true rfl) d_Main_row_72 (fun H locs hw => ?_)
            refine lv_istore (lv' := [(4, .int r_8), (0, .ref (ad 20)), (1, .int v1), (2, .int v2), (3, .int v3)]) hx hb d_Main_row_75 hl (by decide) rfl (fun ls hl => ?_)
            refine lv_iload_n hx hb d_Main_row_77 rfl (lv_at hl 4 rfl) ?_
            refine lv_if_ne (tgt := 89) hx hb d_Main_row_78 (by decide) (fun c_10 => ?_) (fun c_10 => ?_)
            · replace hF := ifT hF c_10
              refine lv_iload hx hb d_Main_row_89 (lv_at hl 0 rfl) ?_
              obtain ⟨hF, hG⟩ := sE2 hF
              subst hF
              subst hG
              exact r_iret K hw d_Main_row_91
            · replace hF := ifN hF c_10
              refine lv_iload hx hb d_Main_row_81 (lv_at hl 0 rfl) ?_
              obtain ⟨r_11, h_r_11, hF⟩ := ob1E hF
              refine r_callSI (As := [.int r_8]) (rest := []) K hw hl.1 (c_Main_digits (l := l) (D := D) (cA := cA) (ad := ad) (s0 := s_9) (Nat.le_trans (Nat.le_of_ble_eq_true rfl) hn)  h_r_11) (tb_gS w_851 w_852 w_63 w_853) a_Main_digits ⟨rfl, rfl, Nat.le_of_ble_eq_true rfl, Nat.le_of_ble_eq_true rfl⟩ rfl rfl (Nat.le_of_ble_eq_true rfl) d_Main_row_83 (fun H locs hw => ?_)
              refine lv_goto (tgt := 91) hx hb d_Main_row_86 (by decide) ?_
              obtain ⟨hF, hG⟩ := sE2 hF
              subst hF
              subst hG
              exact r_iret K hw d_Main_row_91
          · replace hF := ifN hF c_6
            refine lv_bipush (v := -7) hx hb d_Main_row_55 (by decide) ?_
            obtain ⟨hF, hG⟩ := sE2 hF
            subst hF
            subst hG
            exact r_iret K hw d_Main_row_57
        · replace hF := ifF hF c_5
          refine lv_bipush (v := -7) hx hb d_Main_row_43 (by decide) ?_
          obtain ⟨hF, hG⟩ := sE2 hF
          subst hF
          subst hG
          exact r_iret K hw d_Main_row_45
  · replace hF := ifN hF c_2
    refine lv_bipush (v := -5) hx hb d_Main_row_8 (by decide) ?_
    obtain ⟨hF, hG⟩ := sE2 hF
    subst hF
    subst hG
    exact r_iret K hw d_Main_row_10
end S_Main_row
noncomputable abbrev F_Main_row := F_Main_row_0
theorem c_Main_row {l : Launch} {D : va_G} {cA : Nat → ClassId} {ad : Nat → Nat} {s0 τ : St} {nC : Nat} (hn : 46 ≤ nC) {r : Int32} {v1 : Int32} {v2 : Int32} {v3 : Int32}  (hF : F_Main_row s0 v1 v2 v3 = (some (r, τ))) : MI l D cA ad (shC.take nC) y_Main_row (wT y_Main_row b_Main_row 5 (some .int)) rm_Main_row [.ref (ad 20), .int v1, .int v2, .int v3] s0 r τ := fun sz => m_start (Qc := fun A => QcI D cA ad (shC.take nC) A r τ) (by decide +kernel) w_837 (Nat.le_of_ble_eq_true rfl) (fun p e s m below meth c ls K hl hw => q_Main_row_0 hn K _ _ _ _ _ _ _  hw hl hF)

/-! Main.beaten(I)I -/
abbrev b_Main_beaten : ByteArray := prog_1_method_49_code
def y_Main_beaten : MethodName := ⟨R_Main, "beaten", "(I)I"⟩
theorem a_Main_beaten : y_Main_beaten.cls = R_Main ∧ y_Main_beaten.cls ≠ "java/lang/invoke/MethodHandle" ∧ y_Main_beaten.cls ≠ "java/lang/invoke/VarHandle" ∧ (parseMethodDescriptor y_Main_beaten.desc).map (fun d => d.parameters.length) = some 1 := by decide +kernel
abbrev rm_Main_beaten : Room := { frames := 6, cells := 0, slots := 0, locals := 139 }
theorem w_861 : Cond.code y_Main_beaten b_Main_beaten 4 (some .int) ∈ TB := tb_in 861 (by decide +kernel) (by decide +kernel)
theorem d_Main_beaten_0 : decode b_Main_beaten 0 = .ok (.iconst 0, 1) := by decide +kernel
theorem d_Main_beaten_1 : decode b_Main_beaten 1 = .ok (.istore_n 2, 1) := by decide +kernel
theorem d_Main_beaten_2 : decode b_Main_beaten 2 = .ok (.iconst 0, 1) := by decide +kernel
theorem d_Main_beaten_3 : decode b_Main_beaten 3 = .ok (.istore_n 3, 1) := by decide +kernel
theorem d_Main_beaten_4 : decode b_Main_beaten 4 = .ok (.iload_n 3, 1) := by decide +kernel
theorem d_Main_beaten_5 : decode b_Main_beaten 5 = .ok (.aload_n 0, 1) := by decide +kernel
theorem d_Main_beaten_6 : decode b_Main_beaten 6 = .ok (.getfield 99, 3) := by decide +kernel
theorem d_Main_beaten_9 : decode b_Main_beaten 9 = .ok (.if_icmp .ge 38, 3) := by decide +kernel
theorem d_Main_beaten_12 : decode b_Main_beaten 12 = .ok (.iload_n 3, 1) := by decide +kernel
theorem d_Main_beaten_13 : decode b_Main_beaten 13 = .ok (.iload_n 1, 1) := by decide +kernel
theorem d_Main_beaten_14 : decode b_Main_beaten 14 = .ok (.if_icmp .eq 27, 3) := by decide +kernel
theorem d_Main_beaten_17 : decode b_Main_beaten 17 = .ok (.aload_n 0, 1) := by decide +kernel
theorem d_Main_beaten_18 : decode b_Main_beaten 18 = .ok (.iload_n 1, 1) := by decide +kernel
theorem d_Main_beaten_19 : decode b_Main_beaten 19 = .ok (.iload_n 3, 1) := by decide +kernel
theorem d_Main_beaten_20 : decode b_Main_beaten 20 = .ok (.aload_n 0, 1) := by decide +kernel
theorem d_Main_beaten_21 : decode b_Main_beaten 21 = .ok (.getfield 11, 3) := by decide +kernel
theorem d_Main_beaten_24 : decode b_Main_beaten 24 = .ok (.iload_n 1, 1) := by decide +kernel
theorem d_Main_beaten_25 : decode b_Main_beaten 25 = .ok (.aaload, 1) := by decide +kernel
theorem d_Main_beaten_26 : decode b_Main_beaten 26 = .ok (.getfield 152, 3) := by decide +kernel
theorem d_Main_beaten_29 : decode b_Main_beaten 29 = .ok (.invokevirtual 223, 3) := by decide +kernel
theorem d_Main_beaten_32 : decode b_Main_beaten 32 = .ok (.ifCond .eq 9, 3) := by decide +kernel
theorem d_Main_beaten_35 : decode b_Main_beaten 35 = .ok (.iload_n 2, 1) := by decide +kernel
theorem d_Main_beaten_36 : decode b_Main_beaten 36 = .ok (.iconst 1, 1) := by decide +kernel
theorem d_Main_beaten_37 : decode b_Main_beaten 37 = .ok (.iload_n 3, 1) := by decide +kernel
theorem d_Main_beaten_38 : decode b_Main_beaten 38 = .ok (.ishl, 1) := by decide +kernel
theorem d_Main_beaten_39 : decode b_Main_beaten 39 = .ok (.ior, 1) := by decide +kernel
theorem d_Main_beaten_40 : decode b_Main_beaten 40 = .ok (.istore_n 2, 1) := by decide +kernel
theorem d_Main_beaten_41 : decode b_Main_beaten 41 = .ok (.iinc 3 1, 3) := by decide +kernel
theorem d_Main_beaten_44 : decode b_Main_beaten 44 = .ok (.goto (-40), 3) := by decide +kernel
theorem d_Main_beaten_47 : decode b_Main_beaten 47 = .ok (.iload_n 2, 1) := by decide +kernel
theorem d_Main_beaten_48 : decode b_Main_beaten 48 = .ok (.ireturn, 1) := by decide +kernel
section S_Main_beaten
variable {p : Program} {l : Launch} {e : Env} {s : State} {m : MethodId} {args : Array Value} {below : List Frame} {meth : Method} {c : Code} {D : va_G} {cA : Nat → ClassId} {ad : Nat → Nat} {nC : Nat} {A : Nat → Prop} {r : Int32} {τ : St}
noncomputable def F_Main_beaten_41 (k4 : (St → Int32 → Int32 → Int32 → Option (Int32 × St))) (s0 : St) (v1 : Int32) (v2 : Int32) (v3 : Int32) : Option (Int32 × St) := (k4 s0 v1 v2 (v3 + 1))
set_option maxHeartbeats 4000000 in
set_option maxRecDepth 100000 in
theorem q_Main_beaten_41 (hn : 46 ≤ nC) (K : Fx p s m args meth c b_Main_beaten 4 R_Main (some .int)) (k4 : (St → Int32 → Int32 → Int32 → Option (Int32 × St))) (hk4 : ∀ (H : Heap) (locs : List Loc) (ls : Array Slot) (s0 : St) (v1 : Int32) (v2 : Int32) (v3 : Int32), Wh D cA ad (shC.take nC) A s s0 H locs → lv_has ls 4 [(0, .ref (ad 20)), (1, .int v1), (2, .int v2), (3, .int v3)] → k4 s0 v1 v2 v3 = (some (r, τ)) → W p l e rm_Main_beaten s m args below meth c H locs 0 0 (MQ below (QcI D cA ad (shC.take nC) A r τ) args s 0 0 A) (F0 m 4 ls [])) : ∀ (H : Heap) (locs : List Loc) (ls : Array Slot) (s0 : St) (v1 : Int32) (v2 : Int32) (v3 : Int32), Wh D cA ad (shC.take nC) A s s0 H locs → lv_has ls 4 [(0, .ref (ad 20)), (1, .int v1), (2, .int v2), (3, .int v3)] → F_Main_beaten_41 k4 s0 v1 v2 v3 = (some (r, τ)) → W p l e rm_Main_beaten s m args below meth c H locs 0 0 (MQ below (QcI D cA ad (shC.take nC) A r τ) args s 0 0 A) (F0 m 41 ls []) := by
  have hx := K.1.1; have hb := K.1.2.1
  intro H locs ls s0 v1 v2 v3 hw hl hF
  unfold F_Main_beaten_41 at hF
  refine lv_iinc (v := (v3 + 1)) (lv' := [(3, .int (v3 + 1)), (0, .ref (ad 20)), (1, .int v1), (2, .int v2)]) hx hb d_Main_beaten_41 hl (k := 3) rfl rfl (by decide) rfl (fun ls hl => ?_)
  refine lv_goto (tgt := 4) hx hb d_Main_beaten_44 (by decide) ?_
  exact hk4 _ _ _ _ _ _ _  hw (lv_sub hl [1, 2, 3, 0] rfl) hF
noncomputable def F_Main_beaten_4 : Nat → St → Int32 → Int32 → Int32 → Option (Int32 × St)
  | 0, _, _, _, _ => none
  | n + 1, s0, v1, v2, v3 => (if (s0.1 20 1) ≤ v3 then (some (v2, s0)) else (if v3 = v1 then (F_Main_beaten_41 (fun z0 zv1 zv2 zv3 => F_Main_beaten_4 n z0 zv1 zv2 zv3) s0 v1 v2 v3) else (if inB v1 6 = true then (ob2 (F_Main_wouldWin s0 v1 v3 (s0.1 (27 + v1.toNatClampNeg) 4)) (fun r_4 s_5 => (if r_4 = 0 then (F_Main_beaten_41 (fun z0 zv1 zv2 zv3 => F_Main_beaten_4 n z0 zv1 zv2 zv3) s_5 v1 v2 v3) else (F_Main_beaten_41 (fun z0 zv1 zv2 zv3 => F_Main_beaten_4 n z0 zv1 zv2 zv3) s_5 v1 (v2 ||| (jshl (1 : Int32) v3)) v3)))) else none)))
set_option maxHeartbeats 4000000 in
set_option maxRecDepth 100000 in
theorem q_Main_beaten_4 (hn : 46 ≤ nC) (K : Fx p s m args meth c b_Main_beaten 4 R_Main (some .int))  : ∀ (n : Nat), ∀ (H : Heap) (locs : List Loc) (ls : Array Slot) (s0 : St) (v1 : Int32) (v2 : Int32) (v3 : Int32), Wh D cA ad (shC.take nC) A s s0 H locs → lv_has ls 4 [(0, .ref (ad 20)), (1, .int v1), (2, .int v2), (3, .int v3)] → F_Main_beaten_4 n s0 v1 v2 v3 = (some (r, τ)) → W p l e rm_Main_beaten s m args below meth c H locs 0 0 (MQ below (QcI D cA ad (shC.take nC) A r τ) args s 0 0 A) (F0 m 4 ls []) := by
  have hx := K.1.1; have hb := K.1.2.1
  intro n
  induction n with
  | zero =>
    intro H locs ls s0 v1 v2 v3 hw hl hF
    exact absurd hF (by rw [F_Main_beaten_4]; exact nofun)
  | succ n ih =>
    intro H locs ls s0 v1 v2 v3 hw hl hF
    rw [F_Main_beaten_4] at hF
    refine lv_iload_n hx hb d_Main_beaten_4 rfl (lv_at hl 3 rfl) ?_
    refine lv_aload_n hx hb d_Main_beaten_5 rfl (lv_at hl 0 rfl) ?_
    refine r_get (v := .int (s0.1 20 1)) K hw i_Main (sh_Main (Nat.le_trans (Nat.le_of_ble_eq_true rfl) hn)) rfl 1 (by decide) w_599 rfl rfl rfl d_Main_beaten_6 ?_
    refine lv_icmp_ge (tgt := 47) hx hb d_Main_beaten_9 (by decide) (fun c_1 => ?_) (fun c_1 => ?_)
    · replace hF := ifT hF c_1
      refine lv_iload_n hx hb d_Main_beaten_47 rfl (lv_at hl 2 rfl) ?_
      obtain ⟨hF, hG⟩ := sE2 hF
      subst hF
      subst hG
      exact r_iret K hw d_Main_beaten_48
    · replace hF := ifF hF c_1
      refine lv_iload_n hx hb d_Main_beaten_12 rfl (lv_at hl 3 rfl) ?_
      refine lv_iload_n hx hb d_Main_beaten_13 rfl (lv_at hl 1 rfl) ?_
      refine lv_icmp_eq (tgt := 41) hx hb d_Main_beaten_14 (by decide) (fun c_2 => ?_) (fun c_2 => ?_)
      · replace hF := ifT hF c_2
        exact q_Main_beaten_41 hn K (fun z0 zv1 zv2 zv3 => F_Main_beaten_4 n z0 zv1 zv2 zv3) ih _ _ _ _ _ _ _  hw (lv_sub hl [0, 1, 2, 3] rfl) hF
      · replace hF := ifF hF c_2
        refine lv_aload_n hx hb d_Main_beaten_17 rfl (lv_at hl 0 rfl) ?_
        refine lv_iload_n hx hb d_Main_beaten_18 rfl (lv_at hl 1 rfl) ?_
        refine lv_iload_n hx hb d_Main_beaten_19 rfl (lv_at hl 3 rfl) ?_
        refine lv_aload_n hx hb d_Main_beaten_20 rfl (lv_at hl 0 rfl) ?_
        refine r_get (v := .ref (ad 21)) K hw i_Main (sh_Main (Nat.le_trans (Nat.le_of_ble_eq_true rfl) hn)) rfl 0 (by decide) w_598 rfl rfl rfl d_Main_beaten_21 ?_
        refine lv_iload_n hx hb d_Main_beaten_24 rfl (lv_at hl 1 rfl) ?_
        obtain ⟨g_3, hF⟩ := ifG hF
        refine r_aald (k := v1.toNatClampNeg) K hw (sh_a21 (Nat.le_trans (Nat.le_of_ble_eq_true rfl) hn)) (rfl : (TYS cA)[1]? = some (cA 1, _)) rfl (inB_vp g_3) d_Main_beaten_25 ?_
        refine r_get (v := .int (s0.1 (27 + v1.toNatClampNeg) 4)) K hw i_Arm (sh_Arm (P_Arm_of g_3) (Nat.le_trans (Nat.le_of_ble_eq_true rfl) hn)) rfl 4 (by decide) w_155 rfl rfl rfl d_Main_beaten_26 ?_
        obtain ⟨r_4, s_5, h_s_5, hF⟩ := ob2E hF
        refine r_callVI (As := [.int v1, .int v3, .int (s0.1 (27 + v1.toNatClampNeg) 4)]) (rest := []) K hw hl.1 (c_Main_wouldWin (l := l) (D := D) (cA := cA) (ad := ad) (s0 := s0) (Nat.le_trans (Nat.le_of_ble_eq_true rfl) hn)  h_s_5) (sh_Main (Nat.le_trans (Nat.le_of_ble_eq_true rfl) hn)) rfl (tb_gV w_830 w_832 w_24 w_63 w_833) a_Main_wouldWin ⟨rfl, rfl, Nat.le_of_ble_eq_true rfl, Nat.le_of_ble_eq_true rfl⟩ rfl rfl (Nat.le_of_ble_eq_true rfl) d_Main_beaten_29 (fun H locs hw => ?_)
        refine lv_if_eq (tgt := 41) hx hb d_Main_beaten_32 (by decide) (fun c_6 => ?_) (fun c_6 => ?_)
        · replace hF := ifT hF c_6
          exact q_Main_beaten_41 hn K (fun z0 zv1 zv2 zv3 => F_Main_beaten_4 n z0 zv1 zv2 zv3) ih _ _ _ _ _ _ _  hw (lv_sub hl [0, 1, 2, 3] rfl) hF
        · replace hF := ifF hF c_6
          refine lv_iload_n hx hb d_Main_beaten_35 rfl (lv_at hl 2 rfl) ?_
          refine lv_iconst (v := 1) hx hb d_Main_beaten_36 (by decide) ?_
          refine lv_iload_n hx hb d_Main_beaten_37 rfl (lv_at hl 3 rfl) ?_
          refine lv_ishl hx hb d_Main_beaten_38 ?_
          refine lv_ior hx hb d_Main_beaten_39 ?_
          refine lv_istore_n (lv' := [(2, .int (v2 ||| (jshl (1 : Int32) v3))), (0, .ref (ad 20)), (1, .int v1), (3, .int v3)]) hx hb d_Main_beaten_40 rfl hl (by decide) rfl (fun ls hl => ?_)
          exact q_Main_beaten_41 hn K (fun z0 zv1 zv2 zv3 => F_Main_beaten_4 n z0 zv1 zv2 zv3) ih _ _ _ _ _ _ _  hw (lv_sub hl [1, 2, 0, 3] rfl) hF
noncomputable def F_Main_beaten_0 (s0 : St) (v1 : Int32) : Option (Int32 × St) := (F_Main_beaten_4 FU s0 v1 (0 : Int32) (0 : Int32))
set_option maxHeartbeats 4000000 in
set_option maxRecDepth 100000 in
theorem q_Main_beaten_0 (hn : 46 ≤ nC) (K : Fx p s m args meth c b_Main_beaten 4 R_Main (some .int))  : ∀ (H : Heap) (locs : List Loc) (ls : Array Slot) (s0 : St) (v1 : Int32), Wh D cA ad (shC.take nC) A s s0 H locs → lv_has ls 4 [(0, .ref (ad 20)), (1, .int v1)] → F_Main_beaten_0 s0 v1 = (some (r, τ)) → W p l e rm_Main_beaten s m args below meth c H locs 0 0 (MQ below (QcI D cA ad (shC.take nC) A r τ) args s 0 0 A) (F0 m 0 ls []) := by
  have hx := K.1.1; have hb := K.1.2.1
  intro H locs ls s0 v1 hw hl hF
  unfold F_Main_beaten_0 at hF
  refine lv_iconst (v := 0) hx hb d_Main_beaten_0 (by decide) ?_
  refine lv_istore_n (lv' := [(2, .int (0 : Int32)), (0, .ref (ad 20)), (1, .int v1)]) hx hb d_Main_beaten_1 rfl hl (by decide) rfl (fun ls hl => ?_)
  refine lv_iconst (v := 0) hx hb d_Main_beaten_2 (by decide) ?_
  refine lv_istore_n (lv' := [(3, .int (0 : Int32)), (2, .int (0 : Int32)), (0, .ref (ad 20)), (1, .int v1)]) hx hb d_Main_beaten_3 rfl hl (by decide) rfl (fun ls hl => ?_)
  exact q_Main_beaten_4 hn K FU _ _ _ _ _ _ _  hw (lv_sub hl [2, 3, 1, 0] rfl) hF
end S_Main_beaten
noncomputable abbrev F_Main_beaten := F_Main_beaten_0
theorem c_Main_beaten {l : Launch} {D : va_G} {cA : Nat → ClassId} {ad : Nat → Nat} {s0 τ : St} {nC : Nat} (hn : 46 ≤ nC) {r : Int32} {v1 : Int32}  (hF : F_Main_beaten s0 v1 = (some (r, τ))) : MI l D cA ad (shC.take nC) y_Main_beaten (wT y_Main_beaten b_Main_beaten 4 (some .int)) rm_Main_beaten [.ref (ad 20), .int v1] s0 r τ := fun sz => m_start (Qc := fun A => QcI D cA ad (shC.take nC) A r τ) (by decide +kernel) w_861 (Nat.le_of_ble_eq_true rfl) (fun p e s m below meth c ls K hl hw => q_Main_beaten_0 hn K _ _ _ _ _  hw hl hF)

/-! Main.beats(I)I -/
abbrev b_Main_beats : ByteArray := prog_1_method_19_code
def y_Main_beats : MethodName := ⟨R_Main, "beats", "(I)I"⟩
theorem a_Main_beats : y_Main_beats.cls = R_Main ∧ y_Main_beats.cls ≠ "java/lang/invoke/MethodHandle" ∧ y_Main_beats.cls ≠ "java/lang/invoke/VarHandle" ∧ (parseMethodDescriptor y_Main_beats.desc).map (fun d => d.parameters.length) = some 1 := by decide +kernel
abbrev rm_Main_beats : Room := { frames := 7, cells := 0, slots := 0, locals := 162 }
theorem w_858 : Cond.methodLink R_Main 242 y_Main_beaten ∈ TB := tb_in 858 (by decide +kernel) (by decide +kernel)
theorem w_860 : Cond.instanceMethod y_Main_beaten ∈ TB := tb_in 860 (by decide +kernel) (by decide +kernel)
theorem w_26 : Cond.selects R_Main y_Main_beaten y_Main_beaten ∈ TB := tb_in 26 (by decide +kernel) (by decide +kernel)
theorem w_857 : Cond.code y_Main_beats b_Main_beats 2 (some .int) ∈ TB := tb_in 857 (by decide +kernel) (by decide +kernel)
theorem d_Main_beats_0 : decode b_Main_beats 0 = .ok (.aload_n 0, 1) := by decide +kernel
theorem d_Main_beats_1 : decode b_Main_beats 1 = .ok (.iload_n 1, 1) := by decide +kernel
theorem d_Main_beats_2 : decode b_Main_beats 2 = .ok (.invokevirtual 120, 3) := by decide +kernel
theorem d_Main_beats_5 : decode b_Main_beats 5 = .ok (.ifCond .ne 6, 3) := by decide +kernel
theorem d_Main_beats_8 : decode b_Main_beats 8 = .ok (.bipush (-5), 2) := by decide +kernel
theorem d_Main_beats_10 : decode b_Main_beats 10 = .ok (.ireturn, 1) := by decide +kernel
theorem d_Main_beats_11 : decode b_Main_beats 11 = .ok (.aload_n 0, 1) := by decide +kernel
theorem d_Main_beats_12 : decode b_Main_beats 12 = .ok (.iload_n 1, 1) := by decide +kernel
theorem d_Main_beats_13 : decode b_Main_beats 13 = .ok (.invokevirtual 242, 3) := by decide +kernel
theorem d_Main_beats_16 : decode b_Main_beats 16 = .ok (.ireturn, 1) := by decide +kernel
section S_Main_beats
variable {p : Program} {l : Launch} {e : Env} {s : State} {m : MethodId} {args : Array Value} {below : List Frame} {meth : Method} {c : Code} {D : va_G} {cA : Nat → ClassId} {ad : Nat → Nat} {nC : Nat} {A : Nat → Prop} {r : Int32} {τ : St}
noncomputable def F_Main_beats_0 (s0 : St) (v1 : Int32) : Option (Int32 × St) := (ob1 (F_Main_isArm s0 v1) (fun r_1 => (if ¬ r_1 = 0 then (ob2 (F_Main_beaten s0 v1) (fun r_3 s_4 => (some (r_3, s_4)))) else (some ((-5 : Int32), s0)))))
set_option maxHeartbeats 4000000 in
set_option maxRecDepth 100000 in
theorem q_Main_beats_0 (hn : 46 ≤ nC) (K : Fx p s m args meth c b_Main_beats 2 R_Main (some .int))  : ∀ (H : Heap) (locs : List Loc) (ls : Array Slot) (s0 : St) (v1 : Int32), Wh D cA ad (shC.take nC) A s s0 H locs → lv_has ls 2 [(0, .ref (ad 20)), (1, .int v1)] → F_Main_beats_0 s0 v1 = (some (r, τ)) → W p l e rm_Main_beats s m args below meth c H locs 0 0 (MQ below (QcI D cA ad (shC.take nC) A r τ) args s 0 0 A) (F0 m 0 ls []) := by
  have hx := K.1.1; have hb := K.1.2.1
  intro H locs ls s0 v1 hw hl hF
  unfold F_Main_beats_0 at hF
  refine lv_aload_n hx hb d_Main_beats_0 rfl (lv_at hl 0 rfl) ?_
  refine lv_iload_n hx hb d_Main_beats_1 rfl (lv_at hl 1 rfl) ?_
  obtain ⟨r_1, h_r_1, hF⟩ := ob1E hF
  refine r_callVI (As := [.int v1]) (rest := []) K hw hl.1 (c_Main_isArm (l := l) (D := D) (cA := cA) (ad := ad) (s0 := s0) (Nat.le_trans (Nat.le_of_ble_eq_true rfl) hn)  h_r_1) (sh_Main (Nat.le_trans (Nat.le_of_ble_eq_true rfl) hn)) rfl (tb_gV w_656 w_658 w_13 w_63 w_659) a_Main_isArm ⟨rfl, rfl, Nat.le_of_ble_eq_true rfl, Nat.le_of_ble_eq_true rfl⟩ rfl rfl (Nat.le_of_ble_eq_true rfl) d_Main_beats_2 (fun H locs hw => ?_)
  refine lv_if_ne (tgt := 11) hx hb d_Main_beats_5 (by decide) (fun c_2 => ?_) (fun c_2 => ?_)
  · replace hF := ifT hF c_2
    refine lv_aload_n hx hb d_Main_beats_11 rfl (lv_at hl 0 rfl) ?_
    refine lv_iload_n hx hb d_Main_beats_12 rfl (lv_at hl 1 rfl) ?_
    obtain ⟨r_3, s_4, h_s_4, hF⟩ := ob2E hF
    refine r_callVI (As := [.int v1]) (rest := []) K hw hl.1 (c_Main_beaten (l := l) (D := D) (cA := cA) (ad := ad) (s0 := s0) (Nat.le_trans (Nat.le_of_ble_eq_true rfl) hn)  h_s_4) (sh_Main (Nat.le_trans (Nat.le_of_ble_eq_true rfl) hn)) rfl (tb_gV w_858 w_860 w_26 w_63 w_861) a_Main_beaten ⟨rfl, rfl, Nat.le_of_ble_eq_true rfl, Nat.le_of_ble_eq_true rfl⟩ rfl rfl (Nat.le_of_ble_eq_true rfl) d_Main_beats_13 (fun H locs hw => ?_)
    obtain ⟨hF, hG⟩ := sE2 hF
    subst hF
    subst hG
    exact r_iret K hw d_Main_beats_16
  · replace hF := ifN hF c_2
    refine lv_bipush (v := -5) hx hb d_Main_beats_8 (by decide) ?_
    obtain ⟨hF, hG⟩ := sE2 hF
    subst hF
    subst hG
    exact r_iret K hw d_Main_beats_10
end S_Main_beats
noncomputable abbrev F_Main_beats := F_Main_beats_0
theorem c_Main_beats {l : Launch} {D : va_G} {cA : Nat → ClassId} {ad : Nat → Nat} {s0 τ : St} {nC : Nat} (hn : 46 ≤ nC) {r : Int32} {v1 : Int32}  (hF : F_Main_beats s0 v1 = (some (r, τ))) : MI l D cA ad (shC.take nC) y_Main_beats (wT y_Main_beats b_Main_beats 2 (some .int)) rm_Main_beats [.ref (ad 20), .int v1] s0 r τ := fun sz => m_start (Qc := fun A => QcI D cA ad (shC.take nC) A r τ) (by decide +kernel) w_857 (Nat.le_of_ble_eq_true rfl) (fun p e s m below meth c ls K hl hw => q_Main_beats_0 hn K _ _ _ _ _  hw hl hF)

/-! Main.rings(I)I -/
abbrev b_Main_rings : ByteArray := prog_1_method_20_code
def y_Main_rings : MethodName := ⟨R_Main, "rings", "(I)I"⟩
theorem a_Main_rings : y_Main_rings.cls = R_Main ∧ y_Main_rings.cls ≠ "java/lang/invoke/MethodHandle" ∧ y_Main_rings.cls ≠ "java/lang/invoke/VarHandle" ∧ (parseMethodDescriptor y_Main_rings.desc).map (fun d => d.parameters.length) = some 1 := by decide +kernel
abbrev rm_Main_rings : Room := { frames := 7, cells := 0, slots := 0, locals := 162 }
theorem w_865 : Cond.code y_Main_rings b_Main_rings 9 (some .int) ∈ TB := tb_in 865 (by decide +kernel) (by decide +kernel)
theorem d_Main_rings_0 : decode b_Main_rings 0 = .ok (.iload_n 1, 1) := by decide +kernel
theorem d_Main_rings_1 : decode b_Main_rings 1 = .ok (.iconst 0, 1) := by decide +kernel
theorem d_Main_rings_2 : decode b_Main_rings 2 = .ok (.iconst 1, 1) := by decide +kernel
theorem d_Main_rings_3 : decode b_Main_rings 3 = .ok (.invokestatic 108, 3) := by decide +kernel
theorem d_Main_rings_6 : decode b_Main_rings 6 = .ok (.ifCond .ne 6, 3) := by decide +kernel
theorem d_Main_rings_9 : decode b_Main_rings 9 = .ok (.bipush (-2), 2) := by decide +kernel
theorem d_Main_rings_11 : decode b_Main_rings 11 = .ok (.ireturn, 1) := by decide +kernel
theorem d_Main_rings_12 : decode b_Main_rings 12 = .ok (.iconst 0, 1) := by decide +kernel
theorem d_Main_rings_13 : decode b_Main_rings 13 = .ok (.istore_n 2, 1) := by decide +kernel
theorem d_Main_rings_14 : decode b_Main_rings 14 = .ok (.iconst (-1), 1) := by decide +kernel
theorem d_Main_rings_15 : decode b_Main_rings 15 = .ok (.istore_n 3, 1) := by decide +kernel
theorem d_Main_rings_16 : decode b_Main_rings 16 = .ok (.iconst 0, 1) := by decide +kernel
theorem d_Main_rings_17 : decode b_Main_rings 17 = .ok (.istore 4, 2) := by decide +kernel
theorem d_Main_rings_19 : decode b_Main_rings 19 = .ok (.iload 4, 2) := by decide +kernel
theorem d_Main_rings_21 : decode b_Main_rings 21 = .ok (.aload_n 0, 1) := by decide +kernel
theorem d_Main_rings_22 : decode b_Main_rings 22 = .ok (.getfield 99, 3) := by decide +kernel
theorem d_Main_rings_25 : decode b_Main_rings 25 = .ok (.if_icmp .ge 136, 3) := by decide +kernel
theorem d_Main_rings_28 : decode b_Main_rings 28 = .ok (.aload_n 0, 1) := by decide +kernel
theorem d_Main_rings_29 : decode b_Main_rings 29 = .ok (.iload 4, 2) := by decide +kernel
theorem d_Main_rings_31 : decode b_Main_rings 31 = .ok (.invokevirtual 242, 3) := by decide +kernel
theorem d_Main_rings_34 : decode b_Main_rings 34 = .ok (.istore 5, 2) := by decide +kernel
theorem d_Main_rings_36 : decode b_Main_rings 36 = .ok (.iload 4, 2) := by decide +kernel
theorem d_Main_rings_38 : decode b_Main_rings 38 = .ok (.iconst 1, 1) := by decide +kernel
theorem d_Main_rings_39 : decode b_Main_rings 39 = .ok (.iadd, 1) := by decide +kernel
theorem d_Main_rings_40 : decode b_Main_rings 40 = .ok (.istore 6, 2) := by decide +kernel
theorem d_Main_rings_42 : decode b_Main_rings 42 = .ok (.iload 6, 2) := by decide +kernel
theorem d_Main_rings_44 : decode b_Main_rings 44 = .ok (.aload_n 0, 1) := by decide +kernel
theorem d_Main_rings_45 : decode b_Main_rings 45 = .ok (.getfield 99, 3) := by decide +kernel
theorem d_Main_rings_48 : decode b_Main_rings 48 = .ok (.if_icmp .ge 107, 3) := by decide +kernel
theorem d_Main_rings_51 : decode b_Main_rings 51 = .ok (.iload 5, 2) := by decide +kernel
theorem d_Main_rings_53 : decode b_Main_rings 53 = .ok (.iload 6, 2) := by decide +kernel
theorem d_Main_rings_55 : decode b_Main_rings 55 = .ok (.invokestatic 226, 3) := by decide +kernel
theorem d_Main_rings_58 : decode b_Main_rings 58 = .ok (.ifCond .eq 12, 3) := by decide +kernel
theorem d_Main_rings_61 : decode b_Main_rings 61 = .ok (.aload_n 0, 1) := by decide +kernel
theorem d_Main_rings_62 : decode b_Main_rings 62 = .ok (.iload 6, 2) := by decide +kernel
theorem d_Main_rings_64 : decode b_Main_rings 64 = .ok (.invokevirtual 242, 3) := by decide +kernel
theorem d_Main_rings_67 : decode b_Main_rings 67 = .ok (.goto 4, 3) := by decide +kernel
theorem d_Main_rings_70 : decode b_Main_rings 70 = .ok (.iconst 0, 1) := by decide +kernel
theorem d_Main_rings_71 : decode b_Main_rings 71 = .ok (.istore 7, 2) := by decide +kernel
theorem d_Main_rings_73 : decode b_Main_rings 73 = .ok (.iload 4, 2) := by decide +kernel
theorem d_Main_rings_75 : decode b_Main_rings 75 = .ok (.iconst 1, 1) := by decide +kernel
theorem d_Main_rings_76 : decode b_Main_rings 76 = .ok (.iadd, 1) := by decide +kernel
theorem d_Main_rings_77 : decode b_Main_rings 77 = .ok (.istore 8, 2) := by decide +kernel
theorem d_Main_rings_79 : decode b_Main_rings 79 = .ok (.iload 8, 2) := by decide +kernel
theorem d_Main_rings_81 : decode b_Main_rings 81 = .ok (.aload_n 0, 1) := by decide +kernel
theorem d_Main_rings_82 : decode b_Main_rings 82 = .ok (.getfield 99, 3) := by decide +kernel
theorem d_Main_rings_85 : decode b_Main_rings 85 = .ok (.if_icmp .ge 64, 3) := by decide +kernel
theorem d_Main_rings_88 : decode b_Main_rings 88 = .ok (.iload 7, 2) := by decide +kernel
theorem d_Main_rings_90 : decode b_Main_rings 90 = .ok (.iload 8, 2) := by decide +kernel
theorem d_Main_rings_92 : decode b_Main_rings 92 = .ok (.invokestatic 226, 3) := by decide +kernel
theorem d_Main_rings_95 : decode b_Main_rings 95 = .ok (.ifCond .eq 48, 3) := by decide +kernel
theorem d_Main_rings_98 : decode b_Main_rings 98 = .ok (.aload_n 0, 1) := by decide +kernel
theorem d_Main_rings_99 : decode b_Main_rings 99 = .ok (.iload 8, 2) := by decide +kernel
theorem d_Main_rings_101 : decode b_Main_rings 101 = .ok (.invokevirtual 242, 3) := by decide +kernel
theorem d_Main_rings_104 : decode b_Main_rings 104 = .ok (.iload 4, 2) := by decide +kernel
theorem d_Main_rings_106 : decode b_Main_rings 106 = .ok (.invokestatic 226, 3) := by decide +kernel
theorem d_Main_rings_109 : decode b_Main_rings 109 = .ok (.ifCond .ne 6, 3) := by decide +kernel
theorem d_Main_rings_112 : decode b_Main_rings 112 = .ok (.goto 31, 3) := by decide +kernel
theorem d_Main_rings_115 : decode b_Main_rings 115 = .ok (.iload_n 2, 1) := by decide +kernel
theorem d_Main_rings_116 : decode b_Main_rings 116 = .ok (.ifCond .ne 24, 3) := by decide +kernel
theorem d_Main_rings_119 : decode b_Main_rings 119 = .ok (.bipush 100, 2) := by decide +kernel
theorem d_Main_rings_121 : decode b_Main_rings 121 = .ok (.iload 4, 2) := by decide +kernel
theorem d_Main_rings_123 : decode b_Main_rings 123 = .ok (.iconst 1, 1) := by decide +kernel
theorem d_Main_rings_124 : decode b_Main_rings 124 = .ok (.iadd, 1) := by decide +kernel
theorem d_Main_rings_125 : decode b_Main_rings 125 = .ok (.imul, 1) := by decide +kernel
theorem d_Main_rings_126 : decode b_Main_rings 126 = .ok (.bipush 10, 2) := by decide +kernel
theorem d_Main_rings_128 : decode b_Main_rings 128 = .ok (.iload 6, 2) := by decide +kernel
theorem d_Main_rings_130 : decode b_Main_rings 130 = .ok (.iconst 1, 1) := by decide +kernel
theorem d_Main_rings_131 : decode b_Main_rings 131 = .ok (.iadd, 1) := by decide +kernel
theorem d_Main_rings_132 : decode b_Main_rings 132 = .ok (.imul, 1) := by decide +kernel
theorem d_Main_rings_133 : decode b_Main_rings 133 = .ok (.iadd, 1) := by decide +kernel
theorem d_Main_rings_134 : decode b_Main_rings 134 = .ok (.iload 8, 2) := by decide +kernel
theorem d_Main_rings_136 : decode b_Main_rings 136 = .ok (.iadd, 1) := by decide +kernel
theorem d_Main_rings_137 : decode b_Main_rings 137 = .ok (.iconst 1, 1) := by decide +kernel
theorem d_Main_rings_138 : decode b_Main_rings 138 = .ok (.iadd, 1) := by decide +kernel
theorem d_Main_rings_139 : decode b_Main_rings 139 = .ok (.istore_n 3, 1) := by decide +kernel
theorem d_Main_rings_140 : decode b_Main_rings 140 = .ok (.iinc 2 1, 3) := by decide +kernel
theorem d_Main_rings_143 : decode b_Main_rings 143 = .ok (.iinc 8 1, 3) := by decide +kernel
theorem d_Main_rings_146 : decode b_Main_rings 146 = .ok (.goto (-67), 3) := by decide +kernel
theorem d_Main_rings_149 : decode b_Main_rings 149 = .ok (.iinc 6 1, 3) := by decide +kernel
theorem d_Main_rings_152 : decode b_Main_rings 152 = .ok (.goto (-110), 3) := by decide +kernel
theorem d_Main_rings_155 : decode b_Main_rings 155 = .ok (.iinc 4 1, 3) := by decide +kernel
theorem d_Main_rings_158 : decode b_Main_rings 158 = .ok (.goto (-139), 3) := by decide +kernel
theorem d_Main_rings_161 : decode b_Main_rings 161 = .ok (.iload_n 1, 1) := by decide +kernel
theorem d_Main_rings_162 : decode b_Main_rings 162 = .ok (.ifCond .ne 7, 3) := by decide +kernel
theorem d_Main_rings_165 : decode b_Main_rings 165 = .ok (.iload_n 2, 1) := by decide +kernel
theorem d_Main_rings_166 : decode b_Main_rings 166 = .ok (.goto 4, 3) := by decide +kernel
theorem d_Main_rings_169 : decode b_Main_rings 169 = .ok (.iload_n 3, 1) := by decide +kernel
theorem d_Main_rings_170 : decode b_Main_rings 170 = .ok (.ireturn, 1) := by decide +kernel
section S_Main_rings
variable {p : Program} {l : Launch} {e : Env} {s : State} {m : MethodId} {args : Array Value} {below : List Frame} {meth : Method} {c : Code} {D : va_G} {cA : Nat → ClassId} {ad : Nat → Nat} {nC : Nat} {A : Nat → Prop} {r : Int32} {τ : St}
noncomputable def F_Main_rings_143 (k13 : (St → Int32 → Int32 → Int32 → Int32 → Option (Int32 × St))) (k25 : (St → Int32 → Int32 → Int32 → Int32 → Int32 → Int32 → Option (Int32 × St))) (k43 : (St → Int32 → Int32 → Int32 → Int32 → Int32 → Int32 → Int32 → Int32 → Option (Int32 × St))) (s0 : St) (v1 : Int32) (v2 : Int32) (v3 : Int32) (v4 : Int32) (v5 : Int32) (v6 : Int32) (v7 : Int32) (v8 : Int32) : Option (Int32 × St) := (k43 s0 v1 v2 v3 v4 v5 v6 v7 (v8 + 1))
set_option maxHeartbeats 4000000 in
set_option maxRecDepth 100000 in
theorem q_Main_rings_143 (hn : 46 ≤ nC) (K : Fx p s m args meth c b_Main_rings 9 R_Main (some .int)) (k13 : (St → Int32 → Int32 → Int32 → Int32 → Option (Int32 × St))) (hk13 : ∀ (H : Heap) (locs : List Loc) (ls : Array Slot) (s0 : St) (v1 : Int32) (v2 : Int32) (v3 : Int32) (v4 : Int32), Wh D cA ad (shC.take nC) A s s0 H locs → lv_has ls 9 [(0, .ref (ad 20)), (1, .int v1), (2, .int v2), (3, .int v3), (4, .int v4)] → k13 s0 v1 v2 v3 v4 = (some (r, τ)) → W p l e rm_Main_rings s m args below meth c H locs 0 0 (MQ below (QcI D cA ad (shC.take nC) A r τ) args s 0 0 A) (F0 m 19 ls [])) (k25 : (St → Int32 → Int32 → Int32 → Int32 → Int32 → Int32 → Option (Int32 × St))) (hk25 : ∀ (H : Heap) (locs : List Loc) (ls : Array Slot) (s0 : St) (v1 : Int32) (v2 : Int32) (v3 : Int32) (v4 : Int32) (v5 : Int32) (v6 : Int32), Wh D cA ad (shC.take nC) A s s0 H locs → lv_has ls 9 [(0, .ref (ad 20)), (1, .int v1), (2, .int v2), (3, .int v3), (4, .int v4), (5, .int v5), (6, .int v6)] → k25 s0 v1 v2 v3 v4 v5 v6 = (some (r, τ)) → W p l e rm_Main_rings s m args below meth c H locs 0 0 (MQ below (QcI D cA ad (shC.take nC) A r τ) args s 0 0 A) (F0 m 42 ls [])) (k43 : (St → Int32 → Int32 → Int32 → Int32 → Int32 → Int32 → Int32 → Int32 → Option (Int32 × St))) (hk43 : ∀ (H : Heap) (locs : List Loc) (ls : Array Slot) (s0 : St) (v1 : Int32) (v2 : Int32) (v3 : Int32) (v4 : Int32) (v5 : Int32) (v6 : Int32) (v7 : Int32) (v8 : Int32), Wh D cA ad (shC.take nC) A s s0 H locs → lv_has ls 9 [(0, .ref (ad 20)), (1, .int v1), (2, .int v2), (3, .int v3), (4, .int v4), (5, .int v5), (6, .int v6), (7, .int v7), (8, .int v8)] → k43 s0 v1 v2 v3 v4 v5 v6 v7 v8 = (some (r, τ)) → W p l e rm_Main_rings s m args below meth c H locs 0 0 (MQ below (QcI D cA ad (shC.take nC) A r τ) args s 0 0 A) (F0 m 79 ls [])) : ∀ (H : Heap) (locs : List Loc) (ls : Array Slot) (s0 : St) (v1 : Int32) (v2 : Int32) (v3 : Int32) (v4 : Int32) (v5 : Int32) (v6 : Int32) (v7 : Int32) (v8 : Int32), Wh D cA ad (shC.take nC) A s s0 H locs → lv_has ls 9 [(0, .ref (ad 20)), (1, .int v1), (2, .int v2), (3, .int v3), (4, .int v4), (5, .int v5), (6, .int v6), (7, .int v7), (8, .int v8)] → F_Main_rings_143 k13 k25 k43 s0 v1 v2 v3 v4 v5 v6 v7 v8 = (some (r, τ)) → W p l e rm_Main_rings s m args below meth c H locs 0 0 (MQ below (QcI D cA ad (shC.take nC) A r τ) args s 0 0 A) (F0 m 143 ls []) := by
  have hx := K.1.1; have hb := K.1.2.1
  intro H locs ls s0 v1 v2 v3 v4 v5 v6 v7 v8 hw hl hF
  unfold F_Main_rings_143 at hF
  refine lv_iinc (v := (v8 + 1)) (lv' := [(8, .int (v8 + 1)), (0, .ref (ad 20)), (1, .int v1), (2, .int v2), (3, .int v3), (4, .int v4), (5, .int v5), (6, .int v6), (7, .int v7)]) hx hb d_Main_rings_143 hl (k := 8) rfl rfl (by decide) rfl (fun ls hl => ?_)
  refine lv_goto (tgt := 79) hx hb d_Main_rings_146 (by decide) ?_
  exact hk43 _ _ _ _ _ _ _ _ _ _ _ _  hw (lv_sub hl [1, 2, 3, 4, 5, 6, 7, 8, 0] rfl) hF
noncomputable def F_Main_rings_140 (k13 : (St → Int32 → Int32 → Int32 → Int32 → Option (Int32 × St))) (k25 : (St → Int32 → Int32 → Int32 → Int32 → Int32 → Int32 → Option (Int32 × St))) (k43 : (St → Int32 → Int32 → Int32 → Int32 → Int32 → Int32 → Int32 → Int32 → Option (Int32 × St))) (s0 : St) (v1 : Int32) (v2 : Int32) (v3 : Int32) (v4 : Int32) (v5 : Int32) (v6 : Int32) (v7 : Int32) (v8 : Int32) : Option (Int32 × St) := (F_Main_rings_143 k13 k25 k43 s0 v1 (v2 + 1) v3 v4 v5 v6 v7 v8)
set_option maxHeartbeats 4000000 in
set_option maxRecDepth 100000 in
theorem q_Main_rings_140 (hn : 46 ≤ nC) (K : Fx p s m args meth c b_Main_rings 9 R_Main (some .int)) (k13 : (St → Int32 → Int32 → Int32 → Int32 → Option (Int32 × St))) (hk13 : ∀ (H : Heap) (locs : List Loc) (ls : Array Slot) (s0 : St) (v1 : Int32) (v2 : Int32) (v3 : Int32) (v4 : Int32), Wh D cA ad (shC.take nC) A s s0 H locs → lv_has ls 9 [(0, .ref (ad 20)), (1, .int v1), (2, .int v2), (3, .int v3), (4, .int v4)] → k13 s0 v1 v2 v3 v4 = (some (r, τ)) → W p l e rm_Main_rings s m args below meth c H locs 0 0 (MQ below (QcI D cA ad (shC.take nC) A r τ) args s 0 0 A) (F0 m 19 ls [])) (k25 : (St → Int32 → Int32 → Int32 → Int32 → Int32 → Int32 → Option (Int32 × St))) (hk25 : ∀ (H : Heap) (locs : List Loc) (ls : Array Slot) (s0 : St) (v1 : Int32) (v2 : Int32) (v3 : Int32) (v4 : Int32) (v5 : Int32) (v6 : Int32), Wh D cA ad (shC.take nC) A s s0 H locs → lv_has ls 9 [(0, .ref (ad 20)), (1, .int v1), (2, .int v2), (3, .int v3), (4, .int v4), (5, .int v5), (6, .int v6)] → k25 s0 v1 v2 v3 v4 v5 v6 = (some (r, τ)) → W p l e rm_Main_rings s m args below meth c H locs 0 0 (MQ below (QcI D cA ad (shC.take nC) A r τ) args s 0 0 A) (F0 m 42 ls [])) (k43 : (St → Int32 → Int32 → Int32 → Int32 → Int32 → Int32 → Int32 → Int32 → Option (Int32 × St))) (hk43 : ∀ (H : Heap) (locs : List Loc) (ls : Array Slot) (s0 : St) (v1 : Int32) (v2 : Int32) (v3 : Int32) (v4 : Int32) (v5 : Int32) (v6 : Int32) (v7 : Int32) (v8 : Int32), Wh D cA ad (shC.take nC) A s s0 H locs → lv_has ls 9 [(0, .ref (ad 20)), (1, .int v1), (2, .int v2), (3, .int v3), (4, .int v4), (5, .int v5), (6, .int v6), (7, .int v7), (8, .int v8)] → k43 s0 v1 v2 v3 v4 v5 v6 v7 v8 = (some (r, τ)) → W p l e rm_Main_rings s m args below meth c H locs 0 0 (MQ below (QcI D cA ad (shC.take nC) A r τ) args s 0 0 A) (F0 m 79 ls [])) : ∀ (H : Heap) (locs : List Loc) (ls : Array Slot) (s0 : St) (v1 : Int32) (v2 : Int32) (v3 : Int32) (v4 : Int32) (v5 : Int32) (v6 : Int32) (v7 : Int32) (v8 : Int32), Wh D cA ad (shC.take nC) A s s0 H locs → lv_has ls 9 [(0, .ref (ad 20)), (1, .int v1), (2, .int v2), (3, .int v3), (4, .int v4), (5, .int v5), (6, .int v6), (7, .int v7), (8, .int v8)] → F_Main_rings_140 k13 k25 k43 s0 v1 v2 v3 v4 v5 v6 v7 v8 = (some (r, τ)) → W p l e rm_Main_rings s m args below meth c H locs 0 0 (MQ below (QcI D cA ad (shC.take nC) A r τ) args s 0 0 A) (F0 m 140 ls []) := by
  have hx := K.1.1; have hb := K.1.2.1
  intro H locs ls s0 v1 v2 v3 v4 v5 v6 v7 v8 hw hl hF
  unfold F_Main_rings_140 at hF
  refine lv_iinc (v := (v2 + 1)) (lv' := [(2, .int (v2 + 1)), (0, .ref (ad 20)), (1, .int v1), (3, .int v3), (4, .int v4), (5, .int v5), (6, .int v6), (7, .int v7), (8, .int v8)]) hx hb d_Main_rings_140 hl (k := 2) rfl rfl (by decide) rfl (fun ls hl => ?_)
  exact q_Main_rings_143 hn K k13 hk13 k25 hk25 k43 hk43 _ _ _ _ _ _ _ _ _ _ _ _  hw (lv_sub hl [1, 2, 0, 3, 4, 5, 6, 7, 8] rfl) hF
noncomputable def F_Main_rings_79 (k13 : (St → Int32 → Int32 → Int32 → Int32 → Option (Int32 × St))) (k25 : (St → Int32 → Int32 → Int32 → Int32 → Int32 → Int32 → Option (Int32 × St))) : Nat → St → Int32 → Int32 → Int32 → Int32 → Int32 → Int32 → Int32 → Int32 → Option (Int32 × St)
  | 0, _, _, _, _, _, _, _, _, _ => none
  | n + 1, s0, v1, v2, v3, v4, v5, v6, v7, v8 => (if (s0.1 20 1) ≤ v8 then (k25 s0 v1 v2 v3 v4 v5 (v6 + 1)) else (if (F_Main_has v7 v8) = 0 then (F_Main_rings_143 k13 k25 (fun z0 zv1 zv2 zv3 zv4 zv5 zv6 zv7 zv8 => F_Main_rings_79 k13 k25 n z0 zv1 zv2 zv3 zv4 zv5 zv6 zv7 zv8) s0 v1 v2 v3 v4 v5 v6 v7 v8) else (ob2 (F_Main_beaten s0 v8) (fun r_10 s_11 => (if ¬ (F_Main_has r_10 v4) = 0 then (if ¬ v2 = 0 then (F_Main_rings_140 k13 k25 (fun z0 zv1 zv2 zv3 zv4 zv5 zv6 zv7 zv8 => F_Main_rings_79 k13 k25 n z0 zv1 zv2 zv3 zv4 zv5 zv6 zv7 zv8) s_11 v1 v2 v3 v4 v5 v6 v7 v8) else (lt ((((((100 : Int32) * (v4 + (1 : Int32))) + ((10 : Int32) * (v6 + (1 : Int32)))) + v8) + (1 : Int32))) (fun w_14 => (F_Main_rings_140 k13 k25 (fun z0 zv1 zv2 zv3 zv4 zv5 zv6 zv7 zv8 => F_Main_rings_79 k13 k25 n z0 zv1 zv2 zv3 zv4 zv5 zv6 zv7 zv8) s_11 v1 v2 w_14 v4 v5 v6 v7 v8)))) else (F_Main_rings_143 k13 k25 (fun z0 zv1 zv2 zv3 zv4 zv5 zv6 zv7 zv8 => F_Main_rings_79 k13 k25 n z0 zv1 zv2 zv3 zv4 zv5 zv6 zv7 zv8) s_11 v1 v2 v3 v4 v5 v6 v7 v8))))))
set_option maxHeartbeats 4000000 in
set_option maxRecDepth 100000 in
theorem q_Main_rings_79 (hn : 46 ≤ nC) (K : Fx p s m args meth c b_Main_rings 9 R_Main (some .int)) (k13 : (St → Int32 → Int32 → Int32 → Int32 → Option (Int32 × St))) (hk13 : ∀ (H : Heap) (locs : List Loc) (ls : Array Slot) (s0 : St) (v1 : Int32) (v2 : Int32) (v3 : Int32) (v4 : Int32), Wh D cA ad (shC.take nC) A s s0 H locs → lv_has ls 9 [(0, .ref (ad 20)), (1, .int v1), (2, .int v2), (3, .int v3), (4, .int v4)] → k13 s0 v1 v2 v3 v4 = (some (r, τ)) → W p l e rm_Main_rings s m args below meth c H locs 0 0 (MQ below (QcI D cA ad (shC.take nC) A r τ) args s 0 0 A) (F0 m 19 ls [])) (k25 : (St → Int32 → Int32 → Int32 → Int32 → Int32 → Int32 → Option (Int32 × St))) (hk25 : ∀ (H : Heap) (locs : List Loc) (ls : Array Slot) (s0 : St) (v1 : Int32) (v2 : Int32) (v3 : Int32) (v4 : Int32) (v5 : Int32) (v6 : Int32), Wh D cA ad (shC.take nC) A s s0 H locs → lv_has ls 9 [(0, .ref (ad 20)), (1, .int v1), (2, .int v2), (3, .int v3), (4, .int v4), (5, .int v5), (6, .int v6)] → k25 s0 v1 v2 v3 v4 v5 v6 = (some (r, τ)) → W p l e rm_Main_rings s m args below meth c H locs 0 0 (MQ below (QcI D cA ad (shC.take nC) A r τ) args s 0 0 A) (F0 m 42 ls [])) : ∀ (n : Nat), ∀ (H : Heap) (locs : List Loc) (ls : Array Slot) (s0 : St) (v1 : Int32) (v2 : Int32) (v3 : Int32) (v4 : Int32) (v5 : Int32) (v6 : Int32) (v7 : Int32) (v8 : Int32), Wh D cA ad (shC.take nC) A s s0 H locs → lv_has ls 9 [(0, .ref (ad 20)), (1, .int v1), (2, .int v2), (3, .int v3), (4, .int v4), (5, .int v5), (6, .int v6), (7, .int v7), (8, .int v8)] → F_Main_rings_79 k13 k25 n s0 v1 v2 v3 v4 v5 v6 v7 v8 = (some (r, τ)) → W p l e rm_Main_rings s m args below meth c H locs 0 0 (MQ below (QcI D cA ad (shC.take nC) A r τ) args s 0 0 A) (F0 m 79 ls []) := by
  have hx := K.1.1; have hb := K.1.2.1
  intro n
  induction n with
  | zero =>
    intro H locs ls s0 v1 v2 v3 v4 v5 v6 v7 v8 hw hl hF
    exact absurd hF (by rw [F_Main_rings_79]; exact nofun)
  | succ n ih =>
    intro H locs ls s0 v1 v2 v3 v4 v5 v6 v7 v8 hw hl hF
    rw [F_Main_rings_79] at hF
    refine lv_iload hx hb d_Main_rings_79 (lv_at hl 8 rfl) ?_
    refine lv_aload_n hx hb d_Main_rings_81 rfl (lv_at hl 0 rfl) ?_
    refine r_get (v := .int (s0.1 20 1)) K hw i_Main (sh_Main (Nat.le_trans (Nat.le_of_ble_eq_true rfl) hn)) rfl 1 (by decide) w_599 rfl rfl rfl d_Main_rings_82 ?_
    refine lv_icmp_ge (tgt := 149) hx hb d_Main_rings_85 (by decide) (fun c_8 => ?_) (fun c_8 => ?_)
    · replace hF := ifT hF c_8
      refine lv_iinc (v := (v6 + 1)) (lv' := [(6, .int (v6 + 1)), (0, .ref (ad 20)), (1, .int v1), (2, .int v2), (3, .int v3), (4, .int v4), (5, .int v5), (7, .int v7), (8, .int v8)]) hx hb d_Main_rings_149 hl (k := 6) rfl rfl (by decide) rfl (fun ls hl => ?_)
      refine lv_goto (tgt := 42) hx hb d_Main_rings_152 (by decide) ?_
      exact hk25 _ _ _ _ _ _ _ _ _ _  hw (lv_sub hl [1, 2, 3, 4, 5, 6, 0] rfl) hF
    · replace hF := ifF hF c_8
      refine lv_iload hx hb d_Main_rings_88 (lv_at hl 7 rfl) ?_
      refine lv_iload hx hb d_Main_rings_90 (lv_at hl 8 rfl) ?_
      refine r_callSI (As := [.int v7, .int v8]) (rest := []) K hw hl.1 (c_Main_has (l := l) (D := D) (cA := cA) (ad := ad) (s0 := s0) (Nat.le_trans (Nat.le_of_ble_eq_true rfl) hn)  rfl) (tb_gS w_838 w_839 w_63 w_840) a_Main_has ⟨rfl, rfl, Nat.le_of_ble_eq_true rfl, Nat.le_of_ble_eq_true rfl⟩ rfl rfl (Nat.le_of_ble_eq_true rfl) d_Main_rings_92 (fun H locs hw => ?_)
      refine lv_if_eq (tgt := 143) hx hb d_Main_rings_95 (by decide) (fun c_9 => ?_) (fun c_9 => ?_)
      · replace hF := ifT hF c_9
        exact q_Main_rings_143 hn K k13 hk13 k25 hk25 (fun z0 zv1 zv2 zv3 zv4 zv5 zv6 zv7 zv8 => F_Main_rings_79 k13 k25 n z0 zv1 zv2 zv3 zv4 zv5 zv6 zv7 zv8) ih _ _ _ _ _ _ _ _ _ _ _ _  hw (lv_sub hl [0, 1, 2, 3, 4, 5, 6, 7, 8] rfl) hF
      · replace hF := ifF hF c_9
        refine lv_aload_n hx hb d_Main_rings_98 rfl (lv_at hl 0 rfl) ?_
        refine lv_iload hx hb d_Main_rings_99 (lv_at hl 8 rfl) ?_
        obtain ⟨r_10, s_11, h_s_11, hF⟩ := ob2E hF
        refine r_callVI (As := [.int v8]) (rest := []) K hw hl.1 (c_Main_beaten (l := l) (D := D) (cA := cA) (ad := ad) (s0 := s0) (Nat.le_trans (Nat.le_of_ble_eq_true rfl) hn)  h_s_11) (sh_Main (Nat.le_trans (Nat.le_of_ble_eq_true rfl) hn)) rfl (tb_gV w_858 w_860 w_26 w_63 w_861) a_Main_beaten ⟨rfl, rfl, Nat.le_of_ble_eq_true rfl, Nat.le_of_ble_eq_true rfl⟩ rfl rfl (Nat.le_of_ble_eq_true rfl) d_Main_rings_101 (fun H locs hw => ?_)
        refine lv_iload hx hb d_Main_rings_104 (lv_at hl 4 rfl) ?_
        refine r_callSI (As := [.int r_10, .int v4]) (rest := []) K hw hl.1 (c_Main_has (l := l) (D := D) (cA := cA) (ad := ad) (s0 := s_11) (Nat.le_trans (Nat.le_of_ble_eq_true rfl) hn)  rfl) (tb_gS w_838 w_839 w_63 w_840) a_Main_has ⟨rfl, rfl, Nat.le_of_ble_eq_true rfl, Nat.le_of_ble_eq_true rfl⟩ rfl rfl (Nat.le_of_ble_eq_true rfl) d_Main_rings_106 (fun H locs hw => ?_)
        refine lv_if_ne (tgt := 115) hx hb d_Main_rings_109 (by decide) (fun c_12 => ?_) (fun c_12 => ?_)
        · replace hF := ifT hF c_12
          refine lv_iload_n hx hb d_Main_rings_115 rfl (lv_at hl 2 rfl) ?_
          refine lv_if_ne (tgt := 140) hx hb d_Main_rings_116 (by decide) (fun c_13 => ?_) (fun c_13 => ?_)
          · replace hF := ifT hF c_13
            exact q_Main_rings_140 hn K k13 hk13 k25 hk25 (fun z0 zv1 zv2 zv3 zv4 zv5 zv6 zv7 zv8 => F_Main_rings_79 k13 k25 n z0 zv1 zv2 zv3 zv4 zv5 zv6 zv7 zv8) ih _ _ _ _ _ _ _ _ _ _ _ _  hw (lv_sub hl [0, 1, 2, 3, 4, 5, 6, 7, 8] rfl) hF
          · replace hF := ifN hF c_13
            refine lv_bipush (v := 100) hx hb d_Main_rings_119 (by decide) ?_
            refine lv_iload hx hb d_Main_rings_121 (lv_at hl 4 rfl) ?_
            refine lv_iconst (v := 1) hx hb d_Main_rings_123 (by decide) ?_
            refine lv_iadd hx hb d_Main_rings_124 ?_
            refine lv_imul hx hb d_Main_rings_125 ?_
            refine lv_bipush (v := 10) hx hb d_Main_rings_126 (by decide) ?_
            refine lv_iload hx hb d_Main_rings_128 (lv_at hl 6 rfl) ?_
            refine lv_iconst (v := 1) hx hb d_Main_rings_130 (by decide) ?_
            refine lv_iadd hx hb d_Main_rings_131 ?_
            refine lv_imul hx hb d_Main_rings_132 ?_
            refine lv_iadd hx hb d_Main_rings_133 ?_
            refine lv_iload hx hb d_Main_rings_134 (lv_at hl 8 rfl) ?_
            refine lv_iadd hx hb d_Main_rings_136 ?_
            refine lv_iconst (v := 1) hx hb d_Main_rings_137 (by decide) ?_
            refine lv_iadd hx hb d_Main_rings_138 ?_
            refine lv_topi (fun w_14 f_w_14 => ?_)
            replace hF := ltN hF f_w_14
            refine lv_istore_n (lv' := [(3, .int w_14), (0, .ref (ad 20)), (1, .int v1), (2, .int v2), (4, .int v4), (5, .int v5), (6, .int v6), (7, .int v7), (8, .int v8)]) hx hb d_Main_rings_139 rfl hl (by decide) rfl (fun ls hl => ?_)
            exact q_Main_rings_140 hn K k13 hk13 k25 hk25 (fun z0 zv1 zv2 zv3 zv4 zv5 zv6 zv7 zv8 => F_Main_rings_79 k13 k25 n z0 zv1 zv2 zv3 zv4 zv5 zv6 zv7 zv8) ih _ _ _ _ _ _ _ _ _ _ _ _  hw (lv_sub hl [1, 2, 3, 0, 4, 5, 6, 7, 8] rfl) hF
        · replace hF := ifN hF c_12
          refine lv_goto (tgt := 143) hx hb d_Main_rings_112 (by decide) ?_
          exact q_Main_rings_143 hn K k13 hk13 k25 hk25 (fun z0 zv1 zv2 zv3 zv4 zv5 zv6 zv7 zv8 => F_Main_rings_79 k13 k25 n z0 zv1 zv2 zv3 zv4 zv5 zv6 zv7 zv8) ih _ _ _ _ _ _ _ _ _ _ _ _  hw (lv_sub hl [0, 1, 2, 3, 4, 5, 6, 7, 8] rfl) hF
noncomputable def F_Main_rings_71 (k13 : (St → Int32 → Int32 → Int32 → Int32 → Option (Int32 × St))) (k25 : (St → Int32 → Int32 → Int32 → Int32 → Int32 → Int32 → Option (Int32 × St))) (s0 : St) (v1 : Int32) (v2 : Int32) (v3 : Int32) (v4 : Int32) (v5 : Int32) (v6 : Int32) (t0 : Int32) : Option (Int32 × St) := (F_Main_rings_79 k13 k25 FU s0 v1 v2 v3 v4 v5 v6 t0 (v4 + (1 : Int32)))
set_option maxHeartbeats 4000000 in
set_option maxRecDepth 100000 in
theorem q_Main_rings_71 (hn : 46 ≤ nC) (K : Fx p s m args meth c b_Main_rings 9 R_Main (some .int)) (k13 : (St → Int32 → Int32 → Int32 → Int32 → Option (Int32 × St))) (hk13 : ∀ (H : Heap) (locs : List Loc) (ls : Array Slot) (s0 : St) (v1 : Int32) (v2 : Int32) (v3 : Int32) (v4 : Int32), Wh D cA ad (shC.take nC) A s s0 H locs → lv_has ls 9 [(0, .ref (ad 20)), (1, .int v1), (2, .int v2), (3, .int v3), (4, .int v4)] → k13 s0 v1 v2 v3 v4 = (some (r, τ)) → W p l e rm_Main_rings s m args below meth c H locs 0 0 (MQ below (QcI D cA ad (shC.take nC) A r τ) args s 0 0 A) (F0 m 19 ls [])) (k25 : (St → Int32 → Int32 → Int32 → Int32 → Int32 → Int32 → Option (Int32 × St))) (hk25 : ∀ (H : Heap) (locs : List Loc) (ls : Array Slot) (s0 : St) (v1 : Int32) (v2 : Int32) (v3 : Int32) (v4 : Int32) (v5 : Int32) (v6 : Int32), Wh D cA ad (shC.take nC) A s s0 H locs → lv_has ls 9 [(0, .ref (ad 20)), (1, .int v1), (2, .int v2), (3, .int v3), (4, .int v4), (5, .int v5), (6, .int v6)] → k25 s0 v1 v2 v3 v4 v5 v6 = (some (r, τ)) → W p l e rm_Main_rings s m args below meth c H locs 0 0 (MQ below (QcI D cA ad (shC.take nC) A r τ) args s 0 0 A) (F0 m 42 ls [])) : ∀ (H : Heap) (locs : List Loc) (ls : Array Slot) (s0 : St) (v1 : Int32) (v2 : Int32) (v3 : Int32) (v4 : Int32) (v5 : Int32) (v6 : Int32) (t0 : Int32), Wh D cA ad (shC.take nC) A s s0 H locs → lv_has ls 9 [(0, .ref (ad 20)), (1, .int v1), (2, .int v2), (3, .int v3), (4, .int v4), (5, .int v5), (6, .int v6)] → F_Main_rings_71 k13 k25 s0 v1 v2 v3 v4 v5 v6 t0 = (some (r, τ)) → W p l e rm_Main_rings s m args below meth c H locs 0 0 (MQ below (QcI D cA ad (shC.take nC) A r τ) args s 0 0 A) (F0 m 71 ls [.int t0]) := by
  have hx := K.1.1; have hb := K.1.2.1
  intro H locs ls s0 v1 v2 v3 v4 v5 v6 t0 hw hl hF
  unfold F_Main_rings_71 at hF
  refine lv_istore (lv' := [(7, .int t0), (0, .ref (ad 20)), (1, .int v1), (2, .int v2), (3, .int v3), (4, .int v4), (5, .int v5), (6, .int v6)]) hx hb d_Main_rings_71 hl (by decide) rfl (fun ls hl => ?_)
  refine lv_iload hx hb d_Main_rings_73 (lv_at hl 5 rfl) ?_
  refine lv_iconst (v := 1) hx hb d_Main_rings_75 (by decide) ?_
  refine lv_iadd hx hb d_Main_rings_76 ?_
  refine lv_istore (lv' := [(8, .int (v4 + (1 : Int32))), (7, .int t0), (0, .ref (ad 20)), (1, .int v1), (2, .int v2), (3, .int v3), (4, .int v4), (5, .int v5), (6, .int v6)]) hx hb d_Main_rings_77 hl (by decide) rfl (fun ls hl => ?_)
  exact q_Main_rings_79 hn K k13 hk13 k25 hk25 FU _ _ _ _ _ _ _ _ _ _ _ _  hw (lv_sub hl [2, 3, 4, 5, 6, 7, 8, 1, 0] rfl) hF
noncomputable def F_Main_rings_42 (k13 : (St → Int32 → Int32 → Int32 → Int32 → Option (Int32 × St))) : Nat → St → Int32 → Int32 → Int32 → Int32 → Int32 → Int32 → Option (Int32 × St)
  | 0, _, _, _, _, _, _, _ => none
  | n + 1, s0, v1, v2, v3, v4, v5, v6 => (if (s0.1 20 1) ≤ v6 then (k13 s0 v1 v2 v3 (v4 + 1)) else (if (F_Main_has v5 v6) = 0 then (F_Main_rings_71 k13 (fun z0 zv1 zv2 zv3 zv4 zv5 zv6 => F_Main_rings_42 k13 n z0 zv1 zv2 zv3 zv4 zv5 zv6) s0 v1 v2 v3 v4 v5 v6 (0 : Int32)) else (ob2 (F_Main_beaten s0 v6) (fun r_15 s_16 => (F_Main_rings_71 k13 (fun z0 zv1 zv2 zv3 zv4 zv5 zv6 => F_Main_rings_42 k13 n z0 zv1 zv2 zv3 zv4 zv5 zv6) s_16 v1 v2 v3 v4 v5 v6 r_15)))))
set_option maxHeartbeats 4000000 in
set_option maxRecDepth 100000 in
theorem q_Main_rings_42 (hn : 46 ≤ nC) (K : Fx p s m args meth c b_Main_rings 9 R_Main (some .int)) (k13 : (St → Int32 → Int32 → Int32 → Int32 → Option (Int32 × St))) (hk13 : ∀ (H : Heap) (locs : List Loc) (ls : Array Slot) (s0 : St) (v1 : Int32) (v2 : Int32) (v3 : Int32) (v4 : Int32), Wh D cA ad (shC.take nC) A s s0 H locs → lv_has ls 9 [(0, .ref (ad 20)), (1, .int v1), (2, .int v2), (3, .int v3), (4, .int v4)] → k13 s0 v1 v2 v3 v4 = (some (r, τ)) → W p l e rm_Main_rings s m args below meth c H locs 0 0 (MQ below (QcI D cA ad (shC.take nC) A r τ) args s 0 0 A) (F0 m 19 ls [])) : ∀ (n : Nat), ∀ (H : Heap) (locs : List Loc) (ls : Array Slot) (s0 : St) (v1 : Int32) (v2 : Int32) (v3 : Int32) (v4 : Int32) (v5 : Int32) (v6 : Int32), Wh D cA ad (shC.take nC) A s s0 H locs → lv_has ls 9 [(0, .ref (ad 20)), (1, .int v1), (2, .int v2), (3, .int v3), (4, .int v4), (5, .int v5), (6, .int v6)] → F_Main_rings_42 k13 n s0 v1 v2 v3 v4 v5 v6 = (some (r, τ)) → W p l e rm_Main_rings s m args below meth c H locs 0 0 (MQ below (QcI D cA ad (shC.take nC) A r τ) args s 0 0 A) (F0 m 42 ls []) := by
  have hx := K.1.1; have hb := K.1.2.1
  intro n
  induction n with
  | zero =>
    intro H locs ls s0 v1 v2 v3 v4 v5 v6 hw hl hF
    exact absurd hF (by rw [F_Main_rings_42]; exact nofun)
  | succ n ih =>
    intro H locs ls s0 v1 v2 v3 v4 v5 v6 hw hl hF
    rw [F_Main_rings_42] at hF
    refine lv_iload hx hb d_Main_rings_42 (lv_at hl 6 rfl) ?_
    refine lv_aload_n hx hb d_Main_rings_44 rfl (lv_at hl 0 rfl) ?_
    refine r_get (v := .int (s0.1 20 1)) K hw i_Main (sh_Main (Nat.le_trans (Nat.le_of_ble_eq_true rfl) hn)) rfl 1 (by decide) w_599 rfl rfl rfl d_Main_rings_45 ?_
    refine lv_icmp_ge (tgt := 155) hx hb d_Main_rings_48 (by decide) (fun c_6 => ?_) (fun c_6 => ?_)
    · replace hF := ifT hF c_6
      refine lv_iinc (v := (v4 + 1)) (lv' := [(4, .int (v4 + 1)), (0, .ref (ad 20)), (1, .int v1), (2, .int v2), (3, .int v3), (5, .int v5), (6, .int v6)]) hx hb d_Main_rings_155 hl (k := 4) rfl rfl (by decide) rfl (fun ls hl => ?_)
      refine lv_goto (tgt := 19) hx hb d_Main_rings_158 (by decide) ?_
      exact hk13 _ _ _ _ _ _ _ _  hw (lv_sub hl [1, 2, 3, 4, 0] rfl) hF
    · replace hF := ifF hF c_6
      refine lv_iload hx hb d_Main_rings_51 (lv_at hl 5 rfl) ?_
      refine lv_iload hx hb d_Main_rings_53 (lv_at hl 6 rfl) ?_
      refine r_callSI (As := [.int v5, .int v6]) (rest := []) K hw hl.1 (c_Main_has (l := l) (D := D) (cA := cA) (ad := ad) (s0 := s0) (Nat.le_trans (Nat.le_of_ble_eq_true rfl) hn)  rfl) (tb_gS w_838 w_839 w_63 w_840) a_Main_has ⟨rfl, rfl, Nat.le_of_ble_eq_true rfl, Nat.le_of_ble_eq_true rfl⟩ rfl rfl (Nat.le_of_ble_eq_true rfl) d_Main_rings_55 (fun H locs hw => ?_)
      refine lv_if_eq (tgt := 70) hx hb d_Main_rings_58 (by decide) (fun c_7 => ?_) (fun c_7 => ?_)
      · replace hF := ifT hF c_7
        refine lv_iconst (v := 0) hx hb d_Main_rings_70 (by decide) ?_
        exact q_Main_rings_71 hn K k13 hk13 (fun z0 zv1 zv2 zv3 zv4 zv5 zv6 => F_Main_rings_42 k13 n z0 zv1 zv2 zv3 zv4 zv5 zv6) ih _ _ _ _ _ _ _ _ _ _ _  hw (lv_sub hl [0, 1, 2, 3, 4, 5, 6] rfl) hF
      · replace hF := ifF hF c_7
        refine lv_aload_n hx hb d_Main_rings_61 rfl (lv_at hl 0 rfl) ?_
        refine lv_iload hx hb d_Main_rings_62 (lv_at hl 6 rfl) ?_
        obtain ⟨r_15, s_16, h_s_16, hF⟩ := ob2E hF
        refine r_callVI (As := [.int v6]) (rest := []) K hw hl.1 (c_Main_beaten (l := l) (D := D) (cA := cA) (ad := ad) (s0 := s0) (Nat.le_trans (Nat.le_of_ble_eq_true rfl) hn)  h_s_16) (sh_Main (Nat.le_trans (Nat.le_of_ble_eq_true rfl) hn)) rfl (tb_gV w_858 w_860 w_26 w_63 w_861) a_Main_beaten ⟨rfl, rfl, Nat.le_of_ble_eq_true rfl, Nat.le_of_ble_eq_true rfl⟩ rfl rfl (Nat.le_of_ble_eq_true rfl) d_Main_rings_64 (fun H locs hw => ?_)
        refine lv_goto (tgt := 71) hx hb d_Main_rings_67 (by decide) ?_
        exact q_Main_rings_71 hn K k13 hk13 (fun z0 zv1 zv2 zv3 zv4 zv5 zv6 => F_Main_rings_42 k13 n z0 zv1 zv2 zv3 zv4 zv5 zv6) ih _ _ _ _ _ _ _ _ _ _ _  hw (lv_sub hl [0, 1, 2, 3, 4, 5, 6] rfl) hF
noncomputable def F_Main_rings_19 : Nat → St → Int32 → Int32 → Int32 → Int32 → Option (Int32 × St)
  | 0, _, _, _, _, _ => none
  | n + 1, s0, v1, v2, v3, v4 => (if (s0.1 20 1) ≤ v4 then (if ¬ v1 = 0 then (some (v3, s0)) else (some (v2, s0))) else (ob2 (F_Main_beaten s0 v4) (fun r_4 s_5 => (F_Main_rings_42 (fun z0 zv1 zv2 zv3 zv4 => F_Main_rings_19 n z0 zv1 zv2 zv3 zv4) FU s_5 v1 v2 v3 v4 r_4 (v4 + (1 : Int32))))))
set_option maxHeartbeats 4000000 in
set_option maxRecDepth 100000 in
theorem q_Main_rings_19 (hn : 46 ≤ nC) (K : Fx p s m args meth c b_Main_rings 9 R_Main (some .int))  : ∀ (n : Nat), ∀ (H : Heap) (locs : List Loc) (ls : Array Slot) (s0 : St) (v1 : Int32) (v2 : Int32) (v3 : Int32) (v4 : Int32), Wh D cA ad (shC.take nC) A s s0 H locs → lv_has ls 9 [(0, .ref (ad 20)), (1, .int v1), (2, .int v2), (3, .int v3), (4, .int v4)] → F_Main_rings_19 n s0 v1 v2 v3 v4 = (some (r, τ)) → W p l e rm_Main_rings s m args below meth c H locs 0 0 (MQ below (QcI D cA ad (shC.take nC) A r τ) args s 0 0 A) (F0 m 19 ls []) := by
  have hx := K.1.1; have hb := K.1.2.1
  intro n
  induction n with
  | zero =>
    intro H locs ls s0 v1 v2 v3 v4 hw hl hF
    exact absurd hF (by rw [F_Main_rings_19]; exact nofun)
  | succ n ih =>
    intro H locs ls s0 v1 v2 v3 v4 hw hl hF
    rw [F_Main_rings_19] at hF
    refine lv_iload hx hb d_Main_rings_19 (lv_at hl 4 rfl) ?_
    refine lv_aload_n hx hb d_Main_rings_21 rfl (lv_at hl 0 rfl) ?_
    refine r_get (v := .int (s0.1 20 1)) K hw i_Main (sh_Main (Nat.le_trans (Nat.le_of_ble_eq_true rfl) hn)) rfl 1 (by decide) w_599 rfl rfl rfl d_Main_rings_22 ?_
    refine lv_icmp_ge (tgt := 161) hx hb d_Main_rings_25 (by decide) (fun c_2 => ?_) (fun c_2 => ?_)
    · replace hF := ifT hF c_2
      refine lv_iload_n hx hb d_Main_rings_161 rfl (lv_at hl 1 rfl) ?_
      refine lv_if_ne (tgt := 169) hx hb d_Main_rings_162 (by decide) (fun c_3 => ?_) (fun c_3 => ?_)
      · replace hF := ifT hF c_3
        refine lv_iload_n hx hb d_Main_rings_169 rfl (lv_at hl 3 rfl) ?_
        obtain ⟨hF, hG⟩ := sE2 hF
        subst hF
        subst hG
        exact r_iret K hw d_Main_rings_170
      · replace hF := ifN hF c_3
        refine lv_iload_n hx hb d_Main_rings_165 rfl (lv_at hl 2 rfl) ?_
        refine lv_goto (tgt := 170) hx hb d_Main_rings_166 (by decide) ?_
        obtain ⟨hF, hG⟩ := sE2 hF
        subst hF
        subst hG
        exact r_iret K hw d_Main_rings_170
    · replace hF := ifF hF c_2
      refine lv_aload_n hx hb d_Main_rings_28 rfl (lv_at hl 0 rfl) ?_
      refine lv_iload hx hb d_Main_rings_29 (lv_at hl 4 rfl) ?_
      obtain ⟨r_4, s_5, h_s_5, hF⟩ := ob2E hF
      refine r_callVI (As := [.int v4]) (rest := []) K hw hl.1 (c_Main_beaten (l := l) (D := D) (cA := cA) (ad := ad) (s0 := s0) (Nat.le_trans (Nat.le_of_ble_eq_true rfl) hn)  h_s_5) (sh_Main (Nat.le_trans (Nat.le_of_ble_eq_true rfl) hn)) rfl (tb_gV w_858 w_860 w_26 w_63 w_861) a_Main_beaten ⟨rfl, rfl, Nat.le_of_ble_eq_true rfl, Nat.le_of_ble_eq_true rfl⟩ rfl rfl (Nat.le_of_ble_eq_true rfl) d_Main_rings_31 (fun H locs hw => ?_)
      refine lv_istore (lv' := [(5, .int r_4), (0, .ref (ad 20)), (1, .int v1), (2, .int v2), (3, .int v3), (4, .int v4)]) hx hb d_Main_rings_34 hl (by decide) rfl (fun ls hl => ?_)
      refine lv_iload hx hb d_Main_rings_36 (lv_at hl 5 rfl) ?_
      refine lv_iconst (v := 1) hx hb d_Main_rings_38 (by decide) ?_
      refine lv_iadd hx hb d_Main_rings_39 ?_
      refine lv_istore (lv' := [(6, .int (v4 + (1 : Int32))), (5, .int r_4), (0, .ref (ad 20)), (1, .int v1), (2, .int v2), (3, .int v3), (4, .int v4)]) hx hb d_Main_rings_40 hl (by decide) rfl (fun ls hl => ?_)
      exact q_Main_rings_42 hn K (fun z0 zv1 zv2 zv3 zv4 => F_Main_rings_19 n z0 zv1 zv2 zv3 zv4) ih FU _ _ _ _ _ _ _ _ _ _  hw (lv_sub hl [2, 3, 4, 5, 6, 1, 0] rfl) hF
noncomputable def F_Main_rings_0 (s0 : St) (v1 : Int32) : Option (Int32 × St) := (if ¬ (F_Main_isWithin v1 (0 : Int32) (1 : Int32)) = 0 then (F_Main_rings_19 FU s0 v1 (0 : Int32) (-1 : Int32) (0 : Int32)) else (some ((-2 : Int32), s0)))
set_option maxHeartbeats 4000000 in
set_option maxRecDepth 100000 in
theorem q_Main_rings_0 (hn : 46 ≤ nC) (K : Fx p s m args meth c b_Main_rings 9 R_Main (some .int))  : ∀ (H : Heap) (locs : List Loc) (ls : Array Slot) (s0 : St) (v1 : Int32), Wh D cA ad (shC.take nC) A s s0 H locs → lv_has ls 9 [(0, .ref (ad 20)), (1, .int v1)] → F_Main_rings_0 s0 v1 = (some (r, τ)) → W p l e rm_Main_rings s m args below meth c H locs 0 0 (MQ below (QcI D cA ad (shC.take nC) A r τ) args s 0 0 A) (F0 m 0 ls []) := by
  have hx := K.1.1; have hb := K.1.2.1
  intro H locs ls s0 v1 hw hl hF
  unfold F_Main_rings_0 at hF
  refine lv_iload_n hx hb d_Main_rings_0 rfl (lv_at hl 1 rfl) ?_
  refine lv_iconst (v := 0) hx hb d_Main_rings_1 (by decide) ?_
  refine lv_iconst (v := 1) hx hb d_Main_rings_2 (by decide) ?_
  refine r_callSI (As := [.int v1, .int (0 : Int32), .int (1 : Int32)]) (rest := []) K hw hl.1 (c_Main_isWithin (l := l) (D := D) (cA := cA) (ad := ad) (s0 := s0) (Nat.le_trans (Nat.le_of_ble_eq_true rfl) hn)  rfl) (tb_gS w_640 w_347 w_63 w_348) a_Main_isWithin ⟨rfl, rfl, Nat.le_of_ble_eq_true rfl, Nat.le_of_ble_eq_true rfl⟩ rfl rfl (Nat.le_of_ble_eq_true rfl) d_Main_rings_3 (fun H locs hw => ?_)
  refine lv_if_ne (tgt := 12) hx hb d_Main_rings_6 (by decide) (fun c_1 => ?_) (fun c_1 => ?_)
  · replace hF := ifT hF c_1
    refine lv_iconst (v := 0) hx hb d_Main_rings_12 (by decide) ?_
    refine lv_istore_n (lv' := [(2, .int (0 : Int32)), (0, .ref (ad 20)), (1, .int v1)]) hx hb d_Main_rings_13 rfl hl (by decide) rfl (fun ls hl => ?_)
    refine lv_iconst (v := -1) hx hb d_Main_rings_14 (by decide) ?_
    refine lv_istore_n (lv' := [(3, .int (-1 : Int32)), (2, .int (0 : Int32)), (0, .ref (ad 20)), (1, .int v1)]) hx hb d_Main_rings_15 rfl hl (by decide) rfl (fun ls hl => ?_)
    refine lv_iconst (v := 0) hx hb d_Main_rings_16 (by decide) ?_
    refine lv_istore (lv' := [(4, .int (0 : Int32)), (3, .int (-1 : Int32)), (2, .int (0 : Int32)), (0, .ref (ad 20)), (1, .int v1)]) hx hb d_Main_rings_17 hl (by decide) rfl (fun ls hl => ?_)
    exact q_Main_rings_19 hn K FU _ _ _ _ _ _ _ _  hw (lv_sub hl [3, 4, 2, 1, 0] rfl) hF
  · replace hF := ifN hF c_1
    refine lv_bipush (v := -2) hx hb d_Main_rings_9 (by decide) ?_
    obtain ⟨hF, hG⟩ := sE2 hF
    subst hF
    subst hG
    exact r_iret K hw d_Main_rings_11
end S_Main_rings
noncomputable abbrev F_Main_rings := F_Main_rings_0
theorem c_Main_rings {l : Launch} {D : va_G} {cA : Nat → ClassId} {ad : Nat → Nat} {s0 τ : St} {nC : Nat} (hn : 46 ≤ nC) {r : Int32} {v1 : Int32}  (hF : F_Main_rings s0 v1 = (some (r, τ))) : MI l D cA ad (shC.take nC) y_Main_rings (wT y_Main_rings b_Main_rings 9 (some .int)) rm_Main_rings [.ref (ad 20), .int v1] s0 r τ := fun sz => m_start (Qc := fun A => QcI D cA ad (shC.take nC) A r τ) (by decide +kernel) w_865 (Nat.le_of_ble_eq_true rfl) (fun p e s m below meth c ls K hl hw => q_Main_rings_0 hn K _ _ _ _ _  hw hl hF)

/-! Sheet.hasPlace(I)Z -/
abbrev b_Sheet_hasPlace : ByteArray := prog_7_method_3_code
def y_Sheet_hasPlace : MethodName := ⟨R_Sheet, "hasPlace", "(I)Z"⟩
theorem a_Sheet_hasPlace : y_Sheet_hasPlace.cls = R_Sheet ∧ y_Sheet_hasPlace.cls ≠ "java/lang/invoke/MethodHandle" ∧ y_Sheet_hasPlace.cls ≠ "java/lang/invoke/VarHandle" ∧ (parseMethodDescriptor y_Sheet_hasPlace.desc).map (fun d => d.parameters.length) = some 1 := by decide +kernel
abbrev rm_Sheet_hasPlace : Room := { frames := 1, cells := 0, slots := 0, locals := 22 }
theorem w_193 : Cond.fieldLink R_Sheet 23 R_Sheet "size" "I" ∈ TB := tb_in 193 (by decide +kernel) (by decide +kernel)
theorem w_888 : Cond.code y_Sheet_hasPlace b_Sheet_hasPlace 2 (some .boolean) ∈ TB := tb_in 888 (by decide +kernel) (by decide +kernel)
theorem nw_889 : Cond.methodLinkNest R_Sheet 26 y_Main_isWithin R_Main ∈ NWS := List.mem_of_getElem? (i := 11) (by decide +kernel)
theorem d_Sheet_hasPlace_0 : decode b_Sheet_hasPlace 0 = .ok (.iload_n 1, 1) := by decide +kernel
theorem d_Sheet_hasPlace_1 : decode b_Sheet_hasPlace 1 = .ok (.iconst 0, 1) := by decide +kernel
theorem d_Sheet_hasPlace_2 : decode b_Sheet_hasPlace 2 = .ok (.aload_n 0, 1) := by decide +kernel
theorem d_Sheet_hasPlace_3 : decode b_Sheet_hasPlace 3 = .ok (.getfield 23, 3) := by decide +kernel
theorem d_Sheet_hasPlace_6 : decode b_Sheet_hasPlace 6 = .ok (.iconst 1, 1) := by decide +kernel
theorem d_Sheet_hasPlace_7 : decode b_Sheet_hasPlace 7 = .ok (.isub, 1) := by decide +kernel
theorem d_Sheet_hasPlace_8 : decode b_Sheet_hasPlace 8 = .ok (.invokestatic 26, 3) := by decide +kernel
theorem d_Sheet_hasPlace_11 : decode b_Sheet_hasPlace 11 = .ok (.ireturn, 1) := by decide +kernel
section S_Sheet_hasPlace
variable {p : Program} {l : Launch} {e : Env} {s : State} {m : MethodId} {args : Array Value} {below : List Frame} {meth : Method} {c : Code} {D : va_G} {cA : Nat → ClassId} {ad : Nat → Nat} {nC : Nat} {A : Nat → Prop} {r : Int32} {τ : St}
noncomputable def F_Sheet_hasPlace_0 (s0 : St) (v0 : Nat) (v1 : Int32) : Option Int32 := (if ((F_Main_isWithin v1 (0 : Int32) ((s0.1 v0 2) - (1 : Int32))) = 0 ∨ (F_Main_isWithin v1 (0 : Int32) ((s0.1 v0 2) - (1 : Int32))) = 1) then (some (F_Main_isWithin v1 (0 : Int32) ((s0.1 v0 2) - (1 : Int32)))) else none)
set_option maxHeartbeats 4000000 in
set_option maxRecDepth 100000 in
theorem q_Sheet_hasPlace_0 (hn : 37 ≤ nC) (s0 : St) (K : Fx p s m args meth c b_Sheet_hasPlace 2 R_Sheet (some .boolean))  : ∀ (H : Heap) (locs : List Loc) (ls : Array Slot) (v0 : Nat) (v1 : Int32) (g_v0 : P_Sheet v0), Wh D cA ad (shC.take nC) A s s0 H locs → lv_has ls 2 [(0, .ref (ad v0)), (1, .int v1)] → F_Sheet_hasPlace_0 s0 v0 v1 = (some r) → W p l e rm_Sheet_hasPlace s m args below meth c H locs 0 0 (MQ below (QcI D cA ad (shC.take nC) A r s0) args s 0 0 A) (F0 m 0 ls []) := by
  have hx := K.1.1; have hb := K.1.2.1
  intro H locs ls v0 v1 g_v0 hw hl hF
  unfold F_Sheet_hasPlace_0 at hF
  refine lv_iload_n hx hb d_Sheet_hasPlace_0 rfl (lv_at hl 1 rfl) ?_
  refine lv_iconst (v := 0) hx hb d_Sheet_hasPlace_1 (by decide) ?_
  refine lv_aload_n hx hb d_Sheet_hasPlace_2 rfl (lv_at hl 0 rfl) ?_
  refine r_get (v := .int (s0.1 v0 2)) K hw i_Sheet (sh_Sheet g_v0 (Nat.le_trans (Nat.le_of_ble_eq_true rfl) hn)) rfl 2 (by decide) w_193 rfl rfl rfl d_Sheet_hasPlace_3 ?_
  refine lv_iconst (v := 1) hx hb d_Sheet_hasPlace_6 (by decide) ?_
  refine lv_isub hx hb d_Sheet_hasPlace_7 ?_
  refine r_callNI (As := [.int v1, .int (0 : Int32), .int ((s0.1 v0 2) - (1 : Int32))]) (rest := []) K hw hl.1 (c_Main_isWithin (l := l) (D := D) (cA := cA) (ad := ad) (s0 := s0) (Nat.le_trans (Nat.le_of_ble_eq_true rfl) hn)  rfl) (nw_889) w_347 w_63 w_348 a_Main_isWithin.2 ⟨rfl, rfl, Nat.le_of_ble_eq_true rfl, Nat.le_of_ble_eq_true rfl⟩ rfl rfl (Nat.le_of_ble_eq_true rfl) d_Sheet_hasPlace_8 (fun H locs hw => ?_)
  obtain ⟨g_1, hF⟩ := ifG hF
  replace hF := sE1 hF
  subst hF
  exact r_zret K hw (zN g_1) d_Sheet_hasPlace_11
end S_Sheet_hasPlace
noncomputable abbrev F_Sheet_hasPlace := F_Sheet_hasPlace_0
theorem c_Sheet_hasPlace {l : Launch} {D : va_G} {cA : Nat → ClassId} {ad : Nat → Nat} {s0 : St} {nC : Nat} (hn : 37 ≤ nC) {r : Int32} {v0 : Nat} {v1 : Int32} (g_v0 : P_Sheet v0) (hF : F_Sheet_hasPlace s0 v0 v1 = (some r)) : MI l D cA ad (shC.take nC) y_Sheet_hasPlace (wT y_Sheet_hasPlace b_Sheet_hasPlace 2 (some .boolean)) rm_Sheet_hasPlace [.ref (ad v0), .int v1] s0 r s0 := fun sz => m_start (Qc := fun A => QcI D cA ad (shC.take nC) A r s0) (by decide +kernel) w_888 (Nat.le_of_ble_eq_true rfl) (fun p e s m below meth c ls K hl hw => q_Sheet_hasPlace_0 hn s0 K _ _ _ _ _ g_v0 hw hl hF)

/-! Sheet.at(I)I -/
abbrev b_Sheet_at : ByteArray := prog_7_method_5_code
def y_Sheet_at : MethodName := ⟨R_Sheet, "at", "(I)I"⟩
theorem a_Sheet_at : y_Sheet_at.cls = R_Sheet ∧ y_Sheet_at.cls ≠ "java/lang/invoke/MethodHandle" ∧ y_Sheet_at.cls ≠ "java/lang/invoke/VarHandle" ∧ (parseMethodDescriptor y_Sheet_at.desc).map (fun d => d.parameters.length) = some 1 := by decide +kernel
abbrev rm_Sheet_at : Room := { frames := 2, cells := 0, slots := 0, locals := 43 }
theorem w_885 : Cond.methodLink R_Sheet 30 y_Sheet_hasPlace ∈ TB := tb_in 885 (by decide +kernel) (by decide +kernel)
theorem w_886 : Cond.instanceMethod y_Sheet_hasPlace ∈ TB := tb_in 886 (by decide +kernel) (by decide +kernel)
theorem w_887 : Cond.selects R_Sheet y_Sheet_hasPlace y_Sheet_hasPlace ∈ TB := tb_in 887 (by decide +kernel) (by decide +kernel)
theorem w_67 : Cond.initialized R_Sheet ∈ TB := tb_in 67 (by decide +kernel) (by decide +kernel)
theorem w_189 : Cond.fieldLink R_Sheet 9 R_Sheet "numbers" "[I" ∈ TB := tb_in 189 (by decide +kernel) (by decide +kernel)
theorem w_884 : Cond.code y_Sheet_at b_Sheet_at 2 (some .int) ∈ TB := tb_in 884 (by decide +kernel) (by decide +kernel)
theorem d_Sheet_at_0 : decode b_Sheet_at 0 = .ok (.aload_n 0, 1) := by decide +kernel
theorem d_Sheet_at_1 : decode b_Sheet_at 1 = .ok (.iload_n 1, 1) := by decide +kernel
theorem d_Sheet_at_2 : decode b_Sheet_at 2 = .ok (.invokevirtual 30, 3) := by decide +kernel
theorem d_Sheet_at_5 : decode b_Sheet_at 5 = .ok (.ifCond .eq 21, 3) := by decide +kernel
theorem d_Sheet_at_8 : decode b_Sheet_at 8 = .ok (.iload_n 1, 1) := by decide +kernel
theorem d_Sheet_at_9 : decode b_Sheet_at 9 = .ok (.aload_n 0, 1) := by decide +kernel
theorem d_Sheet_at_10 : decode b_Sheet_at 10 = .ok (.getfield 9, 3) := by decide +kernel
theorem d_Sheet_at_13 : decode b_Sheet_at 13 = .ok (.arraylength, 1) := by decide +kernel
theorem d_Sheet_at_14 : decode b_Sheet_at 14 = .ok (.if_icmp .ge 12, 3) := by decide +kernel
theorem d_Sheet_at_17 : decode b_Sheet_at 17 = .ok (.aload_n 0, 1) := by decide +kernel
theorem d_Sheet_at_18 : decode b_Sheet_at 18 = .ok (.getfield 9, 3) := by decide +kernel
theorem d_Sheet_at_21 : decode b_Sheet_at 21 = .ok (.iload_n 1, 1) := by decide +kernel
theorem d_Sheet_at_22 : decode b_Sheet_at 22 = .ok (.iaload, 1) := by decide +kernel
theorem d_Sheet_at_23 : decode b_Sheet_at 23 = .ok (.goto 4, 3) := by decide +kernel
theorem d_Sheet_at_26 : decode b_Sheet_at 26 = .ok (.iconst 0, 1) := by decide +kernel
theorem d_Sheet_at_27 : decode b_Sheet_at 27 = .ok (.ireturn, 1) := by decide +kernel
section S_Sheet_at
variable {p : Program} {l : Launch} {e : Env} {s : State} {m : MethodId} {args : Array Value} {below : List Frame} {meth : Method} {c : Code} {D : va_G} {cA : Nat → ClassId} {ad : Nat → Nat} {nC : Nat} {A : Nat → Prop} {r : Int32} {τ : St}
noncomputable def F_Sheet_at_0 (s0 : St) (v0 : Nat) (v1 : Int32) : Option Int32 := (ob1 (F_Sheet_hasPlace s0 v0 v1) (fun r_1 => (if r_1 = 0 then (some (0 : Int32)) else (if (40 : Int32) ≤ v1 then (some (0 : Int32)) else (if inB v1 40 = true then (some (s0.1 (v0 + 4) v1.toNatClampNeg)) else none)))))
set_option maxHeartbeats 4000000 in
set_option maxRecDepth 100000 in
theorem q_Sheet_at_0 (hn : 41 ≤ nC) (s0 : St) (K : Fx p s m args meth c b_Sheet_at 2 R_Sheet (some .int))  : ∀ (H : Heap) (locs : List Loc) (ls : Array Slot) (v0 : Nat) (v1 : Int32) (g_v0 : P_Sheet v0), Wh D cA ad (shC.take nC) A s s0 H locs → lv_has ls 2 [(0, .ref (ad v0)), (1, .int v1)] → F_Sheet_at_0 s0 v0 v1 = (some r) → W p l e rm_Sheet_at s m args below meth c H locs 0 0 (MQ below (QcI D cA ad (shC.take nC) A r s0) args s 0 0 A) (F0 m 0 ls []) := by
  have hx := K.1.1; have hb := K.1.2.1
  intro H locs ls v0 v1 g_v0 hw hl hF
  unfold F_Sheet_at_0 at hF
  refine lv_aload_n hx hb d_Sheet_at_0 rfl (lv_at hl 0 rfl) ?_
  refine lv_iload_n hx hb d_Sheet_at_1 rfl (lv_at hl 1 rfl) ?_
  obtain ⟨r_1, h_r_1, hF⟩ := ob1E hF
  refine r_callVI (As := [.int v1]) (rest := []) K hw hl.1 (c_Sheet_hasPlace (l := l) (D := D) (cA := cA) (ad := ad) (s0 := s0) (Nat.le_trans (Nat.le_of_ble_eq_true rfl) hn) g_v0 h_r_1) (sh_Sheet g_v0 (Nat.le_trans (Nat.le_of_ble_eq_true rfl) hn)) rfl (tb_gV w_885 w_886 w_887 w_67 w_888) a_Sheet_hasPlace ⟨rfl, rfl, Nat.le_of_ble_eq_true rfl, Nat.le_of_ble_eq_true rfl⟩ rfl rfl (Nat.le_of_ble_eq_true rfl) d_Sheet_at_2 (fun H locs hw => ?_)
  refine lv_if_eq (tgt := 26) hx hb d_Sheet_at_5 (by decide) (fun c_2 => ?_) (fun c_2 => ?_)
  · replace hF := ifT hF c_2
    refine lv_iconst (v := 0) hx hb d_Sheet_at_26 (by decide) ?_
    replace hF := sE1 hF
    subst hF
    exact r_iret K hw d_Sheet_at_27
  · replace hF := ifF hF c_2
    refine lv_iload_n hx hb d_Sheet_at_8 rfl (lv_at hl 1 rfl) ?_
    refine lv_aload_n hx hb d_Sheet_at_9 rfl (lv_at hl 0 rfl) ?_
    refine r_get (v := .ref (ad (v0 + 4))) K hw i_Sheet (sh_Sheet g_v0 (Nat.le_trans (Nat.le_of_ble_eq_true rfl) hn)) rfl 0 (by decide) w_189 rfl rfl rfl d_Sheet_at_10 ?_
    refine r_alen (v := 40) K hw (sh_numbersOf g_v0 (Nat.le_trans (Nat.le_of_ble_eq_true rfl) hn)) (by decide) d_Sheet_at_13 ?_
    refine lv_icmp_ge (tgt := 26) hx hb d_Sheet_at_14 (by decide) (fun c_3 => ?_) (fun c_3 => ?_)
    · replace hF := ifT hF c_3
      refine lv_iconst (v := 0) hx hb d_Sheet_at_26 (by decide) ?_
      replace hF := sE1 hF
      subst hF
      exact r_iret K hw d_Sheet_at_27
    · replace hF := ifF hF c_3
      refine lv_aload_n hx hb d_Sheet_at_17 rfl (lv_at hl 0 rfl) ?_
      refine r_get (v := .ref (ad (v0 + 4))) K hw i_Sheet (sh_Sheet g_v0 (Nat.le_trans (Nat.le_of_ble_eq_true rfl) hn)) rfl 0 (by decide) w_189 rfl rfl rfl d_Sheet_at_18 ?_
      refine lv_iload_n hx hb d_Sheet_at_21 rfl (lv_at hl 1 rfl) ?_
      obtain ⟨g_4, hF⟩ := ifG hF
      refine r_iald (k := v1.toNatClampNeg) K hw (sh_numbersOf g_v0 (Nat.le_trans (Nat.le_of_ble_eq_true rfl) hn)) rfl (inB_vp g_4) d_Sheet_at_22 ?_
      refine lv_goto (tgt := 27) hx hb d_Sheet_at_23 (by decide) ?_
      replace hF := sE1 hF
      subst hF
      exact r_iret K hw d_Sheet_at_27
end S_Sheet_at
noncomputable abbrev F_Sheet_at := F_Sheet_at_0
theorem c_Sheet_at {l : Launch} {D : va_G} {cA : Nat → ClassId} {ad : Nat → Nat} {s0 : St} {nC : Nat} (hn : 41 ≤ nC) {r : Int32} {v0 : Nat} {v1 : Int32} (g_v0 : P_Sheet v0) (hF : F_Sheet_at s0 v0 v1 = (some r)) : MI l D cA ad (shC.take nC) y_Sheet_at (wT y_Sheet_at b_Sheet_at 2 (some .int)) rm_Sheet_at [.ref (ad v0), .int v1] s0 r s0 := fun sz => m_start (Qc := fun A => QcI D cA ad (shC.take nC) A r s0) (by decide +kernel) w_884 (Nat.le_of_ble_eq_true rfl) (fun p e s m below meth c ls K hl hw => q_Sheet_at_0 hn s0 K _ _ _ _ _ g_v0 hw hl hF)
