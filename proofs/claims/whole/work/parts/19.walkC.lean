/-! Main.laws(III)I -/
abbrev b_Main_laws : ByteArray := prog_1_method_24_code
def y_Main_laws : MethodName := ⟨R_Main, "laws", "(III)I"⟩
theorem a_Main_laws : y_Main_laws.cls = R_Main ∧ y_Main_laws.cls ≠ "java/lang/invoke/MethodHandle" ∧ y_Main_laws.cls ≠ "java/lang/invoke/VarHandle" ∧ (parseMethodDescriptor y_Main_laws.desc).map (fun d => d.parameters.length) = some 3 := by decide +kernel
abbrev rm_Main_laws : Room := { frames := 6, cells := 0, slots := 0, locals := 138 }
theorem w_537 : Cond.fieldLink R_Main 252 R_Bout "law" "LArmAgainstArm$Text;" ∈ TB := tb_in 537 (by decide +kernel) (by decide +kernel)
theorem w_901 : Cond.code y_Main_laws b_Main_laws 7 (some .int) ∈ TB := tb_in 901 (by decide +kernel) (by decide +kernel)
theorem d_Main_laws_0 : decode b_Main_laws 0 = .ok (.aload_n 0, 1) := by decide +kernel
theorem d_Main_laws_1 : decode b_Main_laws 1 = .ok (.iload_n 1, 1) := by decide +kernel
theorem d_Main_laws_2 : decode b_Main_laws 2 = .ok (.invokevirtual 245, 3) := by decide +kernel
theorem d_Main_laws_5 : decode b_Main_laws 5 = .ok (.istore 4, 2) := by decide +kernel
theorem d_Main_laws_7 : decode b_Main_laws 7 = .ok (.iload 4, 2) := by decide +kernel
theorem d_Main_laws_9 : decode b_Main_laws 9 = .ok (.ifCond .eq 6, 3) := by decide +kernel
theorem d_Main_laws_12 : decode b_Main_laws 12 = .ok (.iload 4, 2) := by decide +kernel
theorem d_Main_laws_14 : decode b_Main_laws 14 = .ok (.ireturn, 1) := by decide +kernel
theorem d_Main_laws_15 : decode b_Main_laws 15 = .ok (.aload_n 0, 1) := by decide +kernel
theorem d_Main_laws_16 : decode b_Main_laws 16 = .ok (.iload_n 2, 1) := by decide +kernel
theorem d_Main_laws_17 : decode b_Main_laws 17 = .ok (.iload_n 3, 1) := by decide +kernel
theorem d_Main_laws_18 : decode b_Main_laws 18 = .ok (.invokevirtual 194, 3) := by decide +kernel
theorem d_Main_laws_21 : decode b_Main_laws 21 = .ok (.ifCond .ne 6, 3) := by decide +kernel
theorem d_Main_laws_24 : decode b_Main_laws 24 = .ok (.bipush (-5), 2) := by decide +kernel
theorem d_Main_laws_26 : decode b_Main_laws 26 = .ok (.ireturn, 1) := by decide +kernel
theorem d_Main_laws_27 : decode b_Main_laws 27 = .ok (.iconst 0, 1) := by decide +kernel
theorem d_Main_laws_28 : decode b_Main_laws 28 = .ok (.istore 5, 2) := by decide +kernel
theorem d_Main_laws_30 : decode b_Main_laws 30 = .ok (.iconst 0, 1) := by decide +kernel
theorem d_Main_laws_31 : decode b_Main_laws 31 = .ok (.istore 6, 2) := by decide +kernel
theorem d_Main_laws_33 : decode b_Main_laws 33 = .ok (.iload 6, 2) := by decide +kernel
theorem d_Main_laws_35 : decode b_Main_laws 35 = .ok (.aload_n 0, 1) := by decide +kernel
theorem d_Main_laws_36 : decode b_Main_laws 36 = .ok (.getfield 77, 3) := by decide +kernel
theorem d_Main_laws_39 : decode b_Main_laws 39 = .ok (.if_icmp .ge 52, 3) := by decide +kernel
theorem d_Main_laws_42 : decode b_Main_laws 42 = .ok (.aload_n 0, 1) := by decide +kernel
theorem d_Main_laws_43 : decode b_Main_laws 43 = .ok (.iload_n 2, 1) := by decide +kernel
theorem d_Main_laws_44 : decode b_Main_laws 44 = .ok (.iload_n 3, 1) := by decide +kernel
theorem d_Main_laws_45 : decode b_Main_laws 45 = .ok (.invokevirtual 174, 3) := by decide +kernel
theorem d_Main_laws_48 : decode b_Main_laws 48 = .ok (.aload_n 0, 1) := by decide +kernel
theorem d_Main_laws_49 : decode b_Main_laws 49 = .ok (.getfield 86, 3) := by decide +kernel
theorem d_Main_laws_52 : decode b_Main_laws 52 = .ok (.aload_n 0, 1) := by decide +kernel
theorem d_Main_laws_53 : decode b_Main_laws 53 = .ok (.getfield 17, 3) := by decide +kernel
theorem d_Main_laws_56 : decode b_Main_laws 56 = .ok (.iload 6, 2) := by decide +kernel
theorem d_Main_laws_58 : decode b_Main_laws 58 = .ok (.aaload, 1) := by decide +kernel
theorem d_Main_laws_59 : decode b_Main_laws 59 = .ok (.putfield 252, 3) := by decide +kernel
theorem d_Main_laws_62 : decode b_Main_laws 62 = .ok (.aload_n 0, 1) := by decide +kernel
theorem d_Main_laws_63 : decode b_Main_laws 63 = .ok (.aload_n 0, 1) := by decide +kernel
theorem d_Main_laws_64 : decode b_Main_laws 64 = .ok (.getfield 30, 3) := by decide +kernel
theorem d_Main_laws_67 : decode b_Main_laws 67 = .ok (.iload_n 1, 1) := by decide +kernel
theorem d_Main_laws_68 : decode b_Main_laws 68 = .ok (.aaload, 1) := by decide +kernel
theorem d_Main_laws_69 : decode b_Main_laws 69 = .ok (.invokevirtual 248, 3) := by decide +kernel
theorem d_Main_laws_72 : decode b_Main_laws 72 = .ok (.iconst (-1), 1) := by decide +kernel
theorem d_Main_laws_73 : decode b_Main_laws 73 = .ok (.if_icmp .ne 12, 3) := by decide +kernel
theorem d_Main_laws_76 : decode b_Main_laws 76 = .ok (.iload 5, 2) := by decide +kernel
theorem d_Main_laws_78 : decode b_Main_laws 78 = .ok (.iconst 1, 1) := by decide +kernel
theorem d_Main_laws_79 : decode b_Main_laws 79 = .ok (.iload 6, 2) := by decide +kernel
theorem d_Main_laws_81 : decode b_Main_laws 81 = .ok (.ishl, 1) := by decide +kernel
theorem d_Main_laws_82 : decode b_Main_laws 82 = .ok (.ior, 1) := by decide +kernel
theorem d_Main_laws_83 : decode b_Main_laws 83 = .ok (.istore 5, 2) := by decide +kernel
theorem d_Main_laws_85 : decode b_Main_laws 85 = .ok (.iinc 6 1, 3) := by decide +kernel
theorem d_Main_laws_88 : decode b_Main_laws 88 = .ok (.goto (-55), 3) := by decide +kernel
theorem d_Main_laws_91 : decode b_Main_laws 91 = .ok (.iload 5, 2) := by decide +kernel
theorem d_Main_laws_93 : decode b_Main_laws 93 = .ok (.ireturn, 1) := by decide +kernel
section S_Main_laws
variable {p : Program} {l : Launch} {e : Env} {s : State} {m : MethodId} {args : Array Value} {below : List Frame} {meth : Method} {c : Code} {D : va_G} {cA : Nat → ClassId} {ad : Nat → Nat} {A : Nat → Prop} {r : Int32} {τ : St}
def F_Main_laws_85 (k19 : (St → Int32 → Int32 → Int32 → Int32 → Int32 → Option (Int32 × St))) (s0 : St) (v1 : Int32) (v2 : Int32) (v3 : Int32) (v5 : Int32) (v6 : Int32) : Option (Int32 × St) := (k19 s0 v1 v2 v3 v5 (v6 + 1))
set_option maxHeartbeats 4000000 in
set_option maxRecDepth 100000 in
theorem q_Main_laws_85 (K : Fx p s m args meth c b_Main_laws 7 R_Main (some .int)) (k19 : (St → Int32 → Int32 → Int32 → Int32 → Int32 → Option (Int32 × St))) (hk19 : ∀ (H : Heap) (locs : List Loc) (ls : Array Slot) (s0 : St) (v1 : Int32) (v2 : Int32) (v3 : Int32) (v5 : Int32) (v6 : Int32), Wh D cA ad shC A s s0 H locs → lv_has ls 7 [(0, .ref (ad 0)), (1, .int v1), (2, .int v2), (3, .int v3), (5, .int v5), (6, .int v6)] → k19 s0 v1 v2 v3 v5 v6 = (some (r, τ)) → W p l e rm_Main_laws s m args below meth c H locs 0 0 (MQ below (QcI D cA ad shC A r τ) args s 0 0 A) (F0 m 33 ls [])) : ∀ (H : Heap) (locs : List Loc) (ls : Array Slot) (s0 : St) (v1 : Int32) (v2 : Int32) (v3 : Int32) (v5 : Int32) (v6 : Int32), Wh D cA ad shC A s s0 H locs → lv_has ls 7 [(0, .ref (ad 0)), (1, .int v1), (2, .int v2), (3, .int v3), (5, .int v5), (6, .int v6)] → F_Main_laws_85 k19 s0 v1 v2 v3 v5 v6 = (some (r, τ)) → W p l e rm_Main_laws s m args below meth c H locs 0 0 (MQ below (QcI D cA ad shC A r τ) args s 0 0 A) (F0 m 85 ls []) := by
  have hx := K.1.1; have hb := K.1.2.1
  intro H locs ls s0 v1 v2 v3 v5 v6 hw hl hF
  unfold F_Main_laws_85 at hF
  refine lv_iinc (v := (v6 + 1)) (lv' := [(6, .int (v6 + 1)), (0, .ref (ad 0)), (1, .int v1), (2, .int v2), (3, .int v3), (5, .int v5)]) hx hb d_Main_laws_85 hl (k := 5) rfl rfl (by decide) rfl (fun ls hl => ?_)
  refine lv_goto (tgt := 33) hx hb d_Main_laws_88 (by decide) ?_
  exact hk19 _ _ _ _ _ _ _ _ _  hw (lv_sub hl [1, 2, 3, 4, 5, 0] rfl) hF
def F_Main_laws_33 : Nat → St → Int32 → Int32 → Int32 → Int32 → Int32 → Option (Int32 × St)
  | 0, _, _, _, _, _, _ => none
  | n + 1, s0, v1, v2, v3, v5, v6 => (if (s0.1 0 3) ≤ v6 then (some (v5, s0)) else (ob1 (F_Main_opn s0 v2 v3) (fun s_6 => (if inB v6 6 = true then (lt (up2 s_6 11 2 (30 + v6.toNatClampNeg)) (fun s_8 => (if inB v1 4 = true then (ob2 (F_Main_firstOtherwise s_8 (42 + v1.toNatClampNeg)) (fun r_10 s_11 => (if ¬ r_10 = (-1 : Int32) then (F_Main_laws_85 (fun z0 zv1 zv2 zv3 zv5 zv6 => F_Main_laws_33 n z0 zv1 zv2 zv3 zv5 zv6) s_11 v1 v2 v3 v5 v6) else (F_Main_laws_85 (fun z0 zv1 zv2 zv3 zv5 zv6 => F_Main_laws_33 n z0 zv1 zv2 zv3 zv5 zv6) s_11 v1 v2 v3 (v5 ||| (jshl (1 : Int32) v6)) v6)))) else none))) else none))))
set_option maxHeartbeats 4000000 in
set_option maxRecDepth 100000 in
theorem q_Main_laws_33 (K : Fx p s m args meth c b_Main_laws 7 R_Main (some .int))  : ∀ (n : Nat), ∀ (H : Heap) (locs : List Loc) (ls : Array Slot) (s0 : St) (v1 : Int32) (v2 : Int32) (v3 : Int32) (v5 : Int32) (v6 : Int32), Wh D cA ad shC A s s0 H locs → lv_has ls 7 [(0, .ref (ad 0)), (1, .int v1), (2, .int v2), (3, .int v3), (5, .int v5), (6, .int v6)] → F_Main_laws_33 n s0 v1 v2 v3 v5 v6 = (some (r, τ)) → W p l e rm_Main_laws s m args below meth c H locs 0 0 (MQ below (QcI D cA ad shC A r τ) args s 0 0 A) (F0 m 33 ls []) := by
  have hx := K.1.1; have hb := K.1.2.1
  intro n
  induction n with
  | zero =>
    intro H locs ls s0 v1 v2 v3 v5 v6 hw hl hF
    exact absurd hF (by rw [F_Main_laws_33]; exact nofun)
  | succ n ih =>
    intro H locs ls s0 v1 v2 v3 v5 v6 hw hl hF
    rw [F_Main_laws_33] at hF
    refine lv_iload hx hb d_Main_laws_33 (lv_at hl 5 rfl) ?_
    refine lv_aload_n hx hb d_Main_laws_35 rfl (lv_at hl 0 rfl) ?_
    refine r_get (v := .int (s0.1 0 3)) K hw i_Main sh_Main rfl 3 (by decide) w_601 rfl rfl rfl d_Main_laws_36 ?_
    refine lv_icmp_ge (tgt := 91) hx hb d_Main_laws_39 (by decide) (fun c_5 => ?_) (fun c_5 => ?_)
    · replace hF := ifT hF c_5
      refine lv_iload hx hb d_Main_laws_91 (lv_at hl 4 rfl) ?_
      obtain ⟨hF, hG⟩ := sE2 hF
      subst hF
      subst hG
      exact r_iret K hw d_Main_laws_93
    · replace hF := ifF hF c_5
      refine lv_aload_n hx hb d_Main_laws_42 rfl (lv_at hl 0 rfl) ?_
      refine lv_iload_n hx hb d_Main_laws_43 rfl (lv_at hl 2 rfl) ?_
      refine lv_iload_n hx hb d_Main_laws_44 rfl (lv_at hl 3 rfl) ?_
      obtain ⟨s_6, h_s_6, hF⟩ := ob1E hF
      refine r_callVV (As := [.int v2, .int v3]) (rest := []) K hw hl.1 (c_Main_opn (l := l) (D := D) (cA := cA) (ad := ad) (s0 := s0)  h_s_6) sh_Main rfl (tb_gV w_728 w_730 w_18 w_63 w_731) a_Main_opn ⟨rfl, rfl, Nat.le_of_ble_eq_true rfl, Nat.le_of_ble_eq_true rfl⟩ rfl rfl (Nat.le_of_ble_eq_true rfl) d_Main_laws_45 (fun H locs hw => ?_)
      refine lv_aload_n hx hb d_Main_laws_48 rfl (lv_at hl 0 rfl) ?_
      refine r_get (v := .ref (ad 11)) K hw i_Main sh_Main rfl 7 (by decide) w_605 rfl rfl rfl d_Main_laws_49 ?_
      refine lv_aload_n hx hb d_Main_laws_52 rfl (lv_at hl 0 rfl) ?_
      refine r_get (v := .ref (ad 2)) K hw i_Main sh_Main rfl 2 (by decide) w_600 rfl rfl rfl d_Main_laws_53 ?_
      refine lv_iload hx hb d_Main_laws_56 (lv_at hl 5 rfl) ?_
      obtain ⟨g_7, hF⟩ := ifG hF
      refine r_aald (k := v6.toNatClampNeg) K hw (show shC[2]? = some (.inr (.inr (2, 30, 6))) from rfl) (rfl : (TYS cA)[2]? = some (cA 2, _)) rfl (inB_vp g_7) d_Main_laws_58 ?_
      refine r_putR K hw i_Bout t_Bout t_Bout_ok n_Bout sh_Bout rfl 2 (by decide) w_537 rfl rfl rfl rfl rfl d_Main_laws_59 (fun s_8 f_s_8 H locs hw => ?_)
      replace hF := ltN hF f_s_8
      refine lv_aload_n hx hb d_Main_laws_62 rfl (lv_at hl 0 rfl) ?_
      refine lv_aload_n hx hb d_Main_laws_63 rfl (lv_at hl 0 rfl) ?_
      refine r_get (v := .ref (ad 3)) K hw i_Main sh_Main rfl 9 (by decide) w_607 rfl rfl rfl d_Main_laws_64 ?_
      refine lv_iload_n hx hb d_Main_laws_67 rfl (lv_at hl 1 rfl) ?_
      obtain ⟨g_9, hF⟩ := ifG hF
      refine r_aald (k := v1.toNatClampNeg) K hw (show shC[3]? = some (.inr (.inr (3, 42, 4))) from rfl) (rfl : (TYS cA)[3]? = some (cA 3, _)) rfl (inB_vp g_9) d_Main_laws_68 ?_
      obtain ⟨r_10, s_11, h_s_11, hF⟩ := ob2E hF
      refine r_callVI (As := [.ref (ad (42 + v1.toNatClampNeg))]) (rest := []) K hw hl.1 (c_Main_firstOtherwise (l := l) (D := D) (cA := cA) (ad := ad) (s0 := s_8) (P_Sheet_of g_9) h_s_11) sh_Main rfl (tb_gV w_877 w_879 w_28 w_63 w_880) a_Main_firstOtherwise ⟨rfl, rfl, Nat.le_of_ble_eq_true rfl, Nat.le_of_ble_eq_true rfl⟩ rfl rfl (Nat.le_of_ble_eq_true rfl) d_Main_laws_69 (fun H locs hw => ?_)
      refine lv_iconst (v := -1) hx hb d_Main_laws_72 (by decide) ?_
      refine lv_icmp_ne (tgt := 85) hx hb d_Main_laws_73 (by decide) (fun c_12 => ?_) (fun c_12 => ?_)
      · replace hF := ifT hF c_12
        exact q_Main_laws_85 K (fun z0 zv1 zv2 zv3 zv5 zv6 => F_Main_laws_33 n z0 zv1 zv2 zv3 zv5 zv6) ih _ _ _ _ _ _ _ _ _  hw (lv_sub hl [0, 1, 2, 3, 4, 5] rfl) hF
      · replace hF := ifN hF c_12
        refine lv_iload hx hb d_Main_laws_76 (lv_at hl 4 rfl) ?_
        refine lv_iconst (v := 1) hx hb d_Main_laws_78 (by decide) ?_
        refine lv_iload hx hb d_Main_laws_79 (lv_at hl 5 rfl) ?_
        refine lv_ishl hx hb d_Main_laws_81 ?_
        refine lv_ior hx hb d_Main_laws_82 ?_
        refine lv_istore (lv' := [(5, .int (v5 ||| (jshl (1 : Int32) v6))), (0, .ref (ad 0)), (1, .int v1), (2, .int v2), (3, .int v3), (6, .int v6)]) hx hb d_Main_laws_83 hl (by decide) rfl (fun ls hl => ?_)
        exact q_Main_laws_85 K (fun z0 zv1 zv2 zv3 zv5 zv6 => F_Main_laws_33 n z0 zv1 zv2 zv3 zv5 zv6) ih _ _ _ _ _ _ _ _ _  hw (lv_sub hl [1, 2, 3, 4, 0, 5] rfl) hF
def F_Main_laws_0 (s0 : St) (v1 : Int32) (v2 : Int32) (v3 : Int32) : Option (Int32 × St) := (ob1 (F_Main_refusalOfTold s0 v1) (fun r_1 => (if r_1 = 0 then (ob1 (F_Main_areTwo s0 v2 v3) (fun r_3 => (if ¬ r_3 = 0 then (F_Main_laws_33 FU s0 v1 v2 v3 (0 : Int32) (0 : Int32)) else (some ((-5 : Int32), s0))))) else (some (r_1, s0)))))
set_option maxHeartbeats 4000000 in
set_option maxRecDepth 100000 in
theorem q_Main_laws_0 (K : Fx p s m args meth c b_Main_laws 7 R_Main (some .int))  : ∀ (H : Heap) (locs : List Loc) (ls : Array Slot) (s0 : St) (v1 : Int32) (v2 : Int32) (v3 : Int32), Wh D cA ad shC A s s0 H locs → lv_has ls 7 [(0, .ref (ad 0)), (1, .int v1), (2, .int v2), (3, .int v3)] → F_Main_laws_0 s0 v1 v2 v3 = (some (r, τ)) → W p l e rm_Main_laws s m args below meth c H locs 0 0 (MQ below (QcI D cA ad shC A r τ) args s 0 0 A) (F0 m 0 ls []) := by
  have hx := K.1.1; have hb := K.1.2.1
  intro H locs ls s0 v1 v2 v3 hw hl hF
  unfold F_Main_laws_0 at hF
  refine lv_aload_n hx hb d_Main_laws_0 rfl (lv_at hl 0 rfl) ?_
  refine lv_iload_n hx hb d_Main_laws_1 rfl (lv_at hl 1 rfl) ?_
  obtain ⟨r_1, h_r_1, hF⟩ := ob1E hF
  refine r_callVI (As := [.int v1]) (rest := []) K hw hl.1 (c_Main_refusalOfTold (l := l) (D := D) (cA := cA) (ad := ad) (s0 := s0)  h_r_1) sh_Main rfl (tb_gV w_870 w_872 w_27 w_63 w_873) a_Main_refusalOfTold ⟨rfl, rfl, Nat.le_of_ble_eq_true rfl, Nat.le_of_ble_eq_true rfl⟩ rfl rfl (Nat.le_of_ble_eq_true rfl) d_Main_laws_2 (fun H locs hw => ?_)
  refine lv_istore (lv' := [(4, .int r_1), (0, .ref (ad 0)), (1, .int v1), (2, .int v2), (3, .int v3)]) hx hb d_Main_laws_5 hl (by decide) rfl (fun ls hl => ?_)
  refine lv_iload hx hb d_Main_laws_7 (lv_at hl 0 rfl) ?_
  refine lv_if_eq (tgt := 15) hx hb d_Main_laws_9 (by decide) (fun c_2 => ?_) (fun c_2 => ?_)
  · replace hF := ifT hF c_2
    refine lv_aload_n hx hb d_Main_laws_15 rfl (lv_at hl 1 rfl) ?_
    refine lv_iload_n hx hb d_Main_laws_16 rfl (lv_at hl 3 rfl) ?_
    refine lv_iload_n hx hb d_Main_laws_17 rfl (lv_at hl 4 rfl) ?_
    obtain ⟨r_3, h_r_3, hF⟩ := ob1E hF
    refine r_callVI (As := [.int v2, .int v3]) (rest := []) K hw hl.1 (c_Main_areTwo (l := l) (D := D) (cA := cA) (ad := ad) (s0 := s0)  h_r_3) sh_Main rfl (tb_gV w_724 w_726 w_17 w_63 w_727) a_Main_areTwo ⟨rfl, rfl, Nat.le_of_ble_eq_true rfl, Nat.le_of_ble_eq_true rfl⟩ rfl rfl (Nat.le_of_ble_eq_true rfl) d_Main_laws_18 (fun H locs hw => ?_)
    refine lv_if_ne (tgt := 27) hx hb d_Main_laws_21 (by decide) (fun c_4 => ?_) (fun c_4 => ?_)
    · replace hF := ifT hF c_4
      refine lv_iconst (v := 0) hx hb d_Main_laws_27 (by decide) ?_
      refine lv_istore (lv' := [(5, .int (0 : Int32)), (4, .int r_1), (0, .ref (ad 0)), (1, .int v1), (2, .int v2), (3, .int v3)]) hx hb d_Main_laws_28 hl (by decide) rfl (fun ls hl => ?_)
      refine lv_iconst (v := 0) hx hb d_Main_laws_30 (by decide) ?_
      refine lv_istore (lv' := [(6, .int (0 : Int32)), (5, .int (0 : Int32)), (4, .int r_1), (0, .ref (ad 0)), (1, .int v1), (2, .int v2), (3, .int v3)]) hx hb d_Main_laws_31 hl (by decide) rfl (fun ls hl => ?_)
      exact q_Main_laws_33 K FU _ _ _ _ _ _ _ _ _  hw (lv_sub hl [3, 4, 5, 6, 1, 0] rfl) hF
    · replace hF := ifN hF c_4
      refine lv_bipush (v := -5) hx hb d_Main_laws_24 (by decide) ?_
      obtain ⟨hF, hG⟩ := sE2 hF
      subst hF
      subst hG
      exact r_iret K hw d_Main_laws_26
  · replace hF := ifF hF c_2
    refine lv_iload hx hb d_Main_laws_12 (lv_at hl 0 rfl) ?_
    obtain ⟨hF, hG⟩ := sE2 hF
    subst hF
    subst hG
    exact r_iret K hw d_Main_laws_14
end S_Main_laws
abbrev F_Main_laws := F_Main_laws_0
theorem c_Main_laws {l : Launch} {D : va_G} {cA : Nat → ClassId} {ad : Nat → Nat} {s0 τ : St} {r : Int32} {v1 : Int32} {v2 : Int32} {v3 : Int32}  (hF : F_Main_laws s0 v1 v2 v3 = (some (r, τ))) : MI l D cA ad shC y_Main_laws (wT y_Main_laws b_Main_laws 7 (some .int)) rm_Main_laws [.ref (ad 0), .int v1, .int v2, .int v3] s0 r τ := fun sz => m_start (Qc := fun A => QcI D cA ad shC A r τ) (by decide +kernel) w_901 (Nat.le_of_ble_eq_true rfl) (fun p e s m below meth c ls K hl hw => q_Main_laws_0 K _ _ _ _ _ _ _  hw hl hF)

/-! Sheet.become(II)V -/
abbrev b_Sheet_become : ByteArray := prog_7_method_2_code
def y_Sheet_become : MethodName := ⟨R_Sheet, "become", "(II)V"⟩
theorem a_Sheet_become : y_Sheet_become.cls = R_Sheet ∧ y_Sheet_become.cls ≠ "java/lang/invoke/MethodHandle" ∧ y_Sheet_become.cls ≠ "java/lang/invoke/VarHandle" ∧ (parseMethodDescriptor y_Sheet_become.desc).map (fun d => d.parameters.length) = some 2 := by decide +kernel
abbrev rm_Sheet_become : Room := { frames := 1, cells := 0, slots := 0, locals := 22 }
theorem w_191 : Cond.fieldLink R_Sheet 15 R_Sheet "sort" "I" ∈ TB := tb_in 191 (by decide +kernel) (by decide +kernel)
theorem w_909 : Cond.code y_Sheet_become b_Sheet_become 4 none ∈ TB := tb_in 909 (by decide +kernel) (by decide +kernel)
theorem nw_910 : Cond.methodLinkNest R_Sheet 19 y_Main_bounded R_Main ∈ NWS := List.mem_of_getElem? (i := 12) (by decide +kernel)
theorem d_Sheet_become_0 : decode b_Sheet_become 0 = .ok (.aload_n 0, 1) := by decide +kernel
theorem d_Sheet_become_1 : decode b_Sheet_become 1 = .ok (.iload_n 1, 1) := by decide +kernel
theorem d_Sheet_become_2 : decode b_Sheet_become 2 = .ok (.putfield 15, 3) := by decide +kernel
theorem d_Sheet_become_5 : decode b_Sheet_become 5 = .ok (.aload_n 0, 1) := by decide +kernel
theorem d_Sheet_become_6 : decode b_Sheet_become 6 = .ok (.iload_n 2, 1) := by decide +kernel
theorem d_Sheet_become_7 : decode b_Sheet_become 7 = .ok (.iconst 0, 1) := by decide +kernel
theorem d_Sheet_become_8 : decode b_Sheet_become 8 = .ok (.bipush 40, 2) := by decide +kernel
theorem d_Sheet_become_10 : decode b_Sheet_become 10 = .ok (.invokestatic 19, 3) := by decide +kernel
theorem d_Sheet_become_13 : decode b_Sheet_become 13 = .ok (.putfield 23, 3) := by decide +kernel
theorem d_Sheet_become_16 : decode b_Sheet_become 16 = .ok (.iconst 0, 1) := by decide +kernel
theorem d_Sheet_become_17 : decode b_Sheet_become 17 = .ok (.istore_n 3, 1) := by decide +kernel
theorem d_Sheet_become_18 : decode b_Sheet_become 18 = .ok (.iload_n 3, 1) := by decide +kernel
theorem d_Sheet_become_19 : decode b_Sheet_become 19 = .ok (.bipush 40, 2) := by decide +kernel
theorem d_Sheet_become_21 : decode b_Sheet_become 21 = .ok (.if_icmp .ge 16, 3) := by decide +kernel
theorem d_Sheet_become_24 : decode b_Sheet_become 24 = .ok (.aload_n 0, 1) := by decide +kernel
theorem d_Sheet_become_25 : decode b_Sheet_become 25 = .ok (.getfield 9, 3) := by decide +kernel
theorem d_Sheet_become_28 : decode b_Sheet_become 28 = .ok (.iload_n 3, 1) := by decide +kernel
theorem d_Sheet_become_29 : decode b_Sheet_become 29 = .ok (.iconst 0, 1) := by decide +kernel
theorem d_Sheet_become_30 : decode b_Sheet_become 30 = .ok (.iastore, 1) := by decide +kernel
theorem d_Sheet_become_31 : decode b_Sheet_become 31 = .ok (.iinc 3 1, 3) := by decide +kernel
theorem d_Sheet_become_34 : decode b_Sheet_become 34 = .ok (.goto (-16), 3) := by decide +kernel
theorem d_Sheet_become_37 : decode b_Sheet_become 37 = .ok (.return_, 1) := by decide +kernel
section S_Sheet_become
variable {p : Program} {l : Launch} {e : Env} {s : State} {m : MethodId} {args : Array Value} {below : List Frame} {meth : Method} {c : Code} {D : va_G} {cA : Nat → ClassId} {ad : Nat → Nat} {A : Nat → Prop} {τ : St}
def F_Sheet_become_18 : Nat → St → Nat → Int32 → Option St
  | 0, _, _, _ => none
  | n + 1, s0, v0, v3 => (if (40 : Int32) ≤ v3 then (some s0) else (if inB v3 40 = true then (lt (up1 s0 (v0 + 4) v3.toNatClampNeg (0 : Int32)) (fun s_5 => (F_Sheet_become_18 n s_5 v0 (v3 + 1)))) else none))
set_option maxHeartbeats 4000000 in
set_option maxRecDepth 100000 in
theorem q_Sheet_become_18 (K : Fx p s m args meth c b_Sheet_become 4 R_Sheet none)  : ∀ (n : Nat), ∀ (H : Heap) (locs : List Loc) (ls : Array Slot) (s0 : St) (v0 : Nat) (v3 : Int32) (g_v0 : P_Sheet v0), Wh D cA ad shC A s s0 H locs → lv_has ls 4 [(0, .ref (ad v0)), (3, .int v3)] → F_Sheet_become_18 n s0 v0 v3 = (some τ) → W p l e rm_Sheet_become s m args below meth c H locs 0 0 (MQ below (QcV D cA ad shC A τ) args s 0 0 A) (F0 m 18 ls []) := by
  have hx := K.1.1; have hb := K.1.2.1
  intro n
  induction n with
  | zero =>
    intro H locs ls s0 v0 v3 g_v0 hw hl hF
    exact absurd hF (by rw [F_Sheet_become_18]; exact nofun)
  | succ n ih =>
    intro H locs ls s0 v0 v3 g_v0 hw hl hF
    rw [F_Sheet_become_18] at hF
    refine lv_iload_n hx hb d_Sheet_become_18 rfl (lv_at hl 1 rfl) ?_
    refine lv_bipush (v := 40) hx hb d_Sheet_become_19 (by decide) ?_
    refine lv_icmp_ge (tgt := 37) hx hb d_Sheet_become_21 (by decide) (fun c_3 => ?_) (fun c_3 => ?_)
    · replace hF := ifT hF c_3
      replace hF := sE1 hF
      subst hF
      exact r_vret K hw d_Sheet_become_37
    · replace hF := ifF hF c_3
      refine lv_aload_n hx hb d_Sheet_become_24 rfl (lv_at hl 0 rfl) ?_
      refine r_get (v := .ref (ad (v0 + 4))) K hw i_Sheet (sh_Sheet g_v0) rfl 0 (by decide) w_189 rfl rfl rfl d_Sheet_become_25 ?_
      refine lv_iload_n hx hb d_Sheet_become_28 rfl (lv_at hl 1 rfl) ?_
      refine lv_iconst (v := 0) hx hb d_Sheet_become_29 (by decide) ?_
      obtain ⟨g_4, hF⟩ := ifG hF
      refine r_iast (k := v3.toNatClampNeg) K hw (show shC[(v0 + 4)]? = some (.inr (.inl 40)) from (sh_numbersOf g_v0)) rfl (inB_vp g_4) d_Sheet_become_30 (fun s_5 f_s_5 H locs hw => ?_)
      replace hF := ltN hF f_s_5
      refine lv_iinc (v := (v3 + 1)) (lv' := [(3, .int (v3 + 1)), (0, .ref (ad v0))]) hx hb d_Sheet_become_31 hl (k := 1) rfl rfl (by decide) rfl (fun ls hl => ?_)
      refine lv_goto (tgt := 18) hx hb d_Sheet_become_34 (by decide) ?_
      exact ih _ _ _ _ _ _ g_v0 hw (lv_sub hl [1, 0] rfl) hF
def F_Sheet_become_0 (s0 : St) (v0 : Nat) (v1 : Int32) (v2 : Int32) : Option St := (lt (up1 s0 v0 1 v1) (fun s_1 => (lt (up1 s_1 v0 2 (F_Main_bounded v2 (0 : Int32) (40 : Int32))) (fun s_2 => (F_Sheet_become_18 FU s_2 v0 (0 : Int32))))))
set_option maxHeartbeats 4000000 in
set_option maxRecDepth 100000 in
theorem q_Sheet_become_0 (K : Fx p s m args meth c b_Sheet_become 4 R_Sheet none)  : ∀ (H : Heap) (locs : List Loc) (ls : Array Slot) (s0 : St) (v0 : Nat) (v1 : Int32) (v2 : Int32) (g_v0 : P_Sheet v0), Wh D cA ad shC A s s0 H locs → lv_has ls 4 [(0, .ref (ad v0)), (1, .int v1), (2, .int v2)] → F_Sheet_become_0 s0 v0 v1 v2 = (some τ) → W p l e rm_Sheet_become s m args below meth c H locs 0 0 (MQ below (QcV D cA ad shC A τ) args s 0 0 A) (F0 m 0 ls []) := by
  have hx := K.1.1; have hb := K.1.2.1
  intro H locs ls s0 v0 v1 v2 g_v0 hw hl hF
  unfold F_Sheet_become_0 at hF
  refine lv_aload_n hx hb d_Sheet_become_0 rfl (lv_at hl 0 rfl) ?_
  refine lv_iload_n hx hb d_Sheet_become_1 rfl (lv_at hl 1 rfl) ?_
  refine r_putI K hw i_Sheet t_Sheet t_Sheet_ok n_Sheet (sh_Sheet g_v0) rfl 1 (by decide) w_191 rfl rfl rfl rfl rfl d_Sheet_become_2 (fun s_1 f_s_1 H locs hw => ?_)
  replace hF := ltN hF f_s_1
  refine lv_aload_n hx hb d_Sheet_become_5 rfl (lv_at hl 0 rfl) ?_
  refine lv_iload_n hx hb d_Sheet_become_6 rfl (lv_at hl 2 rfl) ?_
  refine lv_iconst (v := 0) hx hb d_Sheet_become_7 (by decide) ?_
  refine lv_bipush (v := 40) hx hb d_Sheet_become_8 (by decide) ?_
  refine r_callNI (As := [.int v2, .int (0 : Int32), .int (40 : Int32)]) (rest := [.ref (ad v0)]) K hw hl.1 (c_Main_bounded (l := l) (D := D) (cA := cA) (ad := ad) (s0 := s_1)  rfl) (nw_910) w_683 w_63 w_684 a_Main_bounded.2 ⟨rfl, rfl, Nat.le_of_ble_eq_true rfl, Nat.le_of_ble_eq_true rfl⟩ rfl rfl (Nat.le_of_ble_eq_true rfl) d_Sheet_become_10 (fun H locs hw => ?_)
  refine r_putI K hw i_Sheet t_Sheet t_Sheet_ok n_Sheet (sh_Sheet g_v0) rfl 2 (by decide) w_193 rfl rfl rfl rfl rfl d_Sheet_become_13 (fun s_2 f_s_2 H locs hw => ?_)
  replace hF := ltN hF f_s_2
  refine lv_iconst (v := 0) hx hb d_Sheet_become_16 (by decide) ?_
  refine lv_istore_n (lv' := [(3, .int (0 : Int32)), (0, .ref (ad v0)), (1, .int v1), (2, .int v2)]) hx hb d_Sheet_become_17 rfl hl (by decide) rfl (fun ls hl => ?_)
  exact q_Sheet_become_18 K FU _ _ _ _ _ _ g_v0 hw (lv_sub hl [1, 0] rfl) hF
end S_Sheet_become
abbrev F_Sheet_become := F_Sheet_become_0
theorem c_Sheet_become {l : Launch} {D : va_G} {cA : Nat → ClassId} {ad : Nat → Nat} {s0 τ : St} {v0 : Nat} {v1 : Int32} {v2 : Int32} (g_v0 : P_Sheet v0) (hF : F_Sheet_become s0 v0 v1 v2 = (some τ)) : MV l D cA ad shC y_Sheet_become (wT y_Sheet_become b_Sheet_become 4 none) rm_Sheet_become [.ref (ad v0), .int v1, .int v2] s0 τ := fun sz => m_start (Qc := fun A => QcV D cA ad shC A τ) (by decide +kernel) w_909 (Nat.le_of_ble_eq_true rfl) (fun p e s m below meth c ls K hl hw => q_Sheet_become_0 K _ _ _ _ _ _ _ g_v0 hw hl hF)

/-! Sheet.put(II)V -/
abbrev b_Sheet_put : ByteArray := prog_7_method_6_code
def y_Sheet_put : MethodName := ⟨R_Sheet, "put", "(II)V"⟩
theorem a_Sheet_put : y_Sheet_put.cls = R_Sheet ∧ y_Sheet_put.cls ≠ "java/lang/invoke/MethodHandle" ∧ y_Sheet_put.cls ≠ "java/lang/invoke/VarHandle" ∧ (parseMethodDescriptor y_Sheet_put.desc).map (fun d => d.parameters.length) = some 2 := by decide +kernel
abbrev rm_Sheet_put : Room := { frames := 2, cells := 0, slots := 0, locals := 43 }
theorem w_914 : Cond.code y_Sheet_put b_Sheet_put 3 none ∈ TB := tb_in 914 (by decide +kernel) (by decide +kernel)
theorem d_Sheet_put_0 : decode b_Sheet_put 0 = .ok (.aload_n 0, 1) := by decide +kernel
theorem d_Sheet_put_1 : decode b_Sheet_put 1 = .ok (.iload_n 1, 1) := by decide +kernel
theorem d_Sheet_put_2 : decode b_Sheet_put 2 = .ok (.invokevirtual 30, 3) := by decide +kernel
theorem d_Sheet_put_5 : decode b_Sheet_put 5 = .ok (.ifCond .eq 12, 3) := by decide +kernel
theorem d_Sheet_put_8 : decode b_Sheet_put 8 = .ok (.iload_n 1, 1) := by decide +kernel
theorem d_Sheet_put_9 : decode b_Sheet_put 9 = .ok (.aload_n 0, 1) := by decide +kernel
theorem d_Sheet_put_10 : decode b_Sheet_put 10 = .ok (.getfield 9, 3) := by decide +kernel
theorem d_Sheet_put_13 : decode b_Sheet_put 13 = .ok (.arraylength, 1) := by decide +kernel
theorem d_Sheet_put_14 : decode b_Sheet_put 14 = .ok (.if_icmp .lt 4, 3) := by decide +kernel
theorem d_Sheet_put_17 : decode b_Sheet_put 17 = .ok (.return_, 1) := by decide +kernel
theorem d_Sheet_put_18 : decode b_Sheet_put 18 = .ok (.aload_n 0, 1) := by decide +kernel
theorem d_Sheet_put_19 : decode b_Sheet_put 19 = .ok (.getfield 15, 3) := by decide +kernel
theorem d_Sheet_put_22 : decode b_Sheet_put 22 = .ok (.ifCond .ne 14, 3) := by decide +kernel
theorem d_Sheet_put_25 : decode b_Sheet_put 25 = .ok (.aload_n 0, 1) := by decide +kernel
theorem d_Sheet_put_26 : decode b_Sheet_put 26 = .ok (.getfield 9, 3) := by decide +kernel
theorem d_Sheet_put_29 : decode b_Sheet_put 29 = .ok (.iload_n 1, 1) := by decide +kernel
theorem d_Sheet_put_30 : decode b_Sheet_put 30 = .ok (.iload_n 2, 1) := by decide +kernel
theorem d_Sheet_put_31 : decode b_Sheet_put 31 = .ok (.i2b, 1) := by decide +kernel
theorem d_Sheet_put_32 : decode b_Sheet_put 32 = .ok (.iastore, 1) := by decide +kernel
theorem d_Sheet_put_33 : decode b_Sheet_put 33 = .ok (.goto 29, 3) := by decide +kernel
theorem d_Sheet_put_36 : decode b_Sheet_put 36 = .ok (.aload_n 0, 1) := by decide +kernel
theorem d_Sheet_put_37 : decode b_Sheet_put 37 = .ok (.getfield 15, 3) := by decide +kernel
theorem d_Sheet_put_40 : decode b_Sheet_put 40 = .ok (.iconst 1, 1) := by decide +kernel
theorem d_Sheet_put_41 : decode b_Sheet_put 41 = .ok (.if_icmp .ne 14, 3) := by decide +kernel
theorem d_Sheet_put_44 : decode b_Sheet_put 44 = .ok (.aload_n 0, 1) := by decide +kernel
theorem d_Sheet_put_45 : decode b_Sheet_put 45 = .ok (.getfield 9, 3) := by decide +kernel
theorem d_Sheet_put_48 : decode b_Sheet_put 48 = .ok (.iload_n 1, 1) := by decide +kernel
theorem d_Sheet_put_49 : decode b_Sheet_put 49 = .ok (.iload_n 2, 1) := by decide +kernel
theorem d_Sheet_put_50 : decode b_Sheet_put 50 = .ok (.i2s, 1) := by decide +kernel
theorem d_Sheet_put_51 : decode b_Sheet_put 51 = .ok (.iastore, 1) := by decide +kernel
theorem d_Sheet_put_52 : decode b_Sheet_put 52 = .ok (.goto 10, 3) := by decide +kernel
theorem d_Sheet_put_55 : decode b_Sheet_put 55 = .ok (.aload_n 0, 1) := by decide +kernel
theorem d_Sheet_put_56 : decode b_Sheet_put 56 = .ok (.getfield 9, 3) := by decide +kernel
theorem d_Sheet_put_59 : decode b_Sheet_put 59 = .ok (.iload_n 1, 1) := by decide +kernel
theorem d_Sheet_put_60 : decode b_Sheet_put 60 = .ok (.iload_n 2, 1) := by decide +kernel
theorem d_Sheet_put_61 : decode b_Sheet_put 61 = .ok (.iastore, 1) := by decide +kernel
theorem d_Sheet_put_62 : decode b_Sheet_put 62 = .ok (.return_, 1) := by decide +kernel
section S_Sheet_put
variable {p : Program} {l : Launch} {e : Env} {s : State} {m : MethodId} {args : Array Value} {below : List Frame} {meth : Method} {c : Code} {D : va_G} {cA : Nat → ClassId} {ad : Nat → Nat} {A : Nat → Prop} {τ : St}
def F_Sheet_put_0 (s0 : St) (v0 : Nat) (v1 : Int32) (v2 : Int32) : Option St := (ob1 (F_Sheet_hasPlace s0 v0 v1) (fun r_1 => (if r_1 = 0 then (some s0) else (if v1 < (40 : Int32) then (if ¬ (s0.1 v0 1) = 0 then (if ¬ (s0.1 v0 1) = (1 : Int32) then (if inB v1 40 = true then (lt (up1 s0 (v0 + 4) v1.toNatClampNeg v2) (fun s_7 => (some s_7))) else none) else (if inB v1 40 = true then (lt (up1 s0 (v0 + 4) v1.toNatClampNeg (v2.toInt16.toInt32)) (fun s_9 => (some s_9))) else none)) else (if inB v1 40 = true then (lt (up1 s0 (v0 + 4) v1.toNatClampNeg (v2.toInt8.toInt32)) (fun s_11 => (some s_11))) else none)) else (some s0)))))
set_option maxHeartbeats 4000000 in
set_option maxRecDepth 100000 in
theorem q_Sheet_put_0 (K : Fx p s m args meth c b_Sheet_put 3 R_Sheet none)  : ∀ (H : Heap) (locs : List Loc) (ls : Array Slot) (s0 : St) (v0 : Nat) (v1 : Int32) (v2 : Int32) (g_v0 : P_Sheet v0), Wh D cA ad shC A s s0 H locs → lv_has ls 3 [(0, .ref (ad v0)), (1, .int v1), (2, .int v2)] → F_Sheet_put_0 s0 v0 v1 v2 = (some τ) → W p l e rm_Sheet_put s m args below meth c H locs 0 0 (MQ below (QcV D cA ad shC A τ) args s 0 0 A) (F0 m 0 ls []) := by
  have hx := K.1.1; have hb := K.1.2.1
  intro H locs ls s0 v0 v1 v2 g_v0 hw hl hF
  unfold F_Sheet_put_0 at hF
  refine lv_aload_n hx hb d_Sheet_put_0 rfl (lv_at hl 0 rfl) ?_
  refine lv_iload_n hx hb d_Sheet_put_1 rfl (lv_at hl 1 rfl) ?_
  obtain ⟨r_1, h_r_1, hF⟩ := ob1E hF
  refine r_callVI (As := [.int v1]) (rest := []) K hw hl.1 (c_Sheet_hasPlace (l := l) (D := D) (cA := cA) (ad := ad) (s0 := s0) g_v0 h_r_1) (sh_Sheet g_v0) rfl (tb_gV w_885 w_886 w_887 w_67 w_888) a_Sheet_hasPlace ⟨rfl, rfl, Nat.le_of_ble_eq_true rfl, Nat.le_of_ble_eq_true rfl⟩ rfl rfl (Nat.le_of_ble_eq_true rfl) d_Sheet_put_2 (fun H locs hw => ?_)
  refine lv_if_eq (tgt := 17) hx hb d_Sheet_put_5 (by decide) (fun c_2 => ?_) (fun c_2 => ?_)
  · replace hF := ifT hF c_2
    replace hF := sE1 hF
    subst hF
    exact r_vret K hw d_Sheet_put_17
  · replace hF := ifF hF c_2
    refine lv_iload_n hx hb d_Sheet_put_8 rfl (lv_at hl 1 rfl) ?_
    refine lv_aload_n hx hb d_Sheet_put_9 rfl (lv_at hl 0 rfl) ?_
    refine r_get (v := .ref (ad (v0 + 4))) K hw i_Sheet (sh_Sheet g_v0) rfl 0 (by decide) w_189 rfl rfl rfl d_Sheet_put_10 ?_
    refine r_alen (v := 40) K hw (show shC[(v0 + 4)]? = some (.inr (.inl 40)) from (sh_numbersOf g_v0)) (by decide) d_Sheet_put_13 ?_
    refine lv_icmp_lt (tgt := 18) hx hb d_Sheet_put_14 (by decide) (fun c_3 => ?_) (fun c_3 => ?_)
    · replace hF := ifT hF c_3
      refine lv_aload_n hx hb d_Sheet_put_18 rfl (lv_at hl 0 rfl) ?_
      refine r_get (v := .int (s0.1 v0 1)) K hw i_Sheet (sh_Sheet g_v0) rfl 1 (by decide) w_191 rfl rfl rfl d_Sheet_put_19 ?_
      refine lv_if_ne (tgt := 36) hx hb d_Sheet_put_22 (by decide) (fun c_4 => ?_) (fun c_4 => ?_)
      · replace hF := ifT hF c_4
        refine lv_aload_n hx hb d_Sheet_put_36 rfl (lv_at hl 0 rfl) ?_
        refine r_get (v := .int (s0.1 v0 1)) K hw i_Sheet (sh_Sheet g_v0) rfl 1 (by decide) w_191 rfl rfl rfl d_Sheet_put_37 ?_
        refine lv_iconst (v := 1) hx hb d_Sheet_put_40 (by decide) ?_
        refine lv_icmp_ne (tgt := 55) hx hb d_Sheet_put_41 (by decide) (fun c_5 => ?_) (fun c_5 => ?_)
        · replace hF := ifT hF c_5
          refine lv_aload_n hx hb d_Sheet_put_55 rfl (lv_at hl 0 rfl) ?_
          refine r_get (v := .ref (ad (v0 + 4))) K hw i_Sheet (sh_Sheet g_v0) rfl 0 (by decide) w_189 rfl rfl rfl d_Sheet_put_56 ?_
          refine lv_iload_n hx hb d_Sheet_put_59 rfl (lv_at hl 1 rfl) ?_
          refine lv_iload_n hx hb d_Sheet_put_60 rfl (lv_at hl 2 rfl) ?_
          obtain ⟨g_6, hF⟩ := ifG hF
          refine r_iast (k := v1.toNatClampNeg) K hw (show shC[(v0 + 4)]? = some (.inr (.inl 40)) from (sh_numbersOf g_v0)) rfl (inB_vp g_6) d_Sheet_put_61 (fun s_7 f_s_7 H locs hw => ?_)
          replace hF := ltN hF f_s_7
          replace hF := sE1 hF
          subst hF
          exact r_vret K hw d_Sheet_put_62
        · replace hF := ifN hF c_5
          refine lv_aload_n hx hb d_Sheet_put_44 rfl (lv_at hl 0 rfl) ?_
          refine r_get (v := .ref (ad (v0 + 4))) K hw i_Sheet (sh_Sheet g_v0) rfl 0 (by decide) w_189 rfl rfl rfl d_Sheet_put_45 ?_
          refine lv_iload_n hx hb d_Sheet_put_48 rfl (lv_at hl 1 rfl) ?_
          refine lv_iload_n hx hb d_Sheet_put_49 rfl (lv_at hl 2 rfl) ?_
          refine lv_i2s (v := v2.toInt16.toInt32) hx hb d_Sheet_put_50 rfl ?_
          obtain ⟨g_8, hF⟩ := ifG hF
          refine r_iast (k := v1.toNatClampNeg) K hw (show shC[(v0 + 4)]? = some (.inr (.inl 40)) from (sh_numbersOf g_v0)) rfl (inB_vp g_8) d_Sheet_put_51 (fun s_9 f_s_9 H locs hw => ?_)
          replace hF := ltN hF f_s_9
          refine lv_goto (tgt := 62) hx hb d_Sheet_put_52 (by decide) ?_
          replace hF := sE1 hF
          subst hF
          exact r_vret K hw d_Sheet_put_62
      · replace hF := ifN hF c_4
        refine lv_aload_n hx hb d_Sheet_put_25 rfl (lv_at hl 0 rfl) ?_
        refine r_get (v := .ref (ad (v0 + 4))) K hw i_Sheet (sh_Sheet g_v0) rfl 0 (by decide) w_189 rfl rfl rfl d_Sheet_put_26 ?_
        refine lv_iload_n hx hb d_Sheet_put_29 rfl (lv_at hl 1 rfl) ?_
        refine lv_iload_n hx hb d_Sheet_put_30 rfl (lv_at hl 2 rfl) ?_
        refine lv_i2b (v := v2.toInt8.toInt32) hx hb d_Sheet_put_31 rfl ?_
        obtain ⟨g_10, hF⟩ := ifG hF
        refine r_iast (k := v1.toNatClampNeg) K hw (show shC[(v0 + 4)]? = some (.inr (.inl 40)) from (sh_numbersOf g_v0)) rfl (inB_vp g_10) d_Sheet_put_32 (fun s_11 f_s_11 H locs hw => ?_)
        replace hF := ltN hF f_s_11
        refine lv_goto (tgt := 62) hx hb d_Sheet_put_33 (by decide) ?_
        replace hF := sE1 hF
        subst hF
        exact r_vret K hw d_Sheet_put_62
    · replace hF := ifF hF c_3
      replace hF := sE1 hF
      subst hF
      exact r_vret K hw d_Sheet_put_17
end S_Sheet_put
abbrev F_Sheet_put := F_Sheet_put_0
theorem c_Sheet_put {l : Launch} {D : va_G} {cA : Nat → ClassId} {ad : Nat → Nat} {s0 τ : St} {v0 : Nat} {v1 : Int32} {v2 : Int32} (g_v0 : P_Sheet v0) (hF : F_Sheet_put s0 v0 v1 v2 = (some τ)) : MV l D cA ad shC y_Sheet_put (wT y_Sheet_put b_Sheet_put 3 none) rm_Sheet_put [.ref (ad v0), .int v1, .int v2] s0 τ := fun sz => m_start (Qc := fun A => QcV D cA ad shC A τ) (by decide +kernel) w_914 (Nat.le_of_ble_eq_true rfl) (fun p e s m below meth c ls K hl hw => q_Sheet_put_0 K _ _ _ _ _ _ _ g_v0 hw hl hF)

/-! Main.film(III)I -/
abbrev b_Main_film : ByteArray := prog_1_method_25_code
def y_Main_film : MethodName := ⟨R_Main, "film", "(III)I"⟩
theorem a_Main_film : y_Main_film.cls = R_Main ∧ y_Main_film.cls ≠ "java/lang/invoke/MethodHandle" ∧ y_Main_film.cls ≠ "java/lang/invoke/VarHandle" ∧ (parseMethodDescriptor y_Main_film.desc).map (fun d => d.parameters.length) = some 3 := by decide +kernel
abbrev rm_Main_film : Room := { frames := 5, cells := 0, slots := 0, locals := 116 }
theorem w_906 : Cond.methodLink R_Main 258 y_Sheet_become ∈ TB := tb_in 906 (by decide +kernel) (by decide +kernel)
theorem w_907 : Cond.instanceMethod y_Sheet_become ∈ TB := tb_in 907 (by decide +kernel) (by decide +kernel)
theorem w_908 : Cond.selects R_Sheet y_Sheet_become y_Sheet_become ∈ TB := tb_in 908 (by decide +kernel) (by decide +kernel)
theorem w_911 : Cond.methodLink R_Main 261 y_Sheet_put ∈ TB := tb_in 911 (by decide +kernel) (by decide +kernel)
theorem w_912 : Cond.instanceMethod y_Sheet_put ∈ TB := tb_in 912 (by decide +kernel) (by decide +kernel)
theorem w_913 : Cond.selects R_Sheet y_Sheet_put y_Sheet_put ∈ TB := tb_in 913 (by decide +kernel) (by decide +kernel)
theorem w_905 : Cond.code y_Main_film b_Main_film 5 (some .int) ∈ TB := tb_in 905 (by decide +kernel) (by decide +kernel)
theorem d_Main_film_0 : decode b_Main_film 0 = .ok (.iload_n 1, 1) := by decide +kernel
theorem d_Main_film_1 : decode b_Main_film 1 = .ok (.invokestatic 255, 3) := by decide +kernel
theorem d_Main_film_4 : decode b_Main_film 4 = .ok (.ifCond .ne 6, 3) := by decide +kernel
theorem d_Main_film_7 : decode b_Main_film 7 = .ok (.bipush (-2), 2) := by decide +kernel
theorem d_Main_film_9 : decode b_Main_film 9 = .ok (.ireturn, 1) := by decide +kernel
theorem d_Main_film_10 : decode b_Main_film 10 = .ok (.aload_n 0, 1) := by decide +kernel
theorem d_Main_film_11 : decode b_Main_film 11 = .ok (.iload_n 2, 1) := by decide +kernel
theorem d_Main_film_12 : decode b_Main_film 12 = .ok (.invokevirtual 171, 3) := by decide +kernel
theorem d_Main_film_15 : decode b_Main_film 15 = .ok (.ifCond .ne 6, 3) := by decide +kernel
theorem d_Main_film_18 : decode b_Main_film 18 = .ok (.bipush (-5), 2) := by decide +kernel
theorem d_Main_film_20 : decode b_Main_film 20 = .ok (.ireturn, 1) := by decide +kernel
theorem d_Main_film_21 : decode b_Main_film 21 = .ok (.iload_n 3, 1) := by decide +kernel
theorem d_Main_film_22 : decode b_Main_film 22 = .ok (.iconst 0, 1) := by decide +kernel
theorem d_Main_film_23 : decode b_Main_film 23 = .ok (.bipush 8, 2) := by decide +kernel
theorem d_Main_film_25 : decode b_Main_film 25 = .ok (.invokestatic 108, 3) := by decide +kernel
theorem d_Main_film_28 : decode b_Main_film 28 = .ok (.ifCond .ne 6, 3) := by decide +kernel
theorem d_Main_film_31 : decode b_Main_film 31 = .ok (.bipush (-7), 2) := by decide +kernel
theorem d_Main_film_33 : decode b_Main_film 33 = .ok (.ireturn, 1) := by decide +kernel
theorem d_Main_film_34 : decode b_Main_film 34 = .ok (.aload_n 0, 1) := by decide +kernel
theorem d_Main_film_35 : decode b_Main_film 35 = .ok (.iload_n 2, 1) := by decide +kernel
theorem d_Main_film_36 : decode b_Main_film 36 = .ok (.bipush 10, 2) := by decide +kernel
theorem d_Main_film_38 : decode b_Main_film 38 = .ok (.idiv, 1) := by decide +kernel
theorem d_Main_film_39 : decode b_Main_film 39 = .ok (.iload_n 2, 1) := by decide +kernel
theorem d_Main_film_40 : decode b_Main_film 40 = .ok (.bipush 10, 2) := by decide +kernel
theorem d_Main_film_42 : decode b_Main_film 42 = .ok (.irem, 1) := by decide +kernel
theorem d_Main_film_43 : decode b_Main_film 43 = .ok (.invokevirtual 174, 3) := by decide +kernel
theorem d_Main_film_46 : decode b_Main_film 46 = .ok (.aload_n 0, 1) := by decide +kernel
theorem d_Main_film_47 : decode b_Main_film 47 = .ok (.getfield 30, 3) := by decide +kernel
theorem d_Main_film_50 : decode b_Main_film 50 = .ok (.iload_n 1, 1) := by decide +kernel
theorem d_Main_film_51 : decode b_Main_film 51 = .ok (.aaload, 1) := by decide +kernel
theorem d_Main_film_52 : decode b_Main_film 52 = .ok (.iconst 2, 1) := by decide +kernel
theorem d_Main_film_53 : decode b_Main_film 53 = .ok (.iload_n 3, 1) := by decide +kernel
theorem d_Main_film_54 : decode b_Main_film 54 = .ok (.invokevirtual 258, 3) := by decide +kernel
theorem d_Main_film_57 : decode b_Main_film 57 = .ok (.iconst 0, 1) := by decide +kernel
theorem d_Main_film_58 : decode b_Main_film 58 = .ok (.istore 4, 2) := by decide +kernel
theorem d_Main_film_60 : decode b_Main_film 60 = .ok (.iload 4, 2) := by decide +kernel
theorem d_Main_film_62 : decode b_Main_film 62 = .ok (.iload_n 3, 1) := by decide +kernel
theorem d_Main_film_63 : decode b_Main_film 63 = .ok (.if_icmp .ge 40, 3) := by decide +kernel
theorem d_Main_film_66 : decode b_Main_film 66 = .ok (.aload_n 0, 1) := by decide +kernel
theorem d_Main_film_67 : decode b_Main_film 67 = .ok (.getfield 86, 3) := by decide +kernel
theorem d_Main_film_70 : decode b_Main_film 70 = .ok (.iconst 5, 1) := by decide +kernel
theorem d_Main_film_71 : decode b_Main_film 71 = .ok (.iload 4, 2) := by decide +kernel
theorem d_Main_film_73 : decode b_Main_film 73 = .ok (.iconst 1, 1) := by decide +kernel
theorem d_Main_film_74 : decode b_Main_film 74 = .ok (.iadd, 1) := by decide +kernel
theorem d_Main_film_75 : decode b_Main_film 75 = .ok (.imul, 1) := by decide +kernel
theorem d_Main_film_76 : decode b_Main_film 76 = .ok (.invokevirtual 182, 3) := by decide +kernel
theorem d_Main_film_79 : decode b_Main_film 79 = .ok (.aload_n 0, 1) := by decide +kernel
theorem d_Main_film_80 : decode b_Main_film 80 = .ok (.getfield 30, 3) := by decide +kernel
theorem d_Main_film_83 : decode b_Main_film 83 = .ok (.iload_n 1, 1) := by decide +kernel
theorem d_Main_film_84 : decode b_Main_film 84 = .ok (.aaload, 1) := by decide +kernel
theorem d_Main_film_85 : decode b_Main_film 85 = .ok (.iload 4, 2) := by decide +kernel
theorem d_Main_film_87 : decode b_Main_film 87 = .ok (.aload_n 0, 1) := by decide +kernel
theorem d_Main_film_88 : decode b_Main_film 88 = .ok (.getfield 86, 3) := by decide +kernel
theorem d_Main_film_91 : decode b_Main_film 91 = .ok (.getfield 185, 3) := by decide +kernel
theorem d_Main_film_94 : decode b_Main_film 94 = .ok (.invokevirtual 261, 3) := by decide +kernel
theorem d_Main_film_97 : decode b_Main_film 97 = .ok (.iinc 4 1, 3) := by decide +kernel
theorem d_Main_film_100 : decode b_Main_film 100 = .ok (.goto (-40), 3) := by decide +kernel
theorem d_Main_film_103 : decode b_Main_film 103 = .ok (.iload_n 3, 1) := by decide +kernel
theorem d_Main_film_104 : decode b_Main_film 104 = .ok (.ireturn, 1) := by decide +kernel
section S_Main_film
variable {p : Program} {l : Launch} {e : Env} {s : State} {m : MethodId} {args : Array Value} {below : List Frame} {meth : Method} {c : Code} {D : va_G} {cA : Nat → ClassId} {ad : Nat → Nat} {A : Nat → Prop} {r : Int32} {τ : St}
def F_Main_film_60 : Nat → St → Int32 → Int32 → Int32 → Option (Int32 × St)
  | 0, _, _, _, _ => none
  | n + 1, s0, v1, v3, v4 => (if v3 ≤ v4 then (some (v3, s0)) else (ob1 (F_Bout_playTo s0 ((5 : Int32) * (v4 + (1 : Int32)))) (fun s_10 => (if inB v1 4 = true then (ob1 (F_Sheet_put s_10 (42 + v1.toNatClampNeg) v4 (s_10.1 11 3)) (fun s_12 => (F_Main_film_60 n s_12 v1 v3 (v4 + 1)))) else none))))
set_option maxHeartbeats 4000000 in
set_option maxRecDepth 100000 in
theorem q_Main_film_60 (K : Fx p s m args meth c b_Main_film 5 R_Main (some .int))  : ∀ (n : Nat), ∀ (H : Heap) (locs : List Loc) (ls : Array Slot) (s0 : St) (v1 : Int32) (v3 : Int32) (v4 : Int32), Wh D cA ad shC A s s0 H locs → lv_has ls 5 [(0, .ref (ad 0)), (1, .int v1), (3, .int v3), (4, .int v4)] → F_Main_film_60 n s0 v1 v3 v4 = (some (r, τ)) → W p l e rm_Main_film s m args below meth c H locs 0 0 (MQ below (QcI D cA ad shC A r τ) args s 0 0 A) (F0 m 60 ls []) := by
  have hx := K.1.1; have hb := K.1.2.1
  intro n
  induction n with
  | zero =>
    intro H locs ls s0 v1 v3 v4 hw hl hF
    exact absurd hF (by rw [F_Main_film_60]; exact nofun)
  | succ n ih =>
    intro H locs ls s0 v1 v3 v4 hw hl hF
    rw [F_Main_film_60] at hF
    refine lv_iload hx hb d_Main_film_60 (lv_at hl 3 rfl) ?_
    refine lv_iload_n hx hb d_Main_film_62 rfl (lv_at hl 2 rfl) ?_
    refine lv_icmp_ge (tgt := 103) hx hb d_Main_film_63 (by decide) (fun c_9 => ?_) (fun c_9 => ?_)
    · replace hF := ifT hF c_9
      refine lv_iload_n hx hb d_Main_film_103 rfl (lv_at hl 2 rfl) ?_
      obtain ⟨hF, hG⟩ := sE2 hF
      subst hF
      subst hG
      exact r_iret K hw d_Main_film_104
    · replace hF := ifF hF c_9
      refine lv_aload_n hx hb d_Main_film_66 rfl (lv_at hl 0 rfl) ?_
      refine r_get (v := .ref (ad 11)) K hw i_Main sh_Main rfl 7 (by decide) w_605 rfl rfl rfl d_Main_film_67 ?_
      refine lv_iconst (v := 5) hx hb d_Main_film_70 (by decide) ?_
      refine lv_iload hx hb d_Main_film_71 (lv_at hl 3 rfl) ?_
      refine lv_iconst (v := 1) hx hb d_Main_film_73 (by decide) ?_
      refine lv_iadd hx hb d_Main_film_74 ?_
      refine lv_imul hx hb d_Main_film_75 ?_
      obtain ⟨s_10, h_s_10, hF⟩ := ob1E hF
      refine r_callVV (As := [.int ((5 : Int32) * (v4 + (1 : Int32)))]) (rest := []) K hw hl.1 (c_Bout_playTo (l := l) (D := D) (cA := cA) (ad := ad) (s0 := s0)  h_s_10) sh_Bout rfl (tb_gV w_737 w_738 w_739 w_77 w_740) a_Bout_playTo ⟨rfl, rfl, Nat.le_of_ble_eq_true rfl, Nat.le_of_ble_eq_true rfl⟩ rfl rfl (Nat.le_of_ble_eq_true rfl) d_Main_film_76 (fun H locs hw => ?_)
      refine lv_aload_n hx hb d_Main_film_79 rfl (lv_at hl 0 rfl) ?_
      refine r_get (v := .ref (ad 3)) K hw i_Main sh_Main rfl 9 (by decide) w_607 rfl rfl rfl d_Main_film_80 ?_
      refine lv_iload_n hx hb d_Main_film_83 rfl (lv_at hl 1 rfl) ?_
      obtain ⟨g_11, hF⟩ := ifG hF
      refine r_aald (k := v1.toNatClampNeg) K hw (show shC[3]? = some (.inr (.inr (3, 42, 4))) from rfl) (rfl : (TYS cA)[3]? = some (cA 3, _)) rfl (inB_vp g_11) d_Main_film_84 ?_
      refine lv_iload hx hb d_Main_film_85 (lv_at hl 3 rfl) ?_
      refine lv_aload_n hx hb d_Main_film_87 rfl (lv_at hl 0 rfl) ?_
      refine r_get (v := .ref (ad 11)) K hw i_Main sh_Main rfl 7 (by decide) w_605 rfl rfl rfl d_Main_film_88 ?_
      refine r_get (v := .int (s_10.1 11 3)) K hw i_Bout sh_Bout rfl 3 (by decide) w_540 rfl rfl rfl d_Main_film_91 ?_
      obtain ⟨s_12, h_s_12, hF⟩ := ob1E hF
      refine r_callVV (As := [.int v4, .int (s_10.1 11 3)]) (rest := []) K hw hl.1 (c_Sheet_put (l := l) (D := D) (cA := cA) (ad := ad) (s0 := s_10) (P_Sheet_of g_11) h_s_12) (sh_Sheet (P_Sheet_of g_11)) rfl (tb_gV w_911 w_912 w_913 w_67 w_914) a_Sheet_put ⟨rfl, rfl, Nat.le_of_ble_eq_true rfl, Nat.le_of_ble_eq_true rfl⟩ rfl rfl (Nat.le_of_ble_eq_true rfl) d_Main_film_94 (fun H locs hw => ?_)
      refine lv_iinc (v := (v4 + 1)) (lv' := [(4, .int (v4 + 1)), (0, .ref (ad 0)), (1, .int v1), (3, .int v3)]) hx hb d_Main_film_97 hl (k := 3) rfl rfl (by decide) rfl (fun ls hl => ?_)
      refine lv_goto (tgt := 60) hx hb d_Main_film_100 (by decide) ?_
      exact ih _ _ _ _ _ _ _  hw (lv_sub hl [1, 2, 3, 0] rfl) hF
def F_Main_film_0 (s0 : St) (v1 : Int32) (v2 : Int32) (v3 : Int32) : Option (Int32 × St) := (ob1 (F_Main_isSheet v1) (fun r_1 => (if ¬ r_1 = 0 then (ob1 (F_Main_tellsTwo s0 v2) (fun r_3 => (if ¬ r_3 = 0 then (if ¬ (F_Main_isWithin v3 (0 : Int32) (8 : Int32)) = 0 then (ob1 (F_Main_opn s0 (v2 / (10 : Int32)) (jrem v2 (10 : Int32))) (fun s_6 => (if inB v1 4 = true then (ob1 (F_Sheet_become s_6 (42 + v1.toNatClampNeg) (2 : Int32) v3) (fun s_8 => (F_Main_film_60 FU s_8 v1 v3 (0 : Int32)))) else none))) else (some ((-7 : Int32), s0))) else (some ((-5 : Int32), s0))))) else (some ((-2 : Int32), s0)))))
set_option maxHeartbeats 4000000 in
set_option maxRecDepth 100000 in
theorem q_Main_film_0 (K : Fx p s m args meth c b_Main_film 5 R_Main (some .int))  : ∀ (H : Heap) (locs : List Loc) (ls : Array Slot) (s0 : St) (v1 : Int32) (v2 : Int32) (v3 : Int32), Wh D cA ad shC A s s0 H locs → lv_has ls 5 [(0, .ref (ad 0)), (1, .int v1), (2, .int v2), (3, .int v3)] → F_Main_film_0 s0 v1 v2 v3 = (some (r, τ)) → W p l e rm_Main_film s m args below meth c H locs 0 0 (MQ below (QcI D cA ad shC A r τ) args s 0 0 A) (F0 m 0 ls []) := by
  have hx := K.1.1; have hb := K.1.2.1
  intro H locs ls s0 v1 v2 v3 hw hl hF
  unfold F_Main_film_0 at hF
  refine lv_iload_n hx hb d_Main_film_0 rfl (lv_at hl 1 rfl) ?_
  obtain ⟨r_1, h_r_1, hF⟩ := ob1E hF
  refine r_callSI (As := [.int v1]) (rest := []) K hw hl.1 (c_Main_isSheet (l := l) (D := D) (cA := cA) (ad := ad) (s0 := s0)  h_r_1) (tb_gS w_874 w_875 w_63 w_876) a_Main_isSheet ⟨rfl, rfl, Nat.le_of_ble_eq_true rfl, Nat.le_of_ble_eq_true rfl⟩ rfl rfl (Nat.le_of_ble_eq_true rfl) d_Main_film_1 (fun H locs hw => ?_)
  refine lv_if_ne (tgt := 10) hx hb d_Main_film_4 (by decide) (fun c_2 => ?_) (fun c_2 => ?_)
  · replace hF := ifT hF c_2
    refine lv_aload_n hx hb d_Main_film_10 rfl (lv_at hl 0 rfl) ?_
    refine lv_iload_n hx hb d_Main_film_11 rfl (lv_at hl 2 rfl) ?_
    obtain ⟨r_3, h_r_3, hF⟩ := ob1E hF
    refine r_callVI (As := [.int v2]) (rest := []) K hw hl.1 (c_Main_tellsTwo (l := l) (D := D) (cA := cA) (ad := ad) (s0 := s0)  h_r_3) sh_Main rfl (tb_gV w_720 w_722 w_16 w_63 w_723) a_Main_tellsTwo ⟨rfl, rfl, Nat.le_of_ble_eq_true rfl, Nat.le_of_ble_eq_true rfl⟩ rfl rfl (Nat.le_of_ble_eq_true rfl) d_Main_film_12 (fun H locs hw => ?_)
    refine lv_if_ne (tgt := 21) hx hb d_Main_film_15 (by decide) (fun c_4 => ?_) (fun c_4 => ?_)
    · replace hF := ifT hF c_4
      refine lv_iload_n hx hb d_Main_film_21 rfl (lv_at hl 3 rfl) ?_
      refine lv_iconst (v := 0) hx hb d_Main_film_22 (by decide) ?_
      refine lv_bipush (v := 8) hx hb d_Main_film_23 (by decide) ?_
      refine r_callSI (As := [.int v3, .int (0 : Int32), .int (8 : Int32)]) (rest := []) K hw hl.1 (c_Main_isWithin (l := l) (D := D) (cA := cA) (ad := ad) (s0 := s0)  rfl) (tb_gS w_640 w_347 w_63 w_348) a_Main_isWithin ⟨rfl, rfl, Nat.le_of_ble_eq_true rfl, Nat.le_of_ble_eq_true rfl⟩ rfl rfl (Nat.le_of_ble_eq_true rfl) d_Main_film_25 (fun H locs hw => ?_)
      refine lv_if_ne (tgt := 34) hx hb d_Main_film_28 (by decide) (fun c_5 => ?_) (fun c_5 => ?_)
      · replace hF := ifT hF c_5
        refine lv_aload_n hx hb d_Main_film_34 rfl (lv_at hl 0 rfl) ?_
        refine lv_iload_n hx hb d_Main_film_35 rfl (lv_at hl 2 rfl) ?_
        refine lv_bipush (v := 10) hx hb d_Main_film_36 (by decide) ?_
        refine lv_idiv hx hb d_Main_film_38 (by decide) ?_
        refine lv_iload_n hx hb d_Main_film_39 rfl (lv_at hl 2 rfl) ?_
        refine lv_bipush (v := 10) hx hb d_Main_film_40 (by decide) ?_
        refine lv_irem hx hb d_Main_film_42 (by decide) ?_
        obtain ⟨s_6, h_s_6, hF⟩ := ob1E hF
        refine r_callVV (As := [.int (v2 / (10 : Int32)), .int (jrem v2 (10 : Int32))]) (rest := []) K hw hl.1 (c_Main_opn (l := l) (D := D) (cA := cA) (ad := ad) (s0 := s0)  h_s_6) sh_Main rfl (tb_gV w_728 w_730 w_18 w_63 w_731) a_Main_opn ⟨rfl, rfl, Nat.le_of_ble_eq_true rfl, Nat.le_of_ble_eq_true rfl⟩ rfl rfl (Nat.le_of_ble_eq_true rfl) d_Main_film_43 (fun H locs hw => ?_)
        refine lv_aload_n hx hb d_Main_film_46 rfl (lv_at hl 0 rfl) ?_
        refine r_get (v := .ref (ad 3)) K hw i_Main sh_Main rfl 9 (by decide) w_607 rfl rfl rfl d_Main_film_47 ?_
        refine lv_iload_n hx hb d_Main_film_50 rfl (lv_at hl 1 rfl) ?_
        obtain ⟨g_7, hF⟩ := ifG hF
        refine r_aald (k := v1.toNatClampNeg) K hw (show shC[3]? = some (.inr (.inr (3, 42, 4))) from rfl) (rfl : (TYS cA)[3]? = some (cA 3, _)) rfl (inB_vp g_7) d_Main_film_51 ?_
        refine lv_iconst (v := 2) hx hb d_Main_film_52 (by decide) ?_
        refine lv_iload_n hx hb d_Main_film_53 rfl (lv_at hl 3 rfl) ?_
        obtain ⟨s_8, h_s_8, hF⟩ := ob1E hF
        refine r_callVV (As := [.int (2 : Int32), .int v3]) (rest := []) K hw hl.1 (c_Sheet_become (l := l) (D := D) (cA := cA) (ad := ad) (s0 := s_6) (P_Sheet_of g_7) h_s_8) (sh_Sheet (P_Sheet_of g_7)) rfl (tb_gV w_906 w_907 w_908 w_67 w_909) a_Sheet_become ⟨rfl, rfl, Nat.le_of_ble_eq_true rfl, Nat.le_of_ble_eq_true rfl⟩ rfl rfl (Nat.le_of_ble_eq_true rfl) d_Main_film_54 (fun H locs hw => ?_)
        refine lv_iconst (v := 0) hx hb d_Main_film_57 (by decide) ?_
        refine lv_istore (lv' := [(4, .int (0 : Int32)), (0, .ref (ad 0)), (1, .int v1), (2, .int v2), (3, .int v3)]) hx hb d_Main_film_58 hl (by decide) rfl (fun ls hl => ?_)
        exact q_Main_film_60 K FU _ _ _ _ _ _ _  hw (lv_sub hl [1, 2, 4, 0] rfl) hF
      · replace hF := ifN hF c_5
        refine lv_bipush (v := -7) hx hb d_Main_film_31 (by decide) ?_
        obtain ⟨hF, hG⟩ := sE2 hF
        subst hF
        subst hG
        exact r_iret K hw d_Main_film_33
    · replace hF := ifN hF c_4
      refine lv_bipush (v := -5) hx hb d_Main_film_18 (by decide) ?_
      obtain ⟨hF, hG⟩ := sE2 hF
      subst hF
      subst hG
      exact r_iret K hw d_Main_film_20
  · replace hF := ifN hF c_2
    refine lv_bipush (v := -2) hx hb d_Main_film_7 (by decide) ?_
    obtain ⟨hF, hG⟩ := sE2 hF
    subst hF
    subst hG
    exact r_iret K hw d_Main_film_9
end S_Main_film
abbrev F_Main_film := F_Main_film_0
theorem c_Main_film {l : Launch} {D : va_G} {cA : Nat → ClassId} {ad : Nat → Nat} {s0 τ : St} {r : Int32} {v1 : Int32} {v2 : Int32} {v3 : Int32}  (hF : F_Main_film s0 v1 v2 v3 = (some (r, τ))) : MI l D cA ad shC y_Main_film (wT y_Main_film b_Main_film 5 (some .int)) rm_Main_film [.ref (ad 0), .int v1, .int v2, .int v3] s0 r τ := fun sz => m_start (Qc := fun A => QcI D cA ad shC A r τ) (by decide +kernel) w_905 (Nat.le_of_ble_eq_true rfl) (fun p e s m below meth c ls K hl hw => q_Main_film_0 K _ _ _ _ _ _ _  hw hl hF)

/-! Main.lotBehind(J)J -/
abbrev b_Main_lotBehind : ByteArray := prog_1_method_53_code
def y_Main_lotBehind : MethodName := ⟨R_Main, "lotBehind", "(J)J"⟩
theorem a_Main_lotBehind : y_Main_lotBehind.cls = R_Main ∧ y_Main_lotBehind.cls ≠ "java/lang/invoke/MethodHandle" ∧ y_Main_lotBehind.cls ≠ "java/lang/invoke/VarHandle" ∧ (parseMethodDescriptor y_Main_lotBehind.desc).map (fun d => d.parameters.length) = some 1 := by decide +kernel
abbrev rm_Main_lotBehind : Room := { frames := 0, cells := 0, slots := 0, locals := 0 }
theorem w_927 : Cond.constantLong R_Main 310 (48271) ∈ TB := tb_in 927 (by decide +kernel) (by decide +kernel)
theorem w_928 : Cond.constantLong R_Main 312 (2147483647) ∈ TB := tb_in 928 (by decide +kernel) (by decide +kernel)
theorem w_926 : Cond.code y_Main_lotBehind b_Main_lotBehind 2 (some .long) ∈ TB := tb_in 926 (by decide +kernel) (by decide +kernel)
theorem d_Main_lotBehind_0 : decode b_Main_lotBehind 0 = .ok (.lload_n 0, 1) := by decide +kernel
theorem d_Main_lotBehind_1 : decode b_Main_lotBehind 1 = .ok (.ldc2_w 310, 3) := by decide +kernel
theorem d_Main_lotBehind_4 : decode b_Main_lotBehind 4 = .ok (.lmul, 1) := by decide +kernel
theorem d_Main_lotBehind_5 : decode b_Main_lotBehind 5 = .ok (.ldc2_w 312, 3) := by decide +kernel
theorem d_Main_lotBehind_8 : decode b_Main_lotBehind 8 = .ok (.lrem, 1) := by decide +kernel
theorem d_Main_lotBehind_9 : decode b_Main_lotBehind 9 = .ok (.lreturn, 1) := by decide +kernel
section S_Main_lotBehind
variable {p : Program} {l : Launch} {e : Env} {s : State} {m : MethodId} {args : Array Value} {below : List Frame} {meth : Method} {c : Code} {D : va_G} {cA : Nat → ClassId} {ad : Nat → Nat} {A : Nat → Prop} {r : Int64} {τ : St}
def F_Main_lotBehind_0 (v0 : Int64) : Int64 := (jremL (v0 * (48271 : Int64)) (2147483647 : Int64))
set_option maxHeartbeats 4000000 in
set_option maxRecDepth 100000 in
theorem q_Main_lotBehind_0 (s0 : St) (K : Fx p s m args meth c b_Main_lotBehind 2 R_Main (some .long))  : ∀ (H : Heap) (locs : List Loc) (ls : Array Slot) (v0 : Int64), Wh D cA ad shC A s s0 H locs → lv_has ls 2 [(0, .long v0)] → F_Main_lotBehind_0 v0 = r → W p l e rm_Main_lotBehind s m args below meth c H locs 0 0 (MQ below (QcL D cA ad shC A r s0) args s 0 0 A) (F0 m 0 ls []) := by
  have hx := K.1.1; have hb := K.1.2.1
  intro H locs ls v0 hw hl hF
  unfold F_Main_lotBehind_0 at hF
  refine lv_lload_n hx hb d_Main_lotBehind_0 rfl (lv_at hl 0 rfl) ?_
  refine lv_ldc2 (v := 48271) hx hb K.1.2.2.2.1 (K.1.2.2.2.2 _ w_927) d_Main_lotBehind_1 ?_
  refine lv_lmul hx hb d_Main_lotBehind_4 ?_
  refine lv_ldc2 (v := 2147483647) hx hb K.1.2.2.2.1 (K.1.2.2.2.2 _ w_928) d_Main_lotBehind_5 ?_
  refine lv_lrem hx hb d_Main_lotBehind_8 (by decide) ?_
  subst hF
  exact r_lret K hw d_Main_lotBehind_9
end S_Main_lotBehind
abbrev F_Main_lotBehind := F_Main_lotBehind_0
theorem c_Main_lotBehind {l : Launch} {D : va_G} {cA : Nat → ClassId} {ad : Nat → Nat} {s0 : St} {r : Int64} {v0 : Int64}  (hF : F_Main_lotBehind v0 = r) : ML l D cA ad shC y_Main_lotBehind (wT y_Main_lotBehind b_Main_lotBehind 2 (some .long)) rm_Main_lotBehind [.long v0] s0 r s0 := fun sz => m_start (Qc := fun A => QcL D cA ad shC A r s0) (by decide +kernel) w_926 (Nat.le_of_ble_eq_true rfl) (fun p e s m below meth c ls K hl hw => q_Main_lotBehind_0 s0 K _ _ _ _  hw hl hF)

/-! Main.winnerDrawn(III)I -/
abbrev b_Main_winnerDrawn : ByteArray := prog_1_method_54_code
def y_Main_winnerDrawn : MethodName := ⟨R_Main, "winnerDrawn", "(III)I"⟩
theorem a_Main_winnerDrawn : y_Main_winnerDrawn.cls = R_Main ∧ y_Main_winnerDrawn.cls ≠ "java/lang/invoke/MethodHandle" ∧ y_Main_winnerDrawn.cls ≠ "java/lang/invoke/VarHandle" ∧ (parseMethodDescriptor y_Main_winnerDrawn.desc).map (fun d => d.parameters.length) = some 3 := by decide +kernel
abbrev rm_Main_winnerDrawn : Room := { frames := 5, cells := 0, slots := 0, locals := 116 }
theorem w_924 : Cond.methodLink R_Main 314 y_Main_lotBehind ∈ TB := tb_in 924 (by decide +kernel) (by decide +kernel)
theorem w_925 : Cond.static y_Main_lotBehind ∈ TB := tb_in 925 (by decide +kernel) (by decide +kernel)
theorem w_517 : Cond.fieldLink R_Main 318 R_Side "late" "I" ∈ TB := tb_in 517 (by decide +kernel) (by decide +kernel)
theorem w_929 : Cond.constantLong R_Main 319 (4) ∈ TB := tb_in 929 (by decide +kernel) (by decide +kernel)
theorem w_923 : Cond.code y_Main_winnerDrawn b_Main_winnerDrawn 8 (some .int) ∈ TB := tb_in 923 (by decide +kernel) (by decide +kernel)
theorem d_Main_winnerDrawn_0 : decode b_Main_winnerDrawn 0 = .ok (.iload_n 1, 1) := by decide +kernel
theorem d_Main_winnerDrawn_1 : decode b_Main_winnerDrawn 1 = .ok (.i2l, 1) := by decide +kernel
theorem d_Main_winnerDrawn_2 : decode b_Main_winnerDrawn 2 = .ok (.lconst 1, 1) := by decide +kernel
theorem d_Main_winnerDrawn_3 : decode b_Main_winnerDrawn 3 = .ok (.ladd, 1) := by decide +kernel
theorem d_Main_winnerDrawn_4 : decode b_Main_winnerDrawn 4 = .ok (.invokestatic 314, 3) := by decide +kernel
theorem d_Main_winnerDrawn_7 : decode b_Main_winnerDrawn 7 = .ok (.lstore 4, 2) := by decide +kernel
theorem d_Main_winnerDrawn_9 : decode b_Main_winnerDrawn 9 = .ok (.lload 4, 2) := by decide +kernel
theorem d_Main_winnerDrawn_11 : decode b_Main_winnerDrawn 11 = .ok (.invokestatic 314, 3) := by decide +kernel
theorem d_Main_winnerDrawn_14 : decode b_Main_winnerDrawn 14 = .ok (.lstore 6, 2) := by decide +kernel
theorem d_Main_winnerDrawn_16 : decode b_Main_winnerDrawn 16 = .ok (.aload_n 0, 1) := by decide +kernel
theorem d_Main_winnerDrawn_17 : decode b_Main_winnerDrawn 17 = .ok (.iload_n 2, 1) := by decide +kernel
theorem d_Main_winnerDrawn_18 : decode b_Main_winnerDrawn 18 = .ok (.iload_n 3, 1) := by decide +kernel
theorem d_Main_winnerDrawn_19 : decode b_Main_winnerDrawn 19 = .ok (.invokevirtual 174, 3) := by decide +kernel
theorem d_Main_winnerDrawn_22 : decode b_Main_winnerDrawn 22 = .ok (.aload_n 0, 1) := by decide +kernel
theorem d_Main_winnerDrawn_23 : decode b_Main_winnerDrawn 23 = .ok (.getfield 86, 3) := by decide +kernel
theorem d_Main_winnerDrawn_26 : decode b_Main_winnerDrawn 26 = .ok (.getfield 123, 3) := by decide +kernel
theorem d_Main_winnerDrawn_29 : decode b_Main_winnerDrawn 29 = .ok (.dup, 1) := by decide +kernel
theorem d_Main_winnerDrawn_30 : decode b_Main_winnerDrawn 30 = .ok (.getfield 318, 3) := by decide +kernel
theorem d_Main_winnerDrawn_33 : decode b_Main_winnerDrawn 33 = .ok (.lload 4, 2) := by decide +kernel
theorem d_Main_winnerDrawn_35 : decode b_Main_winnerDrawn 35 = .ok (.ldc2_w 319, 3) := by decide +kernel
theorem d_Main_winnerDrawn_38 : decode b_Main_winnerDrawn 38 = .ok (.lrem, 1) := by decide +kernel
theorem d_Main_winnerDrawn_39 : decode b_Main_winnerDrawn 39 = .ok (.l2i, 1) := by decide +kernel
theorem d_Main_winnerDrawn_40 : decode b_Main_winnerDrawn 40 = .ok (.iadd, 1) := by decide +kernel
theorem d_Main_winnerDrawn_41 : decode b_Main_winnerDrawn 41 = .ok (.putfield 318, 3) := by decide +kernel
theorem d_Main_winnerDrawn_44 : decode b_Main_winnerDrawn 44 = .ok (.aload_n 0, 1) := by decide +kernel
theorem d_Main_winnerDrawn_45 : decode b_Main_winnerDrawn 45 = .ok (.getfield 86, 3) := by decide +kernel
theorem d_Main_winnerDrawn_48 : decode b_Main_winnerDrawn 48 = .ok (.getfield 188, 3) := by decide +kernel
theorem d_Main_winnerDrawn_51 : decode b_Main_winnerDrawn 51 = .ok (.dup, 1) := by decide +kernel
theorem d_Main_winnerDrawn_52 : decode b_Main_winnerDrawn 52 = .ok (.getfield 318, 3) := by decide +kernel
theorem d_Main_winnerDrawn_55 : decode b_Main_winnerDrawn 55 = .ok (.lload 6, 2) := by decide +kernel
theorem d_Main_winnerDrawn_57 : decode b_Main_winnerDrawn 57 = .ok (.ldc2_w 319, 3) := by decide +kernel
theorem d_Main_winnerDrawn_60 : decode b_Main_winnerDrawn 60 = .ok (.lrem, 1) := by decide +kernel
theorem d_Main_winnerDrawn_61 : decode b_Main_winnerDrawn 61 = .ok (.l2i, 1) := by decide +kernel
theorem d_Main_winnerDrawn_62 : decode b_Main_winnerDrawn 62 = .ok (.iadd, 1) := by decide +kernel
theorem d_Main_winnerDrawn_63 : decode b_Main_winnerDrawn 63 = .ok (.putfield 318, 3) := by decide +kernel
theorem d_Main_winnerDrawn_66 : decode b_Main_winnerDrawn 66 = .ok (.aload_n 0, 1) := by decide +kernel
theorem d_Main_winnerDrawn_67 : decode b_Main_winnerDrawn 67 = .ok (.getfield 86, 3) := by decide +kernel
theorem d_Main_winnerDrawn_70 : decode b_Main_winnerDrawn 70 = .ok (.bipush 40, 2) := by decide +kernel
theorem d_Main_winnerDrawn_72 : decode b_Main_winnerDrawn 72 = .ok (.invokevirtual 182, 3) := by decide +kernel
theorem d_Main_winnerDrawn_75 : decode b_Main_winnerDrawn 75 = .ok (.aload_n 0, 1) := by decide +kernel
theorem d_Main_winnerDrawn_76 : decode b_Main_winnerDrawn 76 = .ok (.iload_n 2, 1) := by decide +kernel
theorem d_Main_winnerDrawn_77 : decode b_Main_winnerDrawn 77 = .ok (.iload_n 3, 1) := by decide +kernel
theorem d_Main_winnerDrawn_78 : decode b_Main_winnerDrawn 78 = .ok (.invokevirtual 198, 3) := by decide +kernel
theorem d_Main_winnerDrawn_81 : decode b_Main_winnerDrawn 81 = .ok (.ireturn, 1) := by decide +kernel
section S_Main_winnerDrawn
variable {p : Program} {l : Launch} {e : Env} {s : State} {m : MethodId} {args : Array Value} {below : List Frame} {meth : Method} {c : Code} {D : va_G} {cA : Nat → ClassId} {ad : Nat → Nat} {A : Nat → Prop} {r : Int32} {τ : St}
def F_Main_winnerDrawn_0 (s0 : St) (v1 : Int32) (v2 : Int32) (v3 : Int32) : Option (Int32 × St) := (lt ((F_Main_lotBehind ((v1.toInt64) + (1 : Int64)))) (fun w_1 => (ob1 (F_Main_opn s0 v2 v3) (fun s_2 => (lt (up1 s_2 12 3 ((s_2.1 12 3) + ((jremL w_1 (4 : Int64)).toInt32))) (fun s_3 => (lt (up1 s_3 14 3 ((s_3.1 14 3) + ((jremL (F_Main_lotBehind w_1) (4 : Int64)).toInt32))) (fun s_4 => (ob1 (F_Bout_playTo s_4 (40 : Int32)) (fun s_5 => (some ((F_Main_winner s_5 v2 v3), s_5))))))))))))
set_option maxHeartbeats 4000000 in
set_option maxRecDepth 100000 in
theorem q_Main_winnerDrawn_0 (K : Fx p s m args meth c b_Main_winnerDrawn 8 R_Main (some .int))  : ∀ (H : Heap) (locs : List Loc) (ls : Array Slot) (s0 : St) (v1 : Int32) (v2 : Int32) (v3 : Int32), Wh D cA ad shC A s s0 H locs → lv_has ls 8 [(0, .ref (ad 0)), (1, .int v1), (2, .int v2), (3, .int v3)] → F_Main_winnerDrawn_0 s0 v1 v2 v3 = (some (r, τ)) → W p l e rm_Main_winnerDrawn s m args below meth c H locs 0 0 (MQ below (QcI D cA ad shC A r τ) args s 0 0 A) (F0 m 0 ls []) := by
  have hx := K.1.1; have hb := K.1.2.1
  intro H locs ls s0 v1 v2 v3 hw hl hF
  unfold F_Main_winnerDrawn_0 at hF
  refine lv_iload_n hx hb d_Main_winnerDrawn_0 rfl (lv_at hl 1 rfl) ?_
  refine lv_i2l (v := v1.toInt64) hx hb d_Main_winnerDrawn_1 rfl ?_
  refine lv_lconst (v := 1) hx hb d_Main_winnerDrawn_2 (by decide) ?_
  refine lv_ladd hx hb d_Main_winnerDrawn_3 ?_
  refine r_callSL (As := [.long ((v1.toInt64) + (1 : Int64))]) (rest := []) K hw hl.1 (c_Main_lotBehind (l := l) (D := D) (cA := cA) (ad := ad) (s0 := s0)  rfl) (tb_gS w_924 w_925 w_63 w_926) a_Main_lotBehind ⟨rfl, rfl, Nat.le_of_ble_eq_true rfl, Nat.le_of_ble_eq_true rfl⟩ rfl rfl (Nat.le_of_ble_eq_true rfl) d_Main_winnerDrawn_4 (fun H locs hw => ?_)
  refine lv_topl (fun w_1 f_w_1 => ?_)
  replace hF := ltN hF f_w_1
  refine lv_lstore (lv' := [(4, .long w_1), (0, .ref (ad 0)), (1, .int v1), (2, .int v2), (3, .int v3)]) hx hb d_Main_winnerDrawn_7 hl (by decide) rfl (fun ls hl => ?_)
  refine lv_lload hx hb d_Main_winnerDrawn_9 (lv_at hl 0 rfl) ?_
  refine r_callSL (As := [.long w_1]) (rest := []) K hw hl.1 (c_Main_lotBehind (l := l) (D := D) (cA := cA) (ad := ad) (s0 := s0)  rfl) (tb_gS w_924 w_925 w_63 w_926) a_Main_lotBehind ⟨rfl, rfl, Nat.le_of_ble_eq_true rfl, Nat.le_of_ble_eq_true rfl⟩ rfl rfl (Nat.le_of_ble_eq_true rfl) d_Main_winnerDrawn_11 (fun H locs hw => ?_)
  refine lv_lstore (lv' := [(6, .long (F_Main_lotBehind w_1)), (4, .long w_1), (0, .ref (ad 0)), (1, .int v1), (2, .int v2), (3, .int v3)]) hx hb d_Main_winnerDrawn_14 hl (by decide) rfl (fun ls hl => ?_)
  refine lv_aload_n hx hb d_Main_winnerDrawn_16 rfl (lv_at hl 2 rfl) ?_
  refine lv_iload_n hx hb d_Main_winnerDrawn_17 rfl (lv_at hl 4 rfl) ?_
  refine lv_iload_n hx hb d_Main_winnerDrawn_18 rfl (lv_at hl 5 rfl) ?_
  obtain ⟨s_2, h_s_2, hF⟩ := ob1E hF
  refine r_callVV (As := [.int v2, .int v3]) (rest := []) K hw hl.1 (c_Main_opn (l := l) (D := D) (cA := cA) (ad := ad) (s0 := s0)  h_s_2) sh_Main rfl (tb_gV w_728 w_730 w_18 w_63 w_731) a_Main_opn ⟨rfl, rfl, Nat.le_of_ble_eq_true rfl, Nat.le_of_ble_eq_true rfl⟩ rfl rfl (Nat.le_of_ble_eq_true rfl) d_Main_winnerDrawn_19 (fun H locs hw => ?_)
  refine lv_aload_n hx hb d_Main_winnerDrawn_22 rfl (lv_at hl 2 rfl) ?_
  refine r_get (v := .ref (ad 11)) K hw i_Main sh_Main rfl 7 (by decide) w_605 rfl rfl rfl d_Main_winnerDrawn_23 ?_
  refine r_get (v := .ref (ad 12)) K hw i_Bout sh_Bout rfl 0 (by decide) w_532 rfl rfl rfl d_Main_winnerDrawn_26 ?_
  refine lv_dup hx hb d_Main_winnerDrawn_29 rfl ?_
  refine r_get (v := .int (s_2.1 12 3)) K hw i_Side (sh_Side (by decide)) rfl 3 (by decide) w_517 rfl rfl rfl d_Main_winnerDrawn_30 ?_
  refine lv_lload hx hb d_Main_winnerDrawn_33 (lv_at hl 1 rfl) ?_
  refine lv_ldc2 (v := 4) hx hb K.1.2.2.2.1 (K.1.2.2.2.2 _ w_929) d_Main_winnerDrawn_35 ?_
  refine lv_lrem hx hb d_Main_winnerDrawn_38 (by decide) ?_
  refine lv_l2i (v := (jremL w_1 (4 : Int64)).toInt32) hx hb d_Main_winnerDrawn_39 rfl ?_
  refine lv_iadd hx hb d_Main_winnerDrawn_40 ?_
  refine r_putI K hw i_Side t_Side t_Side_ok n_Side (sh_Side (by decide)) rfl 3 (by decide) w_517 rfl rfl rfl rfl rfl d_Main_winnerDrawn_41 (fun s_3 f_s_3 H locs hw => ?_)
  replace hF := ltN hF f_s_3
  refine lv_aload_n hx hb d_Main_winnerDrawn_44 rfl (lv_at hl 2 rfl) ?_
  refine r_get (v := .ref (ad 11)) K hw i_Main sh_Main rfl 7 (by decide) w_605 rfl rfl rfl d_Main_winnerDrawn_45 ?_
  refine r_get (v := .ref (ad 14)) K hw i_Bout sh_Bout rfl 1 (by decide) w_535 rfl rfl rfl d_Main_winnerDrawn_48 ?_
  refine lv_dup hx hb d_Main_winnerDrawn_51 rfl ?_
  refine r_get (v := .int (s_3.1 14 3)) K hw i_Side (sh_Side (by decide)) rfl 3 (by decide) w_517 rfl rfl rfl d_Main_winnerDrawn_52 ?_
  refine lv_lload hx hb d_Main_winnerDrawn_55 (lv_at hl 0 rfl) ?_
  refine lv_ldc2 (v := 4) hx hb K.1.2.2.2.1 (K.1.2.2.2.2 _ w_929) d_Main_winnerDrawn_57 ?_
  refine lv_lrem hx hb d_Main_winnerDrawn_60 (by decide) ?_
  refine lv_l2i (v := (jremL (F_Main_lotBehind w_1) (4 : Int64)).toInt32) hx hb d_Main_winnerDrawn_61 rfl ?_
  refine lv_iadd hx hb d_Main_winnerDrawn_62 ?_
  refine r_putI K hw i_Side t_Side t_Side_ok n_Side (sh_Side (by decide)) rfl 3 (by decide) w_517 rfl rfl rfl rfl rfl d_Main_winnerDrawn_63 (fun s_4 f_s_4 H locs hw => ?_)
  replace hF := ltN hF f_s_4
  refine lv_aload_n hx hb d_Main_winnerDrawn_66 rfl (lv_at hl 2 rfl) ?_
  refine r_get (v := .ref (ad 11)) K hw i_Main sh_Main rfl 7 (by decide) w_605 rfl rfl rfl d_Main_winnerDrawn_67 ?_
  refine lv_bipush (v := 40) hx hb d_Main_winnerDrawn_70 (by decide) ?_
  obtain ⟨s_5, h_s_5, hF⟩ := ob1E hF
  refine r_callVV (As := [.int (40 : Int32)]) (rest := []) K hw hl.1 (c_Bout_playTo (l := l) (D := D) (cA := cA) (ad := ad) (s0 := s_4)  h_s_5) sh_Bout rfl (tb_gV w_737 w_738 w_739 w_77 w_740) a_Bout_playTo ⟨rfl, rfl, Nat.le_of_ble_eq_true rfl, Nat.le_of_ble_eq_true rfl⟩ rfl rfl (Nat.le_of_ble_eq_true rfl) d_Main_winnerDrawn_72 (fun H locs hw => ?_)
  refine lv_aload_n hx hb d_Main_winnerDrawn_75 rfl (lv_at hl 2 rfl) ?_
  refine lv_iload_n hx hb d_Main_winnerDrawn_76 rfl (lv_at hl 4 rfl) ?_
  refine lv_iload_n hx hb d_Main_winnerDrawn_77 rfl (lv_at hl 5 rfl) ?_
  refine r_callVI (As := [.int v2, .int v3]) (rest := []) K hw hl.1 (c_Main_winner (l := l) (D := D) (cA := cA) (ad := ad) (s0 := s_5)  rfl) sh_Main rfl (tb_gV w_776 w_778 w_19 w_63 w_779) a_Main_winner ⟨rfl, rfl, Nat.le_of_ble_eq_true rfl, Nat.le_of_ble_eq_true rfl⟩ rfl rfl (Nat.le_of_ble_eq_true rfl) d_Main_winnerDrawn_78 (fun H locs hw => ?_)
  obtain ⟨hF, hG⟩ := sE2 hF
  subst hF
  subst hG
  exact r_iret K hw d_Main_winnerDrawn_81
end S_Main_winnerDrawn
abbrev F_Main_winnerDrawn := F_Main_winnerDrawn_0
theorem c_Main_winnerDrawn {l : Launch} {D : va_G} {cA : Nat → ClassId} {ad : Nat → Nat} {s0 τ : St} {r : Int32} {v1 : Int32} {v2 : Int32} {v3 : Int32}  (hF : F_Main_winnerDrawn s0 v1 v2 v3 = (some (r, τ))) : MI l D cA ad shC y_Main_winnerDrawn (wT y_Main_winnerDrawn b_Main_winnerDrawn 8 (some .int)) rm_Main_winnerDrawn [.ref (ad 0), .int v1, .int v2, .int v3] s0 r τ := fun sz => m_start (Qc := fun A => QcI D cA ad shC A r τ) (by decide +kernel) w_923 (Nat.le_of_ble_eq_true rfl) (fun p e s m below meth c ls K hl hw => q_Main_winnerDrawn_0 K _ _ _ _ _ _ _  hw hl hF)

/-! Main.drawn(III)I -/
abbrev b_Main_drawn : ByteArray := prog_1_method_26_code
def y_Main_drawn : MethodName := ⟨R_Main, "drawn", "(III)I"⟩
theorem a_Main_drawn : y_Main_drawn.cls = R_Main ∧ y_Main_drawn.cls ≠ "java/lang/invoke/MethodHandle" ∧ y_Main_drawn.cls ≠ "java/lang/invoke/VarHandle" ∧ (parseMethodDescriptor y_Main_drawn.desc).map (fun d => d.parameters.length) = some 3 := by decide +kernel
abbrev rm_Main_drawn : Room := { frames := 6, cells := 0, slots := 0, locals := 143 }
theorem w_919 : Cond.constant R_Main 264 99999 ∈ TB := tb_in 919 (by decide +kernel) (by decide +kernel)
theorem w_920 : Cond.methodLink R_Main 265 y_Main_winnerDrawn ∈ TB := tb_in 920 (by decide +kernel) (by decide +kernel)
theorem w_922 : Cond.instanceMethod y_Main_winnerDrawn ∈ TB := tb_in 922 (by decide +kernel) (by decide +kernel)
theorem w_29 : Cond.selects R_Main y_Main_winnerDrawn y_Main_winnerDrawn ∈ TB := tb_in 29 (by decide +kernel) (by decide +kernel)
theorem w_918 : Cond.code y_Main_drawn b_Main_drawn 4 (some .int) ∈ TB := tb_in 918 (by decide +kernel) (by decide +kernel)
theorem d_Main_drawn_0 : decode b_Main_drawn 0 = .ok (.aload_n 0, 1) := by decide +kernel
theorem d_Main_drawn_1 : decode b_Main_drawn 1 = .ok (.iload_n 2, 1) := by decide +kernel
theorem d_Main_drawn_2 : decode b_Main_drawn 2 = .ok (.iload_n 3, 1) := by decide +kernel
theorem d_Main_drawn_3 : decode b_Main_drawn 3 = .ok (.invokevirtual 194, 3) := by decide +kernel
theorem d_Main_drawn_6 : decode b_Main_drawn 6 = .ok (.ifCond .ne 6, 3) := by decide +kernel
theorem d_Main_drawn_9 : decode b_Main_drawn 9 = .ok (.bipush (-5), 2) := by decide +kernel
theorem d_Main_drawn_11 : decode b_Main_drawn 11 = .ok (.ireturn, 1) := by decide +kernel
theorem d_Main_drawn_12 : decode b_Main_drawn 12 = .ok (.iload_n 1, 1) := by decide +kernel
theorem d_Main_drawn_13 : decode b_Main_drawn 13 = .ok (.iconst 0, 1) := by decide +kernel
theorem d_Main_drawn_14 : decode b_Main_drawn 14 = .ok (.ldc_w 264, 3) := by decide +kernel
theorem d_Main_drawn_17 : decode b_Main_drawn 17 = .ok (.invokestatic 108, 3) := by decide +kernel
theorem d_Main_drawn_20 : decode b_Main_drawn 20 = .ok (.ifCond .ne 6, 3) := by decide +kernel
theorem d_Main_drawn_23 : decode b_Main_drawn 23 = .ok (.bipush (-7), 2) := by decide +kernel
theorem d_Main_drawn_25 : decode b_Main_drawn 25 = .ok (.ireturn, 1) := by decide +kernel
theorem d_Main_drawn_26 : decode b_Main_drawn 26 = .ok (.aload_n 0, 1) := by decide +kernel
theorem d_Main_drawn_27 : decode b_Main_drawn 27 = .ok (.iload_n 1, 1) := by decide +kernel
theorem d_Main_drawn_28 : decode b_Main_drawn 28 = .ok (.iload_n 2, 1) := by decide +kernel
theorem d_Main_drawn_29 : decode b_Main_drawn 29 = .ok (.iload_n 3, 1) := by decide +kernel
theorem d_Main_drawn_30 : decode b_Main_drawn 30 = .ok (.invokevirtual 265, 3) := by decide +kernel
theorem d_Main_drawn_33 : decode b_Main_drawn 33 = .ok (.ireturn, 1) := by decide +kernel
section S_Main_drawn
variable {p : Program} {l : Launch} {e : Env} {s : State} {m : MethodId} {args : Array Value} {below : List Frame} {meth : Method} {c : Code} {D : va_G} {cA : Nat → ClassId} {ad : Nat → Nat} {A : Nat → Prop} {r : Int32} {τ : St}
def F_Main_drawn_0 (s0 : St) (v1 : Int32) (v2 : Int32) (v3 : Int32) : Option (Int32 × St) := (ob1 (F_Main_areTwo s0 v2 v3) (fun r_1 => (if ¬ r_1 = 0 then (if ¬ (F_Main_isWithin v1 (0 : Int32) (99999 : Int32)) = 0 then (ob2 (F_Main_winnerDrawn s0 v1 v2 v3) (fun r_4 s_5 => (some (r_4, s_5)))) else (some ((-7 : Int32), s0))) else (some ((-5 : Int32), s0)))))
set_option maxHeartbeats 4000000 in
set_option maxRecDepth 100000 in
theorem q_Main_drawn_0 (K : Fx p s m args meth c b_Main_drawn 4 R_Main (some .int))  : ∀ (H : Heap) (locs : List Loc) (ls : Array Slot) (s0 : St) (v1 : Int32) (v2 : Int32) (v3 : Int32), Wh D cA ad shC A s s0 H locs → lv_has ls 4 [(0, .ref (ad 0)), (1, .int v1), (2, .int v2), (3, .int v3)] → F_Main_drawn_0 s0 v1 v2 v3 = (some (r, τ)) → W p l e rm_Main_drawn s m args below meth c H locs 0 0 (MQ below (QcI D cA ad shC A r τ) args s 0 0 A) (F0 m 0 ls []) := by
  have hx := K.1.1; have hb := K.1.2.1
  intro H locs ls s0 v1 v2 v3 hw hl hF
  unfold F_Main_drawn_0 at hF
  refine lv_aload_n hx hb d_Main_drawn_0 rfl (lv_at hl 0 rfl) ?_
  refine lv_iload_n hx hb d_Main_drawn_1 rfl (lv_at hl 2 rfl) ?_
  refine lv_iload_n hx hb d_Main_drawn_2 rfl (lv_at hl 3 rfl) ?_
  obtain ⟨r_1, h_r_1, hF⟩ := ob1E hF
  refine r_callVI (As := [.int v2, .int v3]) (rest := []) K hw hl.1 (c_Main_areTwo (l := l) (D := D) (cA := cA) (ad := ad) (s0 := s0)  h_r_1) sh_Main rfl (tb_gV w_724 w_726 w_17 w_63 w_727) a_Main_areTwo ⟨rfl, rfl, Nat.le_of_ble_eq_true rfl, Nat.le_of_ble_eq_true rfl⟩ rfl rfl (Nat.le_of_ble_eq_true rfl) d_Main_drawn_3 (fun H locs hw => ?_)
  refine lv_if_ne (tgt := 12) hx hb d_Main_drawn_6 (by decide) (fun c_2 => ?_) (fun c_2 => ?_)
  · replace hF := ifT hF c_2
    refine lv_iload_n hx hb d_Main_drawn_12 rfl (lv_at hl 1 rfl) ?_
    refine lv_iconst (v := 0) hx hb d_Main_drawn_13 (by decide) ?_
    refine lv_ldcw (v := 99999) hx hb K.1.2.2.2.1 (K.1.2.2.2.2 _ w_919) d_Main_drawn_14 ?_
    refine r_callSI (As := [.int v1, .int (0 : Int32), .int (99999 : Int32)]) (rest := []) K hw hl.1 (c_Main_isWithin (l := l) (D := D) (cA := cA) (ad := ad) (s0 := s0)  rfl) (tb_gS w_640 w_347 w_63 w_348) a_Main_isWithin ⟨rfl, rfl, Nat.le_of_ble_eq_true rfl, Nat.le_of_ble_eq_true rfl⟩ rfl rfl (Nat.le_of_ble_eq_true rfl) d_Main_drawn_17 (fun H locs hw => ?_)
    refine lv_if_ne (tgt := 26) hx hb d_Main_drawn_20 (by decide) (fun c_3 => ?_) (fun c_3 => ?_)
    · replace hF := ifT hF c_3
      refine lv_aload_n hx hb d_Main_drawn_26 rfl (lv_at hl 0 rfl) ?_
      refine lv_iload_n hx hb d_Main_drawn_27 rfl (lv_at hl 1 rfl) ?_
      refine lv_iload_n hx hb d_Main_drawn_28 rfl (lv_at hl 2 rfl) ?_
      refine lv_iload_n hx hb d_Main_drawn_29 rfl (lv_at hl 3 rfl) ?_
      obtain ⟨r_4, s_5, h_s_5, hF⟩ := ob2E hF
      refine r_callVI (As := [.int v1, .int v2, .int v3]) (rest := []) K hw hl.1 (c_Main_winnerDrawn (l := l) (D := D) (cA := cA) (ad := ad) (s0 := s0)  h_s_5) sh_Main rfl (tb_gV w_920 w_922 w_29 w_63 w_923) a_Main_winnerDrawn ⟨rfl, rfl, Nat.le_of_ble_eq_true rfl, Nat.le_of_ble_eq_true rfl⟩ rfl rfl (Nat.le_of_ble_eq_true rfl) d_Main_drawn_30 (fun H locs hw => ?_)
      obtain ⟨hF, hG⟩ := sE2 hF
      subst hF
      subst hG
      exact r_iret K hw d_Main_drawn_33
    · replace hF := ifN hF c_3
      refine lv_bipush (v := -7) hx hb d_Main_drawn_23 (by decide) ?_
      obtain ⟨hF, hG⟩ := sE2 hF
      subst hF
      subst hG
      exact r_iret K hw d_Main_drawn_25
  · replace hF := ifN hF c_2
    refine lv_bipush (v := -5) hx hb d_Main_drawn_9 (by decide) ?_
    obtain ⟨hF, hG⟩ := sE2 hF
    subst hF
    subst hG
    exact r_iret K hw d_Main_drawn_11
end S_Main_drawn
abbrev F_Main_drawn := F_Main_drawn_0
theorem c_Main_drawn {l : Launch} {D : va_G} {cA : Nat → ClassId} {ad : Nat → Nat} {s0 τ : St} {r : Int32} {v1 : Int32} {v2 : Int32} {v3 : Int32}  (hF : F_Main_drawn s0 v1 v2 v3 = (some (r, τ))) : MI l D cA ad shC y_Main_drawn (wT y_Main_drawn b_Main_drawn 4 (some .int)) rm_Main_drawn [.ref (ad 0), .int v1, .int v2, .int v3] s0 r τ := fun sz => m_start (Qc := fun A => QcI D cA ad shC A r τ) (by decide +kernel) w_918 (Nat.le_of_ble_eq_true rfl) (fun p e s m below meth c ls K hl hw => q_Main_drawn_0 K _ _ _ _ _ _ _  hw hl hF)

/-! Main.odds(IIII)J -/
abbrev b_Main_odds : ByteArray := prog_1_method_27_code
def y_Main_odds : MethodName := ⟨R_Main, "odds", "(IIII)J"⟩
theorem a_Main_odds : y_Main_odds.cls = R_Main ∧ y_Main_odds.cls ≠ "java/lang/invoke/MethodHandle" ∧ y_Main_odds.cls ≠ "java/lang/invoke/VarHandle" ∧ (parseMethodDescriptor y_Main_odds.desc).map (fun d => d.parameters.length) = some 4 := by decide +kernel
abbrev rm_Main_odds : Room := { frames := 6, cells := 0, slots := 0, locals := 143 }
theorem w_934 : Cond.constantLong R_Main 268 (-4611686018427387904) ∈ TB := tb_in 934 (by decide +kernel) (by decide +kernel)
theorem w_933 : Cond.code y_Main_odds b_Main_odds 9 (some .long) ∈ TB := tb_in 933 (by decide +kernel) (by decide +kernel)
theorem d_Main_odds_0 : decode b_Main_odds 0 = .ok (.iload_n 1, 1) := by decide +kernel
theorem d_Main_odds_1 : decode b_Main_odds 1 = .ok (.iconst 0, 1) := by decide +kernel
theorem d_Main_odds_2 : decode b_Main_odds 2 = .ok (.ldc_w 264, 3) := by decide +kernel
theorem d_Main_odds_5 : decode b_Main_odds 5 = .ok (.invokestatic 108, 3) := by decide +kernel
theorem d_Main_odds_8 : decode b_Main_odds 8 = .ok (.ifCond .eq 13, 3) := by decide +kernel
theorem d_Main_odds_11 : decode b_Main_odds 11 = .ok (.iload_n 2, 1) := by decide +kernel
theorem d_Main_odds_12 : decode b_Main_odds 12 = .ok (.iconst 1, 1) := by decide +kernel
theorem d_Main_odds_13 : decode b_Main_odds 13 = .ok (.bipush 30, 2) := by decide +kernel
theorem d_Main_odds_15 : decode b_Main_odds 15 = .ok (.invokestatic 108, 3) := by decide +kernel
theorem d_Main_odds_18 : decode b_Main_odds 18 = .ok (.ifCond .ne 7, 3) := by decide +kernel
theorem d_Main_odds_21 : decode b_Main_odds 21 = .ok (.ldc2_w 268, 3) := by decide +kernel
theorem d_Main_odds_24 : decode b_Main_odds 24 = .ok (.lreturn, 1) := by decide +kernel
theorem d_Main_odds_25 : decode b_Main_odds 25 = .ok (.aload_n 0, 1) := by decide +kernel
theorem d_Main_odds_26 : decode b_Main_odds 26 = .ok (.iload_n 3, 1) := by decide +kernel
theorem d_Main_odds_27 : decode b_Main_odds 27 = .ok (.invokevirtual 171, 3) := by decide +kernel
theorem d_Main_odds_30 : decode b_Main_odds 30 = .ok (.ifCond .eq 13, 3) := by decide +kernel
theorem d_Main_odds_33 : decode b_Main_odds 33 = .ok (.iload 4, 2) := by decide +kernel
theorem d_Main_odds_35 : decode b_Main_odds 35 = .ok (.iconst 0, 1) := by decide +kernel
theorem d_Main_odds_36 : decode b_Main_odds 36 = .ok (.iconst 1, 1) := by decide +kernel
theorem d_Main_odds_37 : decode b_Main_odds 37 = .ok (.invokestatic 108, 3) := by decide +kernel
theorem d_Main_odds_40 : decode b_Main_odds 40 = .ok (.ifCond .ne 7, 3) := by decide +kernel
theorem d_Main_odds_43 : decode b_Main_odds 43 = .ok (.ldc2_w 268, 3) := by decide +kernel
theorem d_Main_odds_46 : decode b_Main_odds 46 = .ok (.lreturn, 1) := by decide +kernel
theorem d_Main_odds_47 : decode b_Main_odds 47 = .ok (.iload_n 3, 1) := by decide +kernel
theorem d_Main_odds_48 : decode b_Main_odds 48 = .ok (.bipush 10, 2) := by decide +kernel
theorem d_Main_odds_50 : decode b_Main_odds 50 = .ok (.idiv, 1) := by decide +kernel
theorem d_Main_odds_51 : decode b_Main_odds 51 = .ok (.istore 5, 2) := by decide +kernel
theorem d_Main_odds_53 : decode b_Main_odds 53 = .ok (.iconst 0, 1) := by decide +kernel
theorem d_Main_odds_54 : decode b_Main_odds 54 = .ok (.istore 6, 2) := by decide +kernel
theorem d_Main_odds_56 : decode b_Main_odds 56 = .ok (.iconst 0, 1) := by decide +kernel
theorem d_Main_odds_57 : decode b_Main_odds 57 = .ok (.istore 7, 2) := by decide +kernel
theorem d_Main_odds_59 : decode b_Main_odds 59 = .ok (.iload 7, 2) := by decide +kernel
theorem d_Main_odds_61 : decode b_Main_odds 61 = .ok (.iload_n 2, 1) := by decide +kernel
theorem d_Main_odds_62 : decode b_Main_odds 62 = .ok (.if_icmp .ge 31, 3) := by decide +kernel
theorem d_Main_odds_65 : decode b_Main_odds 65 = .ok (.aload_n 0, 1) := by decide +kernel
theorem d_Main_odds_66 : decode b_Main_odds 66 = .ok (.iload_n 1, 1) := by decide +kernel
theorem d_Main_odds_67 : decode b_Main_odds 67 = .ok (.iload 7, 2) := by decide +kernel
theorem d_Main_odds_69 : decode b_Main_odds 69 = .ok (.iadd, 1) := by decide +kernel
theorem d_Main_odds_70 : decode b_Main_odds 70 = .ok (.iload 5, 2) := by decide +kernel
theorem d_Main_odds_72 : decode b_Main_odds 72 = .ok (.iload_n 3, 1) := by decide +kernel
theorem d_Main_odds_73 : decode b_Main_odds 73 = .ok (.bipush 10, 2) := by decide +kernel
theorem d_Main_odds_75 : decode b_Main_odds 75 = .ok (.irem, 1) := by decide +kernel
theorem d_Main_odds_76 : decode b_Main_odds 76 = .ok (.invokevirtual 265, 3) := by decide +kernel
theorem d_Main_odds_79 : decode b_Main_odds 79 = .ok (.iload 5, 2) := by decide +kernel
theorem d_Main_odds_81 : decode b_Main_odds 81 = .ok (.if_icmp .ne 6, 3) := by decide +kernel
theorem d_Main_odds_84 : decode b_Main_odds 84 = .ok (.iinc 6 1, 3) := by decide +kernel
theorem d_Main_odds_87 : decode b_Main_odds 87 = .ok (.iinc 7 1, 3) := by decide +kernel
theorem d_Main_odds_90 : decode b_Main_odds 90 = .ok (.goto (-31), 3) := by decide +kernel
theorem d_Main_odds_93 : decode b_Main_odds 93 = .ok (.iconst 1, 1) := by decide +kernel
theorem d_Main_odds_94 : decode b_Main_odds 94 = .ok (.istore 7, 2) := by decide +kernel
theorem d_Main_odds_96 : decode b_Main_odds 96 = .ok (.iconst 2, 1) := by decide +kernel
theorem d_Main_odds_97 : decode b_Main_odds 97 = .ok (.istore 8, 2) := by decide +kernel
theorem d_Main_odds_99 : decode b_Main_odds 99 = .ok (.iload 8, 2) := by decide +kernel
theorem d_Main_odds_101 : decode b_Main_odds 101 = .ok (.iload_n 2, 1) := by decide +kernel
theorem d_Main_odds_102 : decode b_Main_odds 102 = .ok (.if_icmp .gt 28, 3) := by decide +kernel
theorem d_Main_odds_105 : decode b_Main_odds 105 = .ok (.iload 6, 2) := by decide +kernel
theorem d_Main_odds_107 : decode b_Main_odds 107 = .ok (.iload 8, 2) := by decide +kernel
theorem d_Main_odds_109 : decode b_Main_odds 109 = .ok (.irem, 1) := by decide +kernel
theorem d_Main_odds_110 : decode b_Main_odds 110 = .ok (.ifCond .ne 14, 3) := by decide +kernel
theorem d_Main_odds_113 : decode b_Main_odds 113 = .ok (.iload_n 2, 1) := by decide +kernel
theorem d_Main_odds_114 : decode b_Main_odds 114 = .ok (.iload 8, 2) := by decide +kernel
theorem d_Main_odds_116 : decode b_Main_odds 116 = .ok (.irem, 1) := by decide +kernel
theorem d_Main_odds_117 : decode b_Main_odds 117 = .ok (.ifCond .ne 7, 3) := by decide +kernel
theorem d_Main_odds_120 : decode b_Main_odds 120 = .ok (.iload 8, 2) := by decide +kernel
theorem d_Main_odds_122 : decode b_Main_odds 122 = .ok (.istore 7, 2) := by decide +kernel
theorem d_Main_odds_124 : decode b_Main_odds 124 = .ok (.iinc 8 1, 3) := by decide +kernel
theorem d_Main_odds_127 : decode b_Main_odds 127 = .ok (.goto (-28), 3) := by decide +kernel
theorem d_Main_odds_130 : decode b_Main_odds 130 = .ok (.iload 4, 2) := by decide +kernel
theorem d_Main_odds_132 : decode b_Main_odds 132 = .ok (.ifCond .ne 12, 3) := by decide +kernel
theorem d_Main_odds_135 : decode b_Main_odds 135 = .ok (.iload 6, 2) := by decide +kernel
theorem d_Main_odds_137 : decode b_Main_odds 137 = .ok (.iload 7, 2) := by decide +kernel
theorem d_Main_odds_139 : decode b_Main_odds 139 = .ok (.idiv, 1) := by decide +kernel
theorem d_Main_odds_140 : decode b_Main_odds 140 = .ok (.i2l, 1) := by decide +kernel
theorem d_Main_odds_141 : decode b_Main_odds 141 = .ok (.goto 8, 3) := by decide +kernel
theorem d_Main_odds_144 : decode b_Main_odds 144 = .ok (.iload_n 2, 1) := by decide +kernel
theorem d_Main_odds_145 : decode b_Main_odds 145 = .ok (.iload 7, 2) := by decide +kernel
theorem d_Main_odds_147 : decode b_Main_odds 147 = .ok (.idiv, 1) := by decide +kernel
theorem d_Main_odds_148 : decode b_Main_odds 148 = .ok (.i2l, 1) := by decide +kernel
theorem d_Main_odds_149 : decode b_Main_odds 149 = .ok (.lreturn, 1) := by decide +kernel
section S_Main_odds
variable {p : Program} {l : Launch} {e : Env} {s : State} {m : MethodId} {args : Array Value} {below : List Frame} {meth : Method} {c : Code} {D : va_G} {cA : Nat → ClassId} {ad : Nat → Nat} {A : Nat → Prop} {r : Int64} {τ : St}
def F_Main_odds_21 (s0 : St) : Option (Int64 × St) := (some ((-4611686018427387904 : Int64), s0))
set_option maxHeartbeats 4000000 in
set_option maxRecDepth 100000 in
theorem q_Main_odds_21 (K : Fx p s m args meth c b_Main_odds 9 R_Main (some .long))  : ∀ (H : Heap) (locs : List Loc) (ls : Array Slot) (s0 : St), Wh D cA ad shC A s s0 H locs → lv_has ls 9 [] → F_Main_odds_21 s0 = (some (r, τ)) → W p l e rm_Main_odds s m args below meth c H locs 0 0 (MQ below (QcL D cA ad shC A r τ) args s 0 0 A) (F0 m 21 ls []) := by
  have hx := K.1.1; have hb := K.1.2.1
  intro H locs ls s0 hw hl hF
  unfold F_Main_odds_21 at hF
  refine lv_ldc2 (v := -4611686018427387904) hx hb K.1.2.2.2.1 (K.1.2.2.2.2 _ w_934) d_Main_odds_21 ?_
  obtain ⟨hF, hG⟩ := sE2 hF
  subst hF
  subst hG
  exact r_lret K hw d_Main_odds_24
def F_Main_odds_43 (s0 : St) : Option (Int64 × St) := (some ((-4611686018427387904 : Int64), s0))
set_option maxHeartbeats 4000000 in
set_option maxRecDepth 100000 in
theorem q_Main_odds_43 (K : Fx p s m args meth c b_Main_odds 9 R_Main (some .long))  : ∀ (H : Heap) (locs : List Loc) (ls : Array Slot) (s0 : St), Wh D cA ad shC A s s0 H locs → lv_has ls 9 [] → F_Main_odds_43 s0 = (some (r, τ)) → W p l e rm_Main_odds s m args below meth c H locs 0 0 (MQ below (QcL D cA ad shC A r τ) args s 0 0 A) (F0 m 43 ls []) := by
  have hx := K.1.1; have hb := K.1.2.1
  intro H locs ls s0 hw hl hF
  unfold F_Main_odds_43 at hF
  refine lv_ldc2 (v := -4611686018427387904) hx hb K.1.2.2.2.1 (K.1.2.2.2.2 _ w_934) d_Main_odds_43 ?_
  obtain ⟨hF, hG⟩ := sE2 hF
  subst hF
  subst hG
  exact r_lret K hw d_Main_odds_46
def F_Main_odds_124 (k52 : (St → Int32 → Int32 → Int32 → Int32 → Int32 → Option (Int64 × St))) (s0 : St) (v2 : Int32) (v4 : Int32) (v6 : Int32) (v7 : Int32) (v8 : Int32) : Option (Int64 × St) := (k52 s0 v2 v4 v6 v7 (v8 + 1))
set_option maxHeartbeats 4000000 in
set_option maxRecDepth 100000 in
theorem q_Main_odds_124 (K : Fx p s m args meth c b_Main_odds 9 R_Main (some .long)) (k52 : (St → Int32 → Int32 → Int32 → Int32 → Int32 → Option (Int64 × St))) (hk52 : ∀ (H : Heap) (locs : List Loc) (ls : Array Slot) (s0 : St) (v2 : Int32) (v4 : Int32) (v6 : Int32) (v7 : Int32) (v8 : Int32), Wh D cA ad shC A s s0 H locs → lv_has ls 9 [(2, .int v2), (4, .int v4), (6, .int v6), (7, .int v7), (8, .int v8)] → k52 s0 v2 v4 v6 v7 v8 = (some (r, τ)) → W p l e rm_Main_odds s m args below meth c H locs 0 0 (MQ below (QcL D cA ad shC A r τ) args s 0 0 A) (F0 m 99 ls [])) : ∀ (H : Heap) (locs : List Loc) (ls : Array Slot) (s0 : St) (v2 : Int32) (v4 : Int32) (v6 : Int32) (v7 : Int32) (v8 : Int32), Wh D cA ad shC A s s0 H locs → lv_has ls 9 [(2, .int v2), (4, .int v4), (6, .int v6), (7, .int v7), (8, .int v8)] → F_Main_odds_124 k52 s0 v2 v4 v6 v7 v8 = (some (r, τ)) → W p l e rm_Main_odds s m args below meth c H locs 0 0 (MQ below (QcL D cA ad shC A r τ) args s 0 0 A) (F0 m 124 ls []) := by
  have hx := K.1.1; have hb := K.1.2.1
  intro H locs ls s0 v2 v4 v6 v7 v8 hw hl hF
  unfold F_Main_odds_124 at hF
  refine lv_iinc (v := (v8 + 1)) (lv' := [(8, .int (v8 + 1)), (2, .int v2), (4, .int v4), (6, .int v6), (7, .int v7)]) hx hb d_Main_odds_124 hl (k := 4) rfl rfl (by decide) rfl (fun ls hl => ?_)
  refine lv_goto (tgt := 99) hx hb d_Main_odds_127 (by decide) ?_
  exact hk52 _ _ _ _ _ _ _ _ _  hw (lv_sub hl [1, 2, 3, 4, 0] rfl) hF
def F_Main_odds_99 : Nat → St → Int32 → Int32 → Int32 → Int32 → Int32 → Option (Int64 × St)
  | 0, _, _, _, _, _, _ => none
  | n + 1, s0, v2, v4, v6, v7, v8 => (if v2 < v8 then (if ¬ v4 = 0 then (if ¬ v7 = 0 then (some (((v2 / v7).toInt64), s0)) else none) else (if ¬ v7 = 0 then (some (((v6 / v7).toInt64), s0)) else none)) else (if ¬ v8 = 0 then (if ¬ (jrem v6 v8) = 0 then (F_Main_odds_124 (fun z0 zv2 zv4 zv6 zv7 zv8 => F_Main_odds_99 n z0 zv2 zv4 zv6 zv7 zv8) s0 v2 v4 v6 v7 v8) else (if ¬ v8 = 0 then (if ¬ (jrem v2 v8) = 0 then (F_Main_odds_124 (fun z0 zv2 zv4 zv6 zv7 zv8 => F_Main_odds_99 n z0 zv2 zv4 zv6 zv7 zv8) s0 v2 v4 v6 v7 v8) else (F_Main_odds_124 (fun z0 zv2 zv4 zv6 zv7 zv8 => F_Main_odds_99 n z0 zv2 zv4 zv6 zv7 zv8) s0 v2 v4 v6 v8 v8)) else none)) else none))
set_option maxHeartbeats 4000000 in
set_option maxRecDepth 100000 in
theorem q_Main_odds_99 (K : Fx p s m args meth c b_Main_odds 9 R_Main (some .long))  : ∀ (n : Nat), ∀ (H : Heap) (locs : List Loc) (ls : Array Slot) (s0 : St) (v2 : Int32) (v4 : Int32) (v6 : Int32) (v7 : Int32) (v8 : Int32), Wh D cA ad shC A s s0 H locs → lv_has ls 9 [(2, .int v2), (4, .int v4), (6, .int v6), (7, .int v7), (8, .int v8)] → F_Main_odds_99 n s0 v2 v4 v6 v7 v8 = (some (r, τ)) → W p l e rm_Main_odds s m args below meth c H locs 0 0 (MQ below (QcL D cA ad shC A r τ) args s 0 0 A) (F0 m 99 ls []) := by
  have hx := K.1.1; have hb := K.1.2.1
  intro n
  induction n with
  | zero =>
    intro H locs ls s0 v2 v4 v6 v7 v8 hw hl hF
    exact absurd hF (by rw [F_Main_odds_99]; exact nofun)
  | succ n ih =>
    intro H locs ls s0 v2 v4 v6 v7 v8 hw hl hF
    rw [F_Main_odds_99] at hF
    refine lv_iload hx hb d_Main_odds_99 (lv_at hl 4 rfl) ?_
    refine lv_iload_n hx hb d_Main_odds_101 rfl (lv_at hl 0 rfl) ?_
    refine lv_icmp_gt (tgt := 130) hx hb d_Main_odds_102 (by decide) (fun c_7 => ?_) (fun c_7 => ?_)
    · replace hF := ifT hF c_7
      refine lv_iload hx hb d_Main_odds_130 (lv_at hl 1 rfl) ?_
      refine lv_if_ne (tgt := 144) hx hb d_Main_odds_132 (by decide) (fun c_8 => ?_) (fun c_8 => ?_)
      · replace hF := ifT hF c_8
        refine lv_iload_n hx hb d_Main_odds_144 rfl (lv_at hl 0 rfl) ?_
        refine lv_iload hx hb d_Main_odds_145 (lv_at hl 3 rfl) ?_
        obtain ⟨g_9, hF⟩ := ifG hF
        refine lv_idiv hx hb d_Main_odds_147 g_9 ?_
        refine lv_i2l (v := (v2 / v7).toInt64) hx hb d_Main_odds_148 rfl ?_
        obtain ⟨hF, hG⟩ := sE2 hF
        subst hF
        subst hG
        exact r_lret K hw d_Main_odds_149
      · replace hF := ifN hF c_8
        refine lv_iload hx hb d_Main_odds_135 (lv_at hl 2 rfl) ?_
        refine lv_iload hx hb d_Main_odds_137 (lv_at hl 3 rfl) ?_
        obtain ⟨g_10, hF⟩ := ifG hF
        refine lv_idiv hx hb d_Main_odds_139 g_10 ?_
        refine lv_i2l (v := (v6 / v7).toInt64) hx hb d_Main_odds_140 rfl ?_
        refine lv_goto (tgt := 149) hx hb d_Main_odds_141 (by decide) ?_
        obtain ⟨hF, hG⟩ := sE2 hF
        subst hF
        subst hG
        exact r_lret K hw d_Main_odds_149
    · replace hF := ifF hF c_7
      refine lv_iload hx hb d_Main_odds_105 (lv_at hl 2 rfl) ?_
      refine lv_iload hx hb d_Main_odds_107 (lv_at hl 4 rfl) ?_
      obtain ⟨g_11, hF⟩ := ifG hF
      refine lv_irem hx hb d_Main_odds_109 g_11 ?_
      refine lv_if_ne (tgt := 124) hx hb d_Main_odds_110 (by decide) (fun c_12 => ?_) (fun c_12 => ?_)
      · replace hF := ifT hF c_12
        exact q_Main_odds_124 K (fun z0 zv2 zv4 zv6 zv7 zv8 => F_Main_odds_99 n z0 zv2 zv4 zv6 zv7 zv8) ih _ _ _ _ _ _ _ _ _  hw (lv_sub hl [0, 1, 2, 3, 4] rfl) hF
      · replace hF := ifN hF c_12
        refine lv_iload_n hx hb d_Main_odds_113 rfl (lv_at hl 0 rfl) ?_
        refine lv_iload hx hb d_Main_odds_114 (lv_at hl 4 rfl) ?_
        obtain ⟨g_13, hF⟩ := ifG hF
        refine lv_irem hx hb d_Main_odds_116 g_13 ?_
        refine lv_if_ne (tgt := 124) hx hb d_Main_odds_117 (by decide) (fun c_14 => ?_) (fun c_14 => ?_)
        · replace hF := ifT hF c_14
          exact q_Main_odds_124 K (fun z0 zv2 zv4 zv6 zv7 zv8 => F_Main_odds_99 n z0 zv2 zv4 zv6 zv7 zv8) ih _ _ _ _ _ _ _ _ _  hw (lv_sub hl [0, 1, 2, 3, 4] rfl) hF
        · replace hF := ifN hF c_14
          refine lv_iload hx hb d_Main_odds_120 (lv_at hl 4 rfl) ?_
          refine lv_istore (lv' := [(7, .int v8), (2, .int v2), (4, .int v4), (6, .int v6), (8, .int v8)]) hx hb d_Main_odds_122 hl (by decide) rfl (fun ls hl => ?_)
          exact q_Main_odds_124 K (fun z0 zv2 zv4 zv6 zv7 zv8 => F_Main_odds_99 n z0 zv2 zv4 zv6 zv7 zv8) ih _ _ _ _ _ _ _ _ _  hw (lv_sub hl [1, 2, 3, 0, 4] rfl) hF
def F_Main_odds_87 (k31 : (St → Int32 → Int32 → Int32 → Int32 → Int32 → Int32 → Int32 → Option (Int64 × St))) (s0 : St) (v1 : Int32) (v2 : Int32) (v3 : Int32) (v4 : Int32) (v5 : Int32) (v6 : Int32) (v7 : Int32) : Option (Int64 × St) := (k31 s0 v1 v2 v3 v4 v5 v6 (v7 + 1))
set_option maxHeartbeats 4000000 in
set_option maxRecDepth 100000 in
theorem q_Main_odds_87 (K : Fx p s m args meth c b_Main_odds 9 R_Main (some .long)) (k31 : (St → Int32 → Int32 → Int32 → Int32 → Int32 → Int32 → Int32 → Option (Int64 × St))) (hk31 : ∀ (H : Heap) (locs : List Loc) (ls : Array Slot) (s0 : St) (v1 : Int32) (v2 : Int32) (v3 : Int32) (v4 : Int32) (v5 : Int32) (v6 : Int32) (v7 : Int32), Wh D cA ad shC A s s0 H locs → lv_has ls 9 [(0, .ref (ad 0)), (1, .int v1), (2, .int v2), (3, .int v3), (4, .int v4), (5, .int v5), (6, .int v6), (7, .int v7)] → k31 s0 v1 v2 v3 v4 v5 v6 v7 = (some (r, τ)) → W p l e rm_Main_odds s m args below meth c H locs 0 0 (MQ below (QcL D cA ad shC A r τ) args s 0 0 A) (F0 m 59 ls [])) : ∀ (H : Heap) (locs : List Loc) (ls : Array Slot) (s0 : St) (v1 : Int32) (v2 : Int32) (v3 : Int32) (v4 : Int32) (v5 : Int32) (v6 : Int32) (v7 : Int32), Wh D cA ad shC A s s0 H locs → lv_has ls 9 [(0, .ref (ad 0)), (1, .int v1), (2, .int v2), (3, .int v3), (4, .int v4), (5, .int v5), (6, .int v6), (7, .int v7)] → F_Main_odds_87 k31 s0 v1 v2 v3 v4 v5 v6 v7 = (some (r, τ)) → W p l e rm_Main_odds s m args below meth c H locs 0 0 (MQ below (QcL D cA ad shC A r τ) args s 0 0 A) (F0 m 87 ls []) := by
  have hx := K.1.1; have hb := K.1.2.1
  intro H locs ls s0 v1 v2 v3 v4 v5 v6 v7 hw hl hF
  unfold F_Main_odds_87 at hF
  refine lv_iinc (v := (v7 + 1)) (lv' := [(7, .int (v7 + 1)), (0, .ref (ad 0)), (1, .int v1), (2, .int v2), (3, .int v3), (4, .int v4), (5, .int v5), (6, .int v6)]) hx hb d_Main_odds_87 hl (k := 7) rfl rfl (by decide) rfl (fun ls hl => ?_)
  refine lv_goto (tgt := 59) hx hb d_Main_odds_90 (by decide) ?_
  exact hk31 _ _ _ _ _ _ _ _ _ _ _  hw (lv_sub hl [1, 2, 3, 4, 5, 6, 7, 0] rfl) hF
def F_Main_odds_59 : Nat → St → Int32 → Int32 → Int32 → Int32 → Int32 → Int32 → Int32 → Option (Int64 × St)
  | 0, _, _, _, _, _, _, _, _ => none
  | n + 1, s0, v1, v2, v3, v4, v5, v6, v7 => (if v2 ≤ v7 then (F_Main_odds_99 FU s0 v2 v4 v6 (1 : Int32) (2 : Int32)) else (ob2 (F_Main_winnerDrawn s0 (v1 + v7) v5 (jrem v3 (10 : Int32))) (fun r_15 s_16 => (if ¬ r_15 = v5 then (F_Main_odds_87 (fun z0 zv1 zv2 zv3 zv4 zv5 zv6 zv7 => F_Main_odds_59 n z0 zv1 zv2 zv3 zv4 zv5 zv6 zv7) s_16 v1 v2 v3 v4 v5 v6 v7) else (F_Main_odds_87 (fun z0 zv1 zv2 zv3 zv4 zv5 zv6 zv7 => F_Main_odds_59 n z0 zv1 zv2 zv3 zv4 zv5 zv6 zv7) s_16 v1 v2 v3 v4 v5 (v6 + 1) v7)))))
set_option maxHeartbeats 4000000 in
set_option maxRecDepth 100000 in
theorem q_Main_odds_59 (K : Fx p s m args meth c b_Main_odds 9 R_Main (some .long))  : ∀ (n : Nat), ∀ (H : Heap) (locs : List Loc) (ls : Array Slot) (s0 : St) (v1 : Int32) (v2 : Int32) (v3 : Int32) (v4 : Int32) (v5 : Int32) (v6 : Int32) (v7 : Int32), Wh D cA ad shC A s s0 H locs → lv_has ls 9 [(0, .ref (ad 0)), (1, .int v1), (2, .int v2), (3, .int v3), (4, .int v4), (5, .int v5), (6, .int v6), (7, .int v7)] → F_Main_odds_59 n s0 v1 v2 v3 v4 v5 v6 v7 = (some (r, τ)) → W p l e rm_Main_odds s m args below meth c H locs 0 0 (MQ below (QcL D cA ad shC A r τ) args s 0 0 A) (F0 m 59 ls []) := by
  have hx := K.1.1; have hb := K.1.2.1
  intro n
  induction n with
  | zero =>
    intro H locs ls s0 v1 v2 v3 v4 v5 v6 v7 hw hl hF
    exact absurd hF (by rw [F_Main_odds_59]; exact nofun)
  | succ n ih =>
    intro H locs ls s0 v1 v2 v3 v4 v5 v6 v7 hw hl hF
    rw [F_Main_odds_59] at hF
    refine lv_iload hx hb d_Main_odds_59 (lv_at hl 7 rfl) ?_
    refine lv_iload_n hx hb d_Main_odds_61 rfl (lv_at hl 2 rfl) ?_
    refine lv_icmp_ge (tgt := 93) hx hb d_Main_odds_62 (by decide) (fun c_6 => ?_) (fun c_6 => ?_)
    · replace hF := ifT hF c_6
      refine lv_iconst (v := 1) hx hb d_Main_odds_93 (by decide) ?_
      refine lv_istore (lv' := [(7, .int (1 : Int32)), (0, .ref (ad 0)), (1, .int v1), (2, .int v2), (3, .int v3), (4, .int v4), (5, .int v5), (6, .int v6)]) hx hb d_Main_odds_94 hl (by decide) rfl (fun ls hl => ?_)
      refine lv_iconst (v := 2) hx hb d_Main_odds_96 (by decide) ?_
      refine lv_istore (lv' := [(8, .int (2 : Int32)), (7, .int (1 : Int32)), (0, .ref (ad 0)), (1, .int v1), (2, .int v2), (3, .int v3), (4, .int v4), (5, .int v5), (6, .int v6)]) hx hb d_Main_odds_97 hl (by decide) rfl (fun ls hl => ?_)
      exact q_Main_odds_99 K FU _ _ _ _ _ _ _ _ _  hw (lv_sub hl [4, 6, 8, 1, 0] rfl) hF
    · replace hF := ifF hF c_6
      refine lv_aload_n hx hb d_Main_odds_65 rfl (lv_at hl 0 rfl) ?_
      refine lv_iload_n hx hb d_Main_odds_66 rfl (lv_at hl 1 rfl) ?_
      refine lv_iload hx hb d_Main_odds_67 (lv_at hl 7 rfl) ?_
      refine lv_iadd hx hb d_Main_odds_69 ?_
      refine lv_iload hx hb d_Main_odds_70 (lv_at hl 5 rfl) ?_
      refine lv_iload_n hx hb d_Main_odds_72 rfl (lv_at hl 3 rfl) ?_
      refine lv_bipush (v := 10) hx hb d_Main_odds_73 (by decide) ?_
      refine lv_irem hx hb d_Main_odds_75 (by decide) ?_
      obtain ⟨r_15, s_16, h_s_16, hF⟩ := ob2E hF
      refine r_callVI (As := [.int (v1 + v7), .int v5, .int (jrem v3 (10 : Int32))]) (rest := []) K hw hl.1 (c_Main_winnerDrawn (l := l) (D := D) (cA := cA) (ad := ad) (s0 := s0)  h_s_16) sh_Main rfl (tb_gV w_920 w_922 w_29 w_63 w_923) a_Main_winnerDrawn ⟨rfl, rfl, Nat.le_of_ble_eq_true rfl, Nat.le_of_ble_eq_true rfl⟩ rfl rfl (Nat.le_of_ble_eq_true rfl) d_Main_odds_76 (fun H locs hw => ?_)
      refine lv_iload hx hb d_Main_odds_79 (lv_at hl 5 rfl) ?_
      refine lv_icmp_ne (tgt := 87) hx hb d_Main_odds_81 (by decide) (fun c_17 => ?_) (fun c_17 => ?_)
      · replace hF := ifT hF c_17
        exact q_Main_odds_87 K (fun z0 zv1 zv2 zv3 zv4 zv5 zv6 zv7 => F_Main_odds_59 n z0 zv1 zv2 zv3 zv4 zv5 zv6 zv7) ih _ _ _ _ _ _ _ _ _ _ _  hw (lv_sub hl [0, 1, 2, 3, 4, 5, 6, 7] rfl) hF
      · replace hF := ifN hF c_17
        refine lv_iinc (v := (v6 + 1)) (lv' := [(6, .int (v6 + 1)), (0, .ref (ad 0)), (1, .int v1), (2, .int v2), (3, .int v3), (4, .int v4), (5, .int v5), (7, .int v7)]) hx hb d_Main_odds_84 hl (k := 6) rfl rfl (by decide) rfl (fun ls hl => ?_)
        exact q_Main_odds_87 K (fun z0 zv1 zv2 zv3 zv4 zv5 zv6 zv7 => F_Main_odds_59 n z0 zv1 zv2 zv3 zv4 zv5 zv6 zv7) ih _ _ _ _ _ _ _ _ _ _ _  hw (lv_sub hl [1, 2, 3, 4, 5, 6, 0, 7] rfl) hF
def F_Main_odds_0 (s0 : St) (v1 : Int32) (v2 : Int32) (v3 : Int32) (v4 : Int32) : Option (Int64 × St) := (if (F_Main_isWithin v1 (0 : Int32) (99999 : Int32)) = 0 then (F_Main_odds_21 s0) else (if ¬ (F_Main_isWithin v2 (1 : Int32) (30 : Int32)) = 0 then (ob1 (F_Main_tellsTwo s0 v3) (fun r_3 => (if r_3 = 0 then (F_Main_odds_43 s0) else (if ¬ (F_Main_isWithin v4 (0 : Int32) (1 : Int32)) = 0 then (F_Main_odds_59 FU s0 v1 v2 v3 v4 (v3 / (10 : Int32)) (0 : Int32) (0 : Int32)) else (F_Main_odds_43 s0))))) else (F_Main_odds_21 s0)))
set_option maxHeartbeats 4000000 in
set_option maxRecDepth 100000 in
theorem q_Main_odds_0 (K : Fx p s m args meth c b_Main_odds 9 R_Main (some .long))  : ∀ (H : Heap) (locs : List Loc) (ls : Array Slot) (s0 : St) (v1 : Int32) (v2 : Int32) (v3 : Int32) (v4 : Int32), Wh D cA ad shC A s s0 H locs → lv_has ls 9 [(0, .ref (ad 0)), (1, .int v1), (2, .int v2), (3, .int v3), (4, .int v4)] → F_Main_odds_0 s0 v1 v2 v3 v4 = (some (r, τ)) → W p l e rm_Main_odds s m args below meth c H locs 0 0 (MQ below (QcL D cA ad shC A r τ) args s 0 0 A) (F0 m 0 ls []) := by
  have hx := K.1.1; have hb := K.1.2.1
  intro H locs ls s0 v1 v2 v3 v4 hw hl hF
  unfold F_Main_odds_0 at hF
  refine lv_iload_n hx hb d_Main_odds_0 rfl (lv_at hl 1 rfl) ?_
  refine lv_iconst (v := 0) hx hb d_Main_odds_1 (by decide) ?_
  refine lv_ldcw (v := 99999) hx hb K.1.2.2.2.1 (K.1.2.2.2.2 _ w_919) d_Main_odds_2 ?_
  refine r_callSI (As := [.int v1, .int (0 : Int32), .int (99999 : Int32)]) (rest := []) K hw hl.1 (c_Main_isWithin (l := l) (D := D) (cA := cA) (ad := ad) (s0 := s0)  rfl) (tb_gS w_640 w_347 w_63 w_348) a_Main_isWithin ⟨rfl, rfl, Nat.le_of_ble_eq_true rfl, Nat.le_of_ble_eq_true rfl⟩ rfl rfl (Nat.le_of_ble_eq_true rfl) d_Main_odds_5 (fun H locs hw => ?_)
  refine lv_if_eq (tgt := 21) hx hb d_Main_odds_8 (by decide) (fun c_1 => ?_) (fun c_1 => ?_)
  · replace hF := ifT hF c_1
    exact q_Main_odds_21 K _ _ _ _  hw (lv_sub hl [] rfl) hF
  · replace hF := ifF hF c_1
    refine lv_iload_n hx hb d_Main_odds_11 rfl (lv_at hl 2 rfl) ?_
    refine lv_iconst (v := 1) hx hb d_Main_odds_12 (by decide) ?_
    refine lv_bipush (v := 30) hx hb d_Main_odds_13 (by decide) ?_
    refine r_callSI (As := [.int v2, .int (1 : Int32), .int (30 : Int32)]) (rest := []) K hw hl.1 (c_Main_isWithin (l := l) (D := D) (cA := cA) (ad := ad) (s0 := s0)  rfl) (tb_gS w_640 w_347 w_63 w_348) a_Main_isWithin ⟨rfl, rfl, Nat.le_of_ble_eq_true rfl, Nat.le_of_ble_eq_true rfl⟩ rfl rfl (Nat.le_of_ble_eq_true rfl) d_Main_odds_15 (fun H locs hw => ?_)
    refine lv_if_ne (tgt := 25) hx hb d_Main_odds_18 (by decide) (fun c_2 => ?_) (fun c_2 => ?_)
    · replace hF := ifT hF c_2
      refine lv_aload_n hx hb d_Main_odds_25 rfl (lv_at hl 0 rfl) ?_
      refine lv_iload_n hx hb d_Main_odds_26 rfl (lv_at hl 3 rfl) ?_
      obtain ⟨r_3, h_r_3, hF⟩ := ob1E hF
      refine r_callVI (As := [.int v3]) (rest := []) K hw hl.1 (c_Main_tellsTwo (l := l) (D := D) (cA := cA) (ad := ad) (s0 := s0)  h_r_3) sh_Main rfl (tb_gV w_720 w_722 w_16 w_63 w_723) a_Main_tellsTwo ⟨rfl, rfl, Nat.le_of_ble_eq_true rfl, Nat.le_of_ble_eq_true rfl⟩ rfl rfl (Nat.le_of_ble_eq_true rfl) d_Main_odds_27 (fun H locs hw => ?_)
      refine lv_if_eq (tgt := 43) hx hb d_Main_odds_30 (by decide) (fun c_4 => ?_) (fun c_4 => ?_)
      · replace hF := ifT hF c_4
        exact q_Main_odds_43 K _ _ _ _  hw (lv_sub hl [] rfl) hF
      · replace hF := ifF hF c_4
        refine lv_iload hx hb d_Main_odds_33 (lv_at hl 4 rfl) ?_
        refine lv_iconst (v := 0) hx hb d_Main_odds_35 (by decide) ?_
        refine lv_iconst (v := 1) hx hb d_Main_odds_36 (by decide) ?_
        refine r_callSI (As := [.int v4, .int (0 : Int32), .int (1 : Int32)]) (rest := []) K hw hl.1 (c_Main_isWithin (l := l) (D := D) (cA := cA) (ad := ad) (s0 := s0)  rfl) (tb_gS w_640 w_347 w_63 w_348) a_Main_isWithin ⟨rfl, rfl, Nat.le_of_ble_eq_true rfl, Nat.le_of_ble_eq_true rfl⟩ rfl rfl (Nat.le_of_ble_eq_true rfl) d_Main_odds_37 (fun H locs hw => ?_)
        refine lv_if_ne (tgt := 47) hx hb d_Main_odds_40 (by decide) (fun c_5 => ?_) (fun c_5 => ?_)
        · replace hF := ifT hF c_5
          refine lv_iload_n hx hb d_Main_odds_47 rfl (lv_at hl 3 rfl) ?_
          refine lv_bipush (v := 10) hx hb d_Main_odds_48 (by decide) ?_
          refine lv_idiv hx hb d_Main_odds_50 (by decide) ?_
          refine lv_istore (lv' := [(5, .int (v3 / (10 : Int32))), (0, .ref (ad 0)), (1, .int v1), (2, .int v2), (3, .int v3), (4, .int v4)]) hx hb d_Main_odds_51 hl (by decide) rfl (fun ls hl => ?_)
          refine lv_iconst (v := 0) hx hb d_Main_odds_53 (by decide) ?_
          refine lv_istore (lv' := [(6, .int (0 : Int32)), (5, .int (v3 / (10 : Int32))), (0, .ref (ad 0)), (1, .int v1), (2, .int v2), (3, .int v3), (4, .int v4)]) hx hb d_Main_odds_54 hl (by decide) rfl (fun ls hl => ?_)
          refine lv_iconst (v := 0) hx hb d_Main_odds_56 (by decide) ?_
          refine lv_istore (lv' := [(7, .int (0 : Int32)), (6, .int (0 : Int32)), (5, .int (v3 / (10 : Int32))), (0, .ref (ad 0)), (1, .int v1), (2, .int v2), (3, .int v3), (4, .int v4)]) hx hb d_Main_odds_57 hl (by decide) rfl (fun ls hl => ?_)
          exact q_Main_odds_59 K FU _ _ _ _ _ _ _ _ _ _ _  hw (lv_sub hl [3, 4, 5, 6, 7, 2, 1, 0] rfl) hF
        · replace hF := ifN hF c_5
          exact q_Main_odds_43 K _ _ _ _  hw (lv_sub hl [] rfl) hF
    · replace hF := ifN hF c_2
      exact q_Main_odds_21 K _ _ _ _  hw (lv_sub hl [] rfl) hF
end S_Main_odds
abbrev F_Main_odds := F_Main_odds_0
theorem c_Main_odds {l : Launch} {D : va_G} {cA : Nat → ClassId} {ad : Nat → Nat} {s0 τ : St} {r : Int64} {v1 : Int32} {v2 : Int32} {v3 : Int32} {v4 : Int32}  (hF : F_Main_odds s0 v1 v2 v3 v4 = (some (r, τ))) : ML l D cA ad shC y_Main_odds (wT y_Main_odds b_Main_odds 9 (some .long)) rm_Main_odds [.ref (ad 0), .int v1, .int v2, .int v3, .int v4] s0 r τ := fun sz => m_start (Qc := fun A => QcL D cA ad shC A r τ) (by decide +kernel) w_933 (Nat.le_of_ble_eq_true rfl) (fun p e s m below meth c ls K hl hw => q_Main_odds_0 K _ _ _ _ _ _ _ _  hw hl hF)

/-! Main.image()I -/
abbrev b_Main_image : ByteArray := prog_1_method_28_code
def y_Main_image : MethodName := ⟨R_Main, "image", "()I"⟩
theorem a_Main_image : y_Main_image.cls = R_Main ∧ y_Main_image.cls ≠ "java/lang/invoke/MethodHandle" ∧ y_Main_image.cls ≠ "java/lang/invoke/VarHandle" ∧ (parseMethodDescriptor y_Main_image.desc).map (fun d => d.parameters.length) = some 0 := by decide +kernel
abbrev rm_Main_image : Room := { frames := 0, cells := 0, slots := 0, locals := 0 }
theorem w_608 : Cond.fieldLink R_Main 37 R_Main "kept" "LArmAgainstArm$Image;" ∈ TB := tb_in 608 (by decide +kernel) (by decide +kernel)
theorem w_123 : Cond.fieldLink R_Main 270 R_Image "there" "Z" ∈ TB := tb_in 123 (by decide +kernel) (by decide +kernel)
theorem w_124 : Cond.fieldLink R_Main 273 R_Image "armCount" "I" ∈ TB := tb_in 124 (by decide +kernel) (by decide +kernel)
theorem w_125 : Cond.fieldLink R_Main 274 R_Image "lawNumbe\x72" "I" ∈ TB := tb_in 125 (by decide +kernel) (by decide +kernel)
theorem w_120 : Cond.fieldLink R_Main 275 R_Image "holds" "[I" ∈ TB := tb_in 120 (by decide +kernel) (by decide +kernel)
theorem w_122 : Cond.fieldLink R_Main 278 R_Image "plans" "[I" ∈ TB := tb_in 122 (by decide +kernel) (by decide +kernel)
theorem w_938 : Cond.code y_Main_image b_Main_image 2 (some .int) ∈ TB := tb_in 938 (by decide +kernel) (by decide +kernel)
theorem d_Main_image_0 : decode b_Main_image 0 = .ok (.aload_n 0, 1) := by decide +kernel
theorem d_Main_image_1 : decode b_Main_image 1 = .ok (.getfield 37, 3) := by decide +kernel
theorem d_Main_image_4 : decode b_Main_image 4 = .ok (.iconst 1, 1) := by decide +kernel
theorem d_Main_image_5 : decode b_Main_image 5 = .ok (.putfield 270, 3) := by decide +kernel
theorem d_Main_image_8 : decode b_Main_image 8 = .ok (.aload_n 0, 1) := by decide +kernel
theorem d_Main_image_9 : decode b_Main_image 9 = .ok (.getfield 37, 3) := by decide +kernel
theorem d_Main_image_12 : decode b_Main_image 12 = .ok (.aload_n 0, 1) := by decide +kernel
theorem d_Main_image_13 : decode b_Main_image 13 = .ok (.getfield 99, 3) := by decide +kernel
theorem d_Main_image_16 : decode b_Main_image 16 = .ok (.putfield 273, 3) := by decide +kernel
theorem d_Main_image_19 : decode b_Main_image 19 = .ok (.aload_n 0, 1) := by decide +kernel
theorem d_Main_image_20 : decode b_Main_image 20 = .ok (.getfield 37, 3) := by decide +kernel
theorem d_Main_image_23 : decode b_Main_image 23 = .ok (.aload_n 0, 1) := by decide +kernel
theorem d_Main_image_24 : decode b_Main_image 24 = .ok (.getfield 102, 3) := by decide +kernel
theorem d_Main_image_27 : decode b_Main_image 27 = .ok (.putfield 274, 3) := by decide +kernel
theorem d_Main_image_30 : decode b_Main_image 30 = .ok (.iconst 0, 1) := by decide +kernel
theorem d_Main_image_31 : decode b_Main_image 31 = .ok (.istore_n 1, 1) := by decide +kernel
theorem d_Main_image_32 : decode b_Main_image 32 = .ok (.iload_n 1, 1) := by decide +kernel
theorem d_Main_image_33 : decode b_Main_image 33 = .ok (.bipush 6, 2) := by decide +kernel
theorem d_Main_image_35 : decode b_Main_image 35 = .ok (.if_icmp .ge 45, 3) := by decide +kernel
theorem d_Main_image_38 : decode b_Main_image 38 = .ok (.aload_n 0, 1) := by decide +kernel
theorem d_Main_image_39 : decode b_Main_image 39 = .ok (.getfield 37, 3) := by decide +kernel
theorem d_Main_image_42 : decode b_Main_image 42 = .ok (.getfield 275, 3) := by decide +kernel
theorem d_Main_image_45 : decode b_Main_image 45 = .ok (.iload_n 1, 1) := by decide +kernel
theorem d_Main_image_46 : decode b_Main_image 46 = .ok (.aload_n 0, 1) := by decide +kernel
theorem d_Main_image_47 : decode b_Main_image 47 = .ok (.getfield 11, 3) := by decide +kernel
theorem d_Main_image_50 : decode b_Main_image 50 = .ok (.iload_n 1, 1) := by decide +kernel
theorem d_Main_image_51 : decode b_Main_image 51 = .ok (.aaload, 1) := by decide +kernel
theorem d_Main_image_52 : decode b_Main_image 52 = .ok (.getfield 152, 3) := by decide +kernel
theorem d_Main_image_55 : decode b_Main_image 55 = .ok (.iastore, 1) := by decide +kernel
theorem d_Main_image_56 : decode b_Main_image 56 = .ok (.aload_n 0, 1) := by decide +kernel
theorem d_Main_image_57 : decode b_Main_image 57 = .ok (.getfield 37, 3) := by decide +kernel
theorem d_Main_image_60 : decode b_Main_image 60 = .ok (.getfield 278, 3) := by decide +kernel
theorem d_Main_image_63 : decode b_Main_image 63 = .ok (.iload_n 1, 1) := by decide +kernel
theorem d_Main_image_64 : decode b_Main_image 64 = .ok (.aload_n 0, 1) := by decide +kernel
theorem d_Main_image_65 : decode b_Main_image 65 = .ok (.getfield 11, 3) := by decide +kernel
theorem d_Main_image_68 : decode b_Main_image 68 = .ok (.iload_n 1, 1) := by decide +kernel
theorem d_Main_image_69 : decode b_Main_image 69 = .ok (.aaload, 1) := by decide +kernel
theorem d_Main_image_70 : decode b_Main_image 70 = .ok (.getfield 156, 3) := by decide +kernel
theorem d_Main_image_73 : decode b_Main_image 73 = .ok (.iastore, 1) := by decide +kernel
theorem d_Main_image_74 : decode b_Main_image 74 = .ok (.iinc 1 1, 3) := by decide +kernel
theorem d_Main_image_77 : decode b_Main_image 77 = .ok (.goto (-45), 3) := by decide +kernel
theorem d_Main_image_80 : decode b_Main_image 80 = .ok (.aload_n 0, 1) := by decide +kernel
theorem d_Main_image_81 : decode b_Main_image 81 = .ok (.getfield 99, 3) := by decide +kernel
theorem d_Main_image_84 : decode b_Main_image 84 = .ok (.ireturn, 1) := by decide +kernel
section S_Main_image
variable {p : Program} {l : Launch} {e : Env} {s : State} {m : MethodId} {args : Array Value} {below : List Frame} {meth : Method} {c : Code} {D : va_G} {cA : Nat → ClassId} {ad : Nat → Nat} {A : Nat → Prop} {r : Int32} {τ : St}
def F_Main_image_32 : Nat → St → Int32 → Option (Int32 × St)
  | 0, _, _ => none
  | n + 1, s0, v1 => (if (6 : Int32) ≤ v1 then (some ((s0.1 0 1), s0)) else (if inB v1 6 = true then (if inB v1 6 = true then (lt (up1 s0 21 v1.toNatClampNeg (s0.1 (24 + v1.toNatClampNeg) 4)) (fun s_7 => (if inB v1 6 = true then (if inB v1 6 = true then (lt (up1 s_7 22 v1.toNatClampNeg (s_7.1 (24 + v1.toNatClampNeg) 5)) (fun s_10 => (F_Main_image_32 n s_10 (v1 + 1)))) else none) else none))) else none) else none))
set_option maxHeartbeats 4000000 in
set_option maxRecDepth 100000 in
theorem q_Main_image_32 (K : Fx p s m args meth c b_Main_image 2 R_Main (some .int))  : ∀ (n : Nat), ∀ (H : Heap) (locs : List Loc) (ls : Array Slot) (s0 : St) (v1 : Int32), Wh D cA ad shC A s s0 H locs → lv_has ls 2 [(0, .ref (ad 0)), (1, .int v1)] → F_Main_image_32 n s0 v1 = (some (r, τ)) → W p l e rm_Main_image s m args below meth c H locs 0 0 (MQ below (QcI D cA ad shC A r τ) args s 0 0 A) (F0 m 32 ls []) := by
  have hx := K.1.1; have hb := K.1.2.1
  intro n
  induction n with
  | zero =>
    intro H locs ls s0 v1 hw hl hF
    exact absurd hF (by rw [F_Main_image_32]; exact nofun)
  | succ n ih =>
    intro H locs ls s0 v1 hw hl hF
    rw [F_Main_image_32] at hF
    refine lv_iload_n hx hb d_Main_image_32 rfl (lv_at hl 1 rfl) ?_
    refine lv_bipush (v := 6) hx hb d_Main_image_33 (by decide) ?_
    refine lv_icmp_ge (tgt := 80) hx hb d_Main_image_35 (by decide) (fun c_4 => ?_) (fun c_4 => ?_)
    · replace hF := ifT hF c_4
      refine lv_aload_n hx hb d_Main_image_80 rfl (lv_at hl 0 rfl) ?_
      refine r_get (v := .int (s0.1 0 1)) K hw i_Main sh_Main rfl 1 (by decide) w_599 rfl rfl rfl d_Main_image_81 ?_
      obtain ⟨hF, hG⟩ := sE2 hF
      subst hF
      subst hG
      exact r_iret K hw d_Main_image_84
    · replace hF := ifF hF c_4
      refine lv_aload_n hx hb d_Main_image_38 rfl (lv_at hl 0 rfl) ?_
      refine r_get (v := .ref (ad 20)) K hw i_Main sh_Main rfl 10 (by decide) w_608 rfl rfl rfl d_Main_image_39 ?_
      refine r_get (v := .ref (ad 21)) K hw i_Image sh_Image rfl 0 (by decide) w_120 rfl rfl rfl d_Main_image_42 ?_
      refine lv_iload_n hx hb d_Main_image_45 rfl (lv_at hl 1 rfl) ?_
      refine lv_aload_n hx hb d_Main_image_46 rfl (lv_at hl 0 rfl) ?_
      refine r_get (v := .ref (ad 1)) K hw i_Main sh_Main rfl 0 (by decide) w_598 rfl rfl rfl d_Main_image_47 ?_
      refine lv_iload_n hx hb d_Main_image_50 rfl (lv_at hl 1 rfl) ?_
      obtain ⟨g_5, hF⟩ := ifG hF
      refine r_aald (k := v1.toNatClampNeg) K hw (show shC[1]? = some (.inr (.inr (1, 24, 6))) from rfl) (rfl : (TYS cA)[1]? = some (cA 1, _)) rfl (inB_vp g_5) d_Main_image_51 ?_
      refine r_get (v := .int (s0.1 (24 + v1.toNatClampNeg) 4)) K hw i_Arm (sh_Arm (P_Arm_of g_5)) rfl 4 (by decide) w_155 rfl rfl rfl d_Main_image_52 ?_
      obtain ⟨g_6, hF⟩ := ifG hF
      refine r_iast (k := v1.toNatClampNeg) K hw (show shC[21]? = some (.inr (.inl 6)) from rfl) rfl (inB_vp g_6) d_Main_image_55 (fun s_7 f_s_7 H locs hw => ?_)
      replace hF := ltN hF f_s_7
      refine lv_aload_n hx hb d_Main_image_56 rfl (lv_at hl 0 rfl) ?_
      refine r_get (v := .ref (ad 20)) K hw i_Main sh_Main rfl 10 (by decide) w_608 rfl rfl rfl d_Main_image_57 ?_
      refine r_get (v := .ref (ad 22)) K hw i_Image sh_Image rfl 1 (by decide) w_122 rfl rfl rfl d_Main_image_60 ?_
      refine lv_iload_n hx hb d_Main_image_63 rfl (lv_at hl 1 rfl) ?_
      refine lv_aload_n hx hb d_Main_image_64 rfl (lv_at hl 0 rfl) ?_
      refine r_get (v := .ref (ad 1)) K hw i_Main sh_Main rfl 0 (by decide) w_598 rfl rfl rfl d_Main_image_65 ?_
      refine lv_iload_n hx hb d_Main_image_68 rfl (lv_at hl 1 rfl) ?_
      obtain ⟨g_8, hF⟩ := ifG hF
      refine r_aald (k := v1.toNatClampNeg) K hw (show shC[1]? = some (.inr (.inr (1, 24, 6))) from rfl) (rfl : (TYS cA)[1]? = some (cA 1, _)) rfl (inB_vp g_8) d_Main_image_69 ?_
      refine r_get (v := .int (s_7.1 (24 + v1.toNatClampNeg) 5)) K hw i_Arm (sh_Arm (P_Arm_of g_8)) rfl 5 (by decide) w_158 rfl rfl rfl d_Main_image_70 ?_
      obtain ⟨g_9, hF⟩ := ifG hF
      refine r_iast (k := v1.toNatClampNeg) K hw (show shC[22]? = some (.inr (.inl 6)) from rfl) rfl (inB_vp g_9) d_Main_image_73 (fun s_10 f_s_10 H locs hw => ?_)
      replace hF := ltN hF f_s_10
      refine lv_iinc (v := (v1 + 1)) (lv' := [(1, .int (v1 + 1)), (0, .ref (ad 0))]) hx hb d_Main_image_74 hl (k := 1) rfl rfl (by decide) rfl (fun ls hl => ?_)
      refine lv_goto (tgt := 32) hx hb d_Main_image_77 (by decide) ?_
      exact ih _ _ _ _ _  hw (lv_sub hl [1, 0] rfl) hF
def F_Main_image_0 (s0 : St) : Option (Int32 × St) := (lt (up1 s0 20 2 (1 : Int32)) (fun s_1 => (lt (up1 s_1 20 3 (s_1.1 0 1)) (fun s_2 => (lt (up1 s_2 20 4 (s_2.1 0 4)) (fun s_3 => (F_Main_image_32 FU s_3 (0 : Int32))))))))
set_option maxHeartbeats 4000000 in
set_option maxRecDepth 100000 in
theorem q_Main_image_0 (K : Fx p s m args meth c b_Main_image 2 R_Main (some .int))  : ∀ (H : Heap) (locs : List Loc) (ls : Array Slot) (s0 : St), Wh D cA ad shC A s s0 H locs → lv_has ls 2 [(0, .ref (ad 0))] → F_Main_image_0 s0 = (some (r, τ)) → W p l e rm_Main_image s m args below meth c H locs 0 0 (MQ below (QcI D cA ad shC A r τ) args s 0 0 A) (F0 m 0 ls []) := by
  have hx := K.1.1; have hb := K.1.2.1
  intro H locs ls s0 hw hl hF
  unfold F_Main_image_0 at hF
  refine lv_aload_n hx hb d_Main_image_0 rfl (lv_at hl 0 rfl) ?_
  refine r_get (v := .ref (ad 20)) K hw i_Main sh_Main rfl 10 (by decide) w_608 rfl rfl rfl d_Main_image_1 ?_
  refine lv_iconst (v := 1) hx hb d_Main_image_4 (by decide) ?_
  refine r_putI K hw i_Image t_Image t_Image_ok n_Image sh_Image rfl 2 (by decide) w_123 rfl rfl rfl rfl rfl d_Main_image_5 (fun s_1 f_s_1 H locs hw => ?_)
  replace hF := ltN hF f_s_1
  refine lv_aload_n hx hb d_Main_image_8 rfl (lv_at hl 0 rfl) ?_
  refine r_get (v := .ref (ad 20)) K hw i_Main sh_Main rfl 10 (by decide) w_608 rfl rfl rfl d_Main_image_9 ?_
  refine lv_aload_n hx hb d_Main_image_12 rfl (lv_at hl 0 rfl) ?_
  refine r_get (v := .int (s_1.1 0 1)) K hw i_Main sh_Main rfl 1 (by decide) w_599 rfl rfl rfl d_Main_image_13 ?_
  refine r_putI K hw i_Image t_Image t_Image_ok n_Image sh_Image rfl 3 (by decide) w_124 rfl rfl rfl rfl rfl d_Main_image_16 (fun s_2 f_s_2 H locs hw => ?_)
  replace hF := ltN hF f_s_2
  refine lv_aload_n hx hb d_Main_image_19 rfl (lv_at hl 0 rfl) ?_
  refine r_get (v := .ref (ad 20)) K hw i_Main sh_Main rfl 10 (by decide) w_608 rfl rfl rfl d_Main_image_20 ?_
  refine lv_aload_n hx hb d_Main_image_23 rfl (lv_at hl 0 rfl) ?_
  refine r_get (v := .int (s_2.1 0 4)) K hw i_Main sh_Main rfl 4 (by decide) w_602 rfl rfl rfl d_Main_image_24 ?_
  refine r_putI K hw i_Image t_Image t_Image_ok n_Image sh_Image rfl 4 (by decide) w_125 rfl rfl rfl rfl rfl d_Main_image_27 (fun s_3 f_s_3 H locs hw => ?_)
  replace hF := ltN hF f_s_3
  refine lv_iconst (v := 0) hx hb d_Main_image_30 (by decide) ?_
  refine lv_istore_n (lv' := [(1, .int (0 : Int32)), (0, .ref (ad 0))]) hx hb d_Main_image_31 rfl hl (by decide) rfl (fun ls hl => ?_)
  exact q_Main_image_32 K FU _ _ _ _ _  hw (lv_sub hl [1, 0] rfl) hF
end S_Main_image
abbrev F_Main_image := F_Main_image_0
theorem c_Main_image {l : Launch} {D : va_G} {cA : Nat → ClassId} {ad : Nat → Nat} {s0 τ : St} {r : Int32}   (hF : F_Main_image s0 = (some (r, τ))) : MI l D cA ad shC y_Main_image (wT y_Main_image b_Main_image 2 (some .int)) rm_Main_image [.ref (ad 0)] s0 r τ := fun sz => m_start (Qc := fun A => QcI D cA ad shC A r τ) (by decide +kernel) w_938 (Nat.le_of_ble_eq_true rfl) (fun p e s m below meth c ls K hl hw => q_Main_image_0 K _ _ _ _   hw hl hF)
