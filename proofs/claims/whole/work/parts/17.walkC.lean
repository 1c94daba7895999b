/-! Seeker.playFrom(I)V -/
abbrev b_Seeker_playFrom : ByteArray := prog_6_method_4_code
def y_Seeker_playFrom : MethodName := ⟨R_Seeker, "playFrom", "(I)V"⟩
theorem a_Seeker_playFrom : y_Seeker_playFrom.cls = R_Seeker ∧ y_Seeker_playFrom.cls ≠ "java/lang/invoke/MethodHandle" ∧ y_Seeker_playFrom.cls ≠ "java/lang/invoke/VarHandle" ∧ (parseMethodDescriptor y_Seeker_playFrom.desc).map (fun d => d.parameters.length) = some 1 := by decide +kernel
abbrev rm_Seeker_playFrom : Room := { frames := 5, cells := 0, slots := 0, locals := 116 }
theorem w_542 : Cond.fieldLink R_Seeker 61 R_Bout "tenth" "I" ∈ TB := tb_in 542 (by decide +kernel) (by decide +kernel)
theorem w_798 : Cond.methodLink R_Seeker 37 y_Seeker_keep ∈ TB := tb_in 798 (by decide +kernel) (by decide +kernel)
theorem w_800 : Cond.instanceMethod y_Seeker_keep ∈ TB := tb_in 800 (by decide +kernel) (by decide +kernel)
theorem w_20 : Cond.selects R_Seeker y_Seeker_keep y_Seeker_keep ∈ TB := tb_in 20 (by decide +kernel) (by decide +kernel)
theorem w_79 : Cond.initialized R_Seeker ∈ TB := tb_in 79 (by decide +kernel) (by decide +kernel)
theorem w_809 : Cond.methodLink R_Seeker 70 y_Bout_playTo ∈ TB := tb_in 809 (by decide +kernel) (by decide +kernel)
theorem w_808 : Cond.code y_Seeker_playFrom b_Seeker_playFrom 3 none ∈ TB := tb_in 808 (by decide +kernel) (by decide +kernel)
theorem d_Seeker_playFrom_0 : decode b_Seeker_playFrom 0 = .ok (.aload_n 0, 1) := by decide +kernel
theorem d_Seeker_playFrom_1 : decode b_Seeker_playFrom 1 = .ok (.getfield 21, 3) := by decide +kernel
theorem d_Seeker_playFrom_4 : decode b_Seeker_playFrom 4 = .ok (.iload_n 1, 1) := by decide +kernel
theorem d_Seeker_playFrom_5 : decode b_Seeker_playFrom 5 = .ok (.bipush 10, 2) := by decide +kernel
theorem d_Seeker_playFrom_7 : decode b_Seeker_playFrom 7 = .ok (.imul, 1) := by decide +kernel
theorem d_Seeker_playFrom_8 : decode b_Seeker_playFrom 8 = .ok (.putfield 61, 3) := by decide +kernel
theorem d_Seeker_playFrom_11 : decode b_Seeker_playFrom 11 = .ok (.aload_n 0, 1) := by decide +kernel
theorem d_Seeker_playFrom_12 : decode b_Seeker_playFrom 12 = .ok (.getfield 21, 3) := by decide +kernel
theorem d_Seeker_playFrom_15 : decode b_Seeker_playFrom 15 = .ok (.aload_n 0, 1) := by decide +kernel
theorem d_Seeker_playFrom_16 : decode b_Seeker_playFrom 16 = .ok (.getfield 9, 3) := by decide +kernel
theorem d_Seeker_playFrom_19 : decode b_Seeker_playFrom 19 = .ok (.iload_n 1, 1) := by decide +kernel
theorem d_Seeker_playFrom_20 : decode b_Seeker_playFrom 20 = .ok (.iaload, 1) := by decide +kernel
theorem d_Seeker_playFrom_21 : decode b_Seeker_playFrom 21 = .ok (.putfield 55, 3) := by decide +kernel
theorem d_Seeker_playFrom_24 : decode b_Seeker_playFrom 24 = .ok (.aload_n 0, 1) := by decide +kernel
theorem d_Seeker_playFrom_25 : decode b_Seeker_playFrom 25 = .ok (.getfield 21, 3) := by decide +kernel
theorem d_Seeker_playFrom_28 : decode b_Seeker_playFrom 28 = .ok (.getfield 25, 3) := by decide +kernel
theorem d_Seeker_playFrom_31 : decode b_Seeker_playFrom 31 = .ok (.aload_n 0, 1) := by decide +kernel
theorem d_Seeker_playFrom_32 : decode b_Seeker_playFrom 32 = .ok (.getfield 15, 3) := by decide +kernel
theorem d_Seeker_playFrom_35 : decode b_Seeker_playFrom 35 = .ok (.iload_n 1, 1) := by decide +kernel
theorem d_Seeker_playFrom_36 : decode b_Seeker_playFrom 36 = .ok (.iaload, 1) := by decide +kernel
theorem d_Seeker_playFrom_37 : decode b_Seeker_playFrom 37 = .ok (.putfield 64, 3) := by decide +kernel
theorem d_Seeker_playFrom_40 : decode b_Seeker_playFrom 40 = .ok (.aload_n 0, 1) := by decide +kernel
theorem d_Seeker_playFrom_41 : decode b_Seeker_playFrom 41 = .ok (.getfield 21, 3) := by decide +kernel
theorem d_Seeker_playFrom_44 : decode b_Seeker_playFrom 44 = .ok (.getfield 67, 3) := by decide +kernel
theorem d_Seeker_playFrom_47 : decode b_Seeker_playFrom 47 = .ok (.aload_n 0, 1) := by decide +kernel
theorem d_Seeker_playFrom_48 : decode b_Seeker_playFrom 48 = .ok (.getfield 18, 3) := by decide +kernel
theorem d_Seeker_playFrom_51 : decode b_Seeker_playFrom 51 = .ok (.iload_n 1, 1) := by decide +kernel
theorem d_Seeker_playFrom_52 : decode b_Seeker_playFrom 52 = .ok (.iaload, 1) := by decide +kernel
theorem d_Seeker_playFrom_53 : decode b_Seeker_playFrom 53 = .ok (.putfield 64, 3) := by decide +kernel
theorem d_Seeker_playFrom_56 : decode b_Seeker_playFrom 56 = .ok (.iload_n 1, 1) := by decide +kernel
theorem d_Seeker_playFrom_57 : decode b_Seeker_playFrom 57 = .ok (.istore_n 2, 1) := by decide +kernel
theorem d_Seeker_playFrom_58 : decode b_Seeker_playFrom 58 = .ok (.iload_n 2, 1) := by decide +kernel
theorem d_Seeker_playFrom_59 : decode b_Seeker_playFrom 59 = .ok (.iconst 4, 1) := by decide +kernel
theorem d_Seeker_playFrom_60 : decode b_Seeker_playFrom 60 = .ok (.if_icmp .ge 27, 3) := by decide +kernel
theorem d_Seeker_playFrom_63 : decode b_Seeker_playFrom 63 = .ok (.aload_n 0, 1) := by decide +kernel
theorem d_Seeker_playFrom_64 : decode b_Seeker_playFrom 64 = .ok (.iload_n 2, 1) := by decide +kernel
theorem d_Seeker_playFrom_65 : decode b_Seeker_playFrom 65 = .ok (.invokevirtual 37, 3) := by decide +kernel
theorem d_Seeker_playFrom_68 : decode b_Seeker_playFrom 68 = .ok (.aload_n 0, 1) := by decide +kernel
theorem d_Seeker_playFrom_69 : decode b_Seeker_playFrom 69 = .ok (.getfield 21, 3) := by decide +kernel
theorem d_Seeker_playFrom_72 : decode b_Seeker_playFrom 72 = .ok (.iload_n 2, 1) := by decide +kernel
theorem d_Seeker_playFrom_73 : decode b_Seeker_playFrom 73 = .ok (.iconst 1, 1) := by decide +kernel
theorem d_Seeker_playFrom_74 : decode b_Seeker_playFrom 74 = .ok (.iadd, 1) := by decide +kernel
theorem d_Seeker_playFrom_75 : decode b_Seeker_playFrom 75 = .ok (.bipush 10, 2) := by decide +kernel
theorem d_Seeker_playFrom_77 : decode b_Seeker_playFrom 77 = .ok (.imul, 1) := by decide +kernel
theorem d_Seeker_playFrom_78 : decode b_Seeker_playFrom 78 = .ok (.invokevirtual 70, 3) := by decide +kernel
theorem d_Seeker_playFrom_81 : decode b_Seeker_playFrom 81 = .ok (.iinc 2 1, 3) := by decide +kernel
theorem d_Seeker_playFrom_84 : decode b_Seeker_playFrom 84 = .ok (.goto (-26), 3) := by decide +kernel
theorem d_Seeker_playFrom_87 : decode b_Seeker_playFrom 87 = .ok (.return_, 1) := by decide +kernel
section S_Seeker_playFrom
variable {p : Program} {l : Launch} {e : Env} {s : State} {m : MethodId} {args : Array Value} {below : List Frame} {meth : Method} {c : Code} {D : va_G} {cA : Nat → ClassId} {ad : Nat → Nat} {nC : Nat} {A : Nat → Prop} {τ : St}
noncomputable def F_Seeker_playFrom_58 : Nat → St → Int32 → Option St
  | 0, _, _ => none
  | n + 1, s0, v2 => (if (4 : Int32) ≤ v2 then (some s0) else (ob1 (F_Seeker_keep s0 v2) (fun s_9 => (ob1 (F_Bout_playTo s_9 ((v2 + (1 : Int32)) * (10 : Int32))) (fun s_10 => (F_Seeker_playFrom_58 n s_10 (v2 + 1)))))))
set_option maxHeartbeats 4000000 in
set_option maxRecDepth 100000 in
theorem q_Seeker_playFrom_58 (hn : 50 ≤ nC) (K : Fx p s m args meth c b_Seeker_playFrom 3 R_Seeker none)  : ∀ (n : Nat), ∀ (H : Heap) (locs : List Loc) (ls : Array Slot) (s0 : St) (v2 : Int32), Wh D cA ad (shC.take nC) A s s0 H locs → lv_has ls 3 [(0, .ref (ad 46)), (2, .int v2)] → F_Seeker_playFrom_58 n s0 v2 = (some τ) → W p l e rm_Seeker_playFrom s m args below meth c H locs 0 0 (MQ below (QcV D cA ad (shC.take nC) A τ) args s 0 0 A) (F0 m 58 ls []) := by
  have hx := K.1.1; have hb := K.1.2.1
  intro n
  induction n with
  | zero =>
    intro H locs ls s0 v2 hw hl hF
    exact absurd hF (by rw [F_Seeker_playFrom_58]; exact nofun)
  | succ n ih =>
    intro H locs ls s0 v2 hw hl hF
    rw [F_Seeker_playFrom_58] at hF
    refine lv_iload_n hx hb d_Seeker_playFrom_58 rfl (lv_at hl 1 rfl) ?_
    refine lv_iconst (v := 4) hx hb d_Seeker_playFrom_59 (by decide) ?_
    refine lv_icmp_ge (tgt := 87) hx hb d_Seeker_playFrom_60 (by decide) (fun c_8 => ?_) (fun c_8 => ?_)
    · replace hF := ifT hF c_8
      replace hF := sE1 hF
      subst hF
      exact r_vret K hw d_Seeker_playFrom_87
    · replace hF := ifF hF c_8
      refine lv_aload_n hx hb d_Seeker_playFrom_63 rfl (lv_at hl 0 rfl) ?_
      refine lv_iload_n hx hb d_Seeker_playFrom_64 rfl (lv_at hl 1 rfl) ?_
      obtain ⟨s_9, h_s_9, hF⟩ := ob1E hF
      refine r_callVV (As := [.int v2]) (rest := []) K hw hl.1 (c_Seeker_keep (l := l) (D := D) (cA := cA) (ad := ad) (s0 := s0) (Nat.le_trans (Nat.le_of_ble_eq_true rfl) hn)  h_s_9) (sh_Seeker (Nat.le_trans (Nat.le_of_ble_eq_true rfl) hn)) rfl (tb_gV w_798 w_800 w_20 w_79 w_801) a_Seeker_keep ⟨rfl, rfl, Nat.le_of_ble_eq_true rfl, Nat.le_of_ble_eq_true rfl⟩ rfl rfl (Nat.le_of_ble_eq_true rfl) d_Seeker_playFrom_65 (fun H locs hw => ?_)
      refine lv_aload_n hx hb d_Seeker_playFrom_68 rfl (lv_at hl 0 rfl) ?_
      refine r_get (v := .ref (ad 41)) K hw i_Seeker (sh_Seeker (Nat.le_trans (Nat.le_of_ble_eq_true rfl) hn)) rfl 0 (by decide) w_569 rfl rfl rfl d_Seeker_playFrom_69 ?_
      refine lv_iload_n hx hb d_Seeker_playFrom_72 rfl (lv_at hl 1 rfl) ?_
      refine lv_iconst (v := 1) hx hb d_Seeker_playFrom_73 (by decide) ?_
      refine lv_iadd hx hb d_Seeker_playFrom_74 ?_
      refine lv_bipush (v := 10) hx hb d_Seeker_playFrom_75 (by decide) ?_
      refine lv_imul hx hb d_Seeker_playFrom_77 ?_
      obtain ⟨s_10, h_s_10, hF⟩ := ob1E hF
      refine r_callVV (As := [.int ((v2 + (1 : Int32)) * (10 : Int32))]) (rest := []) K hw hl.1 (c_Bout_playTo (l := l) (D := D) (cA := cA) (ad := ad) (s0 := s_9) (Nat.le_trans (Nat.le_of_ble_eq_true rfl) hn)  h_s_10) (sh_Bout (Nat.le_trans (Nat.le_of_ble_eq_true rfl) hn)) rfl (tb_gV w_809 w_738 w_739 w_77 w_740) a_Bout_playTo ⟨rfl, rfl, Nat.le_of_ble_eq_true rfl, Nat.le_of_ble_eq_true rfl⟩ rfl rfl (Nat.le_of_ble_eq_true rfl) d_Seeker_playFrom_78 (fun H locs hw => ?_)
      refine lv_iinc (v := (v2 + 1)) (lv' := [(2, .int (v2 + 1)), (0, .ref (ad 46))]) hx hb d_Seeker_playFrom_81 hl (k := 1) rfl rfl (by decide) rfl (fun ls hl => ?_)
      refine lv_goto (tgt := 58) hx hb d_Seeker_playFrom_84 (by decide) ?_
      exact ih _ _ _ _ _  hw (lv_sub hl [1, 0] rfl) hF
noncomputable def F_Seeker_playFrom_0 (s0 : St) (v1 : Int32) : Option St := (lt (up1 s0 41 4 (v1 * (10 : Int32))) (fun s_1 => (if inB v1 4 = true then (lt (up1 s_1 41 3 (s_1.1 47 v1.toNatClampNeg)) (fun s_3 => (if inB v1 4 = true then (lt (up1 s_3 42 1 (s_3.1 48 v1.toNatClampNeg)) (fun s_5 => (if inB v1 4 = true then (lt (up1 s_5 44 1 (s_5.1 49 v1.toNatClampNeg)) (fun s_7 => (F_Seeker_playFrom_58 FU s_7 v1))) else none))) else none))) else none)))
set_option maxHeartbeats 4000000 in
set_option maxRecDepth 100000 in
theorem q_Seeker_playFrom_0 (hn : 50 ≤ nC) (K : Fx p s m args meth c b_Seeker_playFrom 3 R_Seeker none)  : ∀ (H : Heap) (locs : List Loc) (ls : Array Slot) (s0 : St) (v1 : Int32), Wh D cA ad (shC.take nC) A s s0 H locs → lv_has ls 3 [(0, .ref (ad 46)), (1, .int v1)] → F_Seeker_playFrom_0 s0 v1 = (some τ) → W p l e rm_Seeker_playFrom s m args below meth c H locs 0 0 (MQ below (QcV D cA ad (shC.take nC) A τ) args s 0 0 A) (F0 m 0 ls []) := by
  have hx := K.1.1; have hb := K.1.2.1
  intro H locs ls s0 v1 hw hl hF
  unfold F_Seeker_playFrom_0 at hF
  refine lv_aload_n hx hb d_Seeker_playFrom_0 rfl (lv_at hl 0 rfl) ?_
  refine r_get (v := .ref (ad 41)) K hw i_Seeker (sh_Seeker (Nat.le_trans (Nat.le_of_ble_eq_true rfl) hn)) rfl 0 (by decide) w_569 rfl rfl rfl d_Seeker_playFrom_1 ?_
  refine lv_iload_n hx hb d_Seeker_playFrom_4 rfl (lv_at hl 1 rfl) ?_
  refine lv_bipush (v := 10) hx hb d_Seeker_playFrom_5 (by decide) ?_
  refine lv_imul hx hb d_Seeker_playFrom_7 ?_
  refine r_putI K hw i_Bout t_Bout t_Bout_ok n_Bout (sh_Bout (Nat.le_trans (Nat.le_of_ble_eq_true rfl) hn)) rfl 4 (by decide) w_542 rfl rfl rfl rfl rfl d_Seeker_playFrom_8 (fun s_1 f_s_1 H locs hw => ?_)
  replace hF := ltN hF f_s_1
  refine lv_aload_n hx hb d_Seeker_playFrom_11 rfl (lv_at hl 0 rfl) ?_
  refine r_get (v := .ref (ad 41)) K hw i_Seeker (sh_Seeker (Nat.le_trans (Nat.le_of_ble_eq_true rfl) hn)) rfl 0 (by decide) w_569 rfl rfl rfl d_Seeker_playFrom_12 ?_
  refine lv_aload_n hx hb d_Seeker_playFrom_15 rfl (lv_at hl 0 rfl) ?_
  refine r_get (v := .ref (ad 47)) K hw i_Seeker (sh_Seeker (Nat.le_trans (Nat.le_of_ble_eq_true rfl) hn)) rfl 1 (by decide) w_570 rfl rfl rfl d_Seeker_playFrom_16 ?_
  refine lv_iload_n hx hb d_Seeker_playFrom_19 rfl (lv_at hl 1 rfl) ?_
  obtain ⟨g_2, hF⟩ := ifG hF
  refine r_iald (k := v1.toNatClampNeg) K hw (sh_a47 (Nat.le_trans (Nat.le_of_ble_eq_true rfl) hn)) rfl (inB_vp g_2) d_Seeker_playFrom_20 ?_
  refine r_putI K hw i_Bout t_Bout t_Bout_ok n_Bout (sh_Bout (Nat.le_trans (Nat.le_of_ble_eq_true rfl) hn)) rfl 3 (by decide) w_539 rfl rfl rfl rfl rfl d_Seeker_playFrom_21 (fun s_3 f_s_3 H locs hw => ?_)
  replace hF := ltN hF f_s_3
  refine lv_aload_n hx hb d_Seeker_playFrom_24 rfl (lv_at hl 0 rfl) ?_
  refine r_get (v := .ref (ad 41)) K hw i_Seeker (sh_Seeker (Nat.le_trans (Nat.le_of_ble_eq_true rfl) hn)) rfl 0 (by decide) w_569 rfl rfl rfl d_Seeker_playFrom_25 ?_
  refine r_get (v := .ref (ad 42)) K hw i_Bout (sh_Bout (Nat.le_trans (Nat.le_of_ble_eq_true rfl) hn)) rfl 0 (by decide) w_531 rfl rfl rfl d_Seeker_playFrom_28 ?_
  refine lv_aload_n hx hb d_Seeker_playFrom_31 rfl (lv_at hl 0 rfl) ?_
  refine r_get (v := .ref (ad 48)) K hw i_Seeker (sh_Seeker (Nat.le_trans (Nat.le_of_ble_eq_true rfl) hn)) rfl 2 (by decide) w_571 rfl rfl rfl d_Seeker_playFrom_32 ?_
  refine lv_iload_n hx hb d_Seeker_playFrom_35 rfl (lv_at hl 1 rfl) ?_
  obtain ⟨g_4, hF⟩ := ifG hF
  refine r_iald (k := v1.toNatClampNeg) K hw (sh_a48 (Nat.le_trans (Nat.le_of_ble_eq_true rfl) hn)) rfl (inB_vp g_4) d_Seeker_playFrom_36 ?_
  refine r_putI K hw i_Side t_Side t_Side_ok n_Side (sh_Side (by decide) (Nat.le_trans (Nat.le_of_ble_eq_true rfl) hn)) rfl 1 (by decide) w_512 rfl rfl rfl rfl rfl d_Seeker_playFrom_37 (fun s_5 f_s_5 H locs hw => ?_)
  replace hF := ltN hF f_s_5
  refine lv_aload_n hx hb d_Seeker_playFrom_40 rfl (lv_at hl 0 rfl) ?_
  refine r_get (v := .ref (ad 41)) K hw i_Seeker (sh_Seeker (Nat.le_trans (Nat.le_of_ble_eq_true rfl) hn)) rfl 0 (by decide) w_569 rfl rfl rfl d_Seeker_playFrom_41 ?_
  refine r_get (v := .ref (ad 44)) K hw i_Bout (sh_Bout (Nat.le_trans (Nat.le_of_ble_eq_true rfl) hn)) rfl 1 (by decide) w_534 rfl rfl rfl d_Seeker_playFrom_44 ?_
  refine lv_aload_n hx hb d_Seeker_playFrom_47 rfl (lv_at hl 0 rfl) ?_
  refine r_get (v := .ref (ad 49)) K hw i_Seeker (sh_Seeker (Nat.le_trans (Nat.le_of_ble_eq_true rfl) hn)) rfl 3 (by decide) w_572 rfl rfl rfl d_Seeker_playFrom_48 ?_
  refine lv_iload_n hx hb d_Seeker_playFrom_51 rfl (lv_at hl 1 rfl) ?_
  obtain ⟨g_6, hF⟩ := ifG hF
  refine r_iald (k := v1.toNatClampNeg) K hw (sh_a49 (Nat.le_trans (Nat.le_of_ble_eq_true rfl) hn)) rfl (inB_vp g_6) d_Seeker_playFrom_52 ?_
  refine r_putI K hw i_Side t_Side t_Side_ok n_Side (sh_Side (by decide) (Nat.le_trans (Nat.le_of_ble_eq_true rfl) hn)) rfl 1 (by decide) w_512 rfl rfl rfl rfl rfl d_Seeker_playFrom_53 (fun s_7 f_s_7 H locs hw => ?_)
  replace hF := ltN hF f_s_7
  refine lv_iload_n hx hb d_Seeker_playFrom_56 rfl (lv_at hl 1 rfl) ?_
  refine lv_istore_n (lv' := [(2, .int v1), (0, .ref (ad 46)), (1, .int v1)]) hx hb d_Seeker_playFrom_57 rfl hl (by decide) rfl (fun ls hl => ?_)
  exact q_Seeker_playFrom_58 hn K FU _ _ _ _ _  hw (lv_sub hl [1, 0] rfl) hF
end S_Seeker_playFrom
noncomputable abbrev F_Seeker_playFrom := F_Seeker_playFrom_0
theorem c_Seeker_playFrom {l : Launch} {D : va_G} {cA : Nat → ClassId} {ad : Nat → Nat} {s0 τ : St} {nC : Nat} (hn : 50 ≤ nC) {v1 : Int32}  (hF : F_Seeker_playFrom s0 v1 = (some τ)) : MV l D cA ad (shC.take nC) y_Seeker_playFrom (wT y_Seeker_playFrom b_Seeker_playFrom 3 none) rm_Seeker_playFrom [.ref (ad 46), .int v1] s0 τ := fun sz => m_start (Qc := fun A => QcV D cA ad (shC.take nC) A τ) (by decide +kernel) w_808 (Nat.le_of_ble_eq_true rfl) (fun p e s m below meth c ls K hl hw => q_Seeker_playFrom_0 hn K _ _ _ _ _  hw hl hF)

/-! Seeker.take()V -/
abbrev b_Seeker_take : ByteArray := prog_6_method_7_code
def y_Seeker_take : MethodName := ⟨R_Seeker, "take", "()V"⟩
theorem a_Seeker_take : y_Seeker_take.cls = R_Seeker ∧ y_Seeker_take.cls ≠ "java/lang/invoke/MethodHandle" ∧ y_Seeker_take.cls ≠ "java/lang/invoke/VarHandle" ∧ (parseMethodDescriptor y_Seeker_take.desc).map (fun d => d.parameters.length) = some 0 := by decide +kernel
abbrev rm_Seeker_take : Room := { frames := 0, cells := 0, slots := 0, locals := 0 }
theorem w_514 : Cond.fieldLink R_Seeker 31 R_Side "plan" "I" ∈ TB := tb_in 514 (by decide +kernel) (by decide +kernel)
theorem w_573 : Cond.fieldLink R_Seeker 75 R_Seeker "plan" "I" ∈ TB := tb_in 573 (by decide +kernel) (by decide +kernel)
theorem w_817 : Cond.code y_Seeker_take b_Seeker_take 1 none ∈ TB := tb_in 817 (by decide +kernel) (by decide +kernel)
theorem d_Seeker_take_0 : decode b_Seeker_take 0 = .ok (.aload_n 0, 1) := by decide +kernel
theorem d_Seeker_take_1 : decode b_Seeker_take 1 = .ok (.aload_n 0, 1) := by decide +kernel
theorem d_Seeker_take_2 : decode b_Seeker_take 2 = .ok (.getfield 21, 3) := by decide +kernel
theorem d_Seeker_take_5 : decode b_Seeker_take 5 = .ok (.getfield 25, 3) := by decide +kernel
theorem d_Seeker_take_8 : decode b_Seeker_take 8 = .ok (.getfield 31, 3) := by decide +kernel
theorem d_Seeker_take_11 : decode b_Seeker_take 11 = .ok (.putfield 75, 3) := by decide +kernel
theorem d_Seeker_take_14 : decode b_Seeker_take 14 = .ok (.aload_n 0, 1) := by decide +kernel
theorem d_Seeker_take_15 : decode b_Seeker_take 15 = .ok (.aload_n 0, 1) := by decide +kernel
theorem d_Seeker_take_16 : decode b_Seeker_take 16 = .ok (.getfield 21, 3) := by decide +kernel
theorem d_Seeker_take_19 : decode b_Seeker_take 19 = .ok (.getfield 55, 3) := by decide +kernel
theorem d_Seeker_take_22 : decode b_Seeker_take 22 = .ok (.putfield 73, 3) := by decide +kernel
theorem d_Seeker_take_25 : decode b_Seeker_take 25 = .ok (.aload_n 0, 1) := by decide +kernel
theorem d_Seeker_take_26 : decode b_Seeker_take 26 = .ok (.aload_n 0, 1) := by decide +kernel
theorem d_Seeker_take_27 : decode b_Seeker_take 27 = .ok (.getfield 21, 3) := by decide +kernel
theorem d_Seeker_take_30 : decode b_Seeker_take 30 = .ok (.getfield 25, 3) := by decide +kernel
theorem d_Seeker_take_33 : decode b_Seeker_take 33 = .ok (.getfield 64, 3) := by decide +kernel
theorem d_Seeker_take_36 : decode b_Seeker_take 36 = .ok (.putfield 74, 3) := by decide +kernel
theorem d_Seeker_take_39 : decode b_Seeker_take 39 = .ok (.return_, 1) := by decide +kernel
section S_Seeker_take
variable {p : Program} {l : Launch} {e : Env} {s : State} {m : MethodId} {args : Array Value} {below : List Frame} {meth : Method} {c : Code} {D : va_G} {cA : Nat → ClassId} {ad : Nat → Nat} {nC : Nat} {A : Nat → Prop} {τ : St}
noncomputable def F_Seeker_take_0 (s0 : St) : St := (lt (up1 s0 46 4 (s0.1 42 2)) (fun s_1 => (lt (up1 s_1 46 5 (s_1.1 41 3)) (fun s_2 => (lt (up1 s_2 46 6 (s_2.1 42 1)) (fun s_3 => s_3))))))
set_option maxHeartbeats 4000000 in
set_option maxRecDepth 100000 in
theorem q_Seeker_take_0 (hn : 47 ≤ nC) (K : Fx p s m args meth c b_Seeker_take 1 R_Seeker none)  : ∀ (H : Heap) (locs : List Loc) (ls : Array Slot) (s0 : St), Wh D cA ad (shC.take nC) A s s0 H locs → lv_has ls 1 [(0, .ref (ad 46))] → F_Seeker_take_0 s0 = τ → W p l e rm_Seeker_take s m args below meth c H locs 0 0 (MQ below (QcV D cA ad (shC.take nC) A τ) args s 0 0 A) (F0 m 0 ls []) := by
  have hx := K.1.1; have hb := K.1.2.1
  intro H locs ls s0 hw hl hF
  unfold F_Seeker_take_0 at hF
  refine lv_aload_n hx hb d_Seeker_take_0 rfl (lv_at hl 0 rfl) ?_
  refine lv_aload_n hx hb d_Seeker_take_1 rfl (lv_at hl 0 rfl) ?_
  refine r_get (v := .ref (ad 41)) K hw i_Seeker (sh_Seeker (Nat.le_trans (Nat.le_of_ble_eq_true rfl) hn)) rfl 0 (by decide) w_569 rfl rfl rfl d_Seeker_take_2 ?_
  refine r_get (v := .ref (ad 42)) K hw i_Bout (sh_Bout (Nat.le_trans (Nat.le_of_ble_eq_true rfl) hn)) rfl 0 (by decide) w_531 rfl rfl rfl d_Seeker_take_5 ?_
  refine r_get (v := .int (s0.1 42 2)) K hw i_Side (sh_Side (by decide) (Nat.le_trans (Nat.le_of_ble_eq_true rfl) hn)) rfl 2 (by decide) w_514 rfl rfl rfl d_Seeker_take_8 ?_
  refine r_putI K hw i_Seeker t_Seeker t_Seeker_ok n_Seeker (sh_Seeker (Nat.le_trans (Nat.le_of_ble_eq_true rfl) hn)) rfl 4 (by decide) w_573 rfl rfl rfl rfl rfl d_Seeker_take_11 (fun s_1 f_s_1 H locs hw => ?_)
  replace hF := ltN hF f_s_1
  refine lv_aload_n hx hb d_Seeker_take_14 rfl (lv_at hl 0 rfl) ?_
  refine lv_aload_n hx hb d_Seeker_take_15 rfl (lv_at hl 0 rfl) ?_
  refine r_get (v := .ref (ad 41)) K hw i_Seeker (sh_Seeker (Nat.le_trans (Nat.le_of_ble_eq_true rfl) hn)) rfl 0 (by decide) w_569 rfl rfl rfl d_Seeker_take_16 ?_
  refine r_get (v := .int (s_1.1 41 3)) K hw i_Bout (sh_Bout (Nat.le_trans (Nat.le_of_ble_eq_true rfl) hn)) rfl 3 (by decide) w_539 rfl rfl rfl d_Seeker_take_19 ?_
  refine r_putI K hw i_Seeker t_Seeker t_Seeker_ok n_Seeker (sh_Seeker (Nat.le_trans (Nat.le_of_ble_eq_true rfl) hn)) rfl 5 (by decide) w_575 rfl rfl rfl rfl rfl d_Seeker_take_22 (fun s_2 f_s_2 H locs hw => ?_)
  replace hF := ltN hF f_s_2
  refine lv_aload_n hx hb d_Seeker_take_25 rfl (lv_at hl 0 rfl) ?_
  refine lv_aload_n hx hb d_Seeker_take_26 rfl (lv_at hl 0 rfl) ?_
  refine r_get (v := .ref (ad 41)) K hw i_Seeker (sh_Seeker (Nat.le_trans (Nat.le_of_ble_eq_true rfl) hn)) rfl 0 (by decide) w_569 rfl rfl rfl d_Seeker_take_27 ?_
  refine r_get (v := .ref (ad 42)) K hw i_Bout (sh_Bout (Nat.le_trans (Nat.le_of_ble_eq_true rfl) hn)) rfl 0 (by decide) w_531 rfl rfl rfl d_Seeker_take_30 ?_
  refine r_get (v := .int (s_2.1 42 1)) K hw i_Side (sh_Side (by decide) (Nat.le_trans (Nat.le_of_ble_eq_true rfl) hn)) rfl 1 (by decide) w_512 rfl rfl rfl d_Seeker_take_33 ?_
  refine r_putI K hw i_Seeker t_Seeker t_Seeker_ok n_Seeker (sh_Seeker (Nat.le_trans (Nat.le_of_ble_eq_true rfl) hn)) rfl 6 (by decide) w_577 rfl rfl rfl rfl rfl d_Seeker_take_36 (fun s_3 f_s_3 H locs hw => ?_)
  replace hF := ltN hF f_s_3
  subst hF
  exact r_vret K hw d_Seeker_take_39
end S_Seeker_take
noncomputable abbrev F_Seeker_take := F_Seeker_take_0
theorem c_Seeker_take {l : Launch} {D : va_G} {cA : Nat → ClassId} {ad : Nat → Nat} {s0 τ : St} {nC : Nat} (hn : 47 ≤ nC)   (hF : F_Seeker_take s0 = τ) : MV l D cA ad (shC.take nC) y_Seeker_take (wT y_Seeker_take b_Seeker_take 1 none) rm_Seeker_take [.ref (ad 46)] s0 τ := fun sz => m_start (Qc := fun A => QcV D cA ad (shC.take nC) A τ) (by decide +kernel) w_817 (Nat.le_of_ble_eq_true rfl) (fun p e s m below meth c ls K hl hw => q_Seeker_take_0 hn K _ _ _ _   hw hl hF)

/-! Seeker.seek()V -/
abbrev b_Seeker_seek : ByteArray := prog_6_method_2_code
def y_Seeker_seek : MethodName := ⟨R_Seeker, "seek", "()V"⟩
theorem a_Seeker_seek : y_Seeker_seek.cls = R_Seeker ∧ y_Seeker_seek.cls ≠ "java/lang/invoke/MethodHandle" ∧ y_Seeker_seek.cls ≠ "java/lang/invoke/VarHandle" ∧ (parseMethodDescriptor y_Seeker_seek.desc).map (fun d => d.parameters.length) = some 0 := by decide +kernel
abbrev rm_Seeker_seek : Room := { frames := 6, cells := 0, slots := 0, locals := 138 }
theorem w_802 : Cond.methodLink R_Seeker 41 y_Seeker_firstOther ∈ TB := tb_in 802 (by decide +kernel) (by decide +kernel)
theorem w_803 : Cond.static y_Seeker_firstOther ∈ TB := tb_in 803 (by decide +kernel) (by decide +kernel)
theorem w_805 : Cond.methodLink R_Seeker 45 y_Seeker_playFrom ∈ TB := tb_in 805 (by decide +kernel) (by decide +kernel)
theorem w_807 : Cond.instanceMethod y_Seeker_playFrom ∈ TB := tb_in 807 (by decide +kernel) (by decide +kernel)
theorem w_21 : Cond.selects R_Seeker y_Seeker_playFrom y_Seeker_playFrom ∈ TB := tb_in 21 (by decide +kernel) (by decide +kernel)
theorem w_814 : Cond.methodLink R_Seeker 52 y_Seeker_take ∈ TB := tb_in 814 (by decide +kernel) (by decide +kernel)
theorem w_816 : Cond.instanceMethod y_Seeker_take ∈ TB := tb_in 816 (by decide +kernel) (by decide +kernel)
theorem w_23 : Cond.selects R_Seeker y_Seeker_take y_Seeker_take ∈ TB := tb_in 23 (by decide +kernel) (by decide +kernel)
theorem w_579 : Cond.fieldLink R_Seeker 58 R_Seeker "ownAngle" "I" ∈ TB := tb_in 579 (by decide +kernel) (by decide +kernel)
theorem w_810 : Cond.methodLink R_Seeker 48 y_Seeker_isBetter ∈ TB := tb_in 810 (by decide +kernel) (by decide +kernel)
theorem w_812 : Cond.instanceMethod y_Seeker_isBetter ∈ TB := tb_in 812 (by decide +kernel) (by decide +kernel)
theorem w_22 : Cond.selects R_Seeker y_Seeker_isBetter y_Seeker_isBetter ∈ TB := tb_in 22 (by decide +kernel) (by decide +kernel)
theorem w_797 : Cond.code y_Seeker_seek b_Seeker_seek 3 none ∈ TB := tb_in 797 (by decide +kernel) (by decide +kernel)
theorem d_Seeker_seek_0 : decode b_Seeker_seek 0 = .ok (.aload_n 0, 1) := by decide +kernel
theorem d_Seeker_seek_1 : decode b_Seeker_seek 1 = .ok (.getfield 21, 3) := by decide +kernel
theorem d_Seeker_seek_4 : decode b_Seeker_seek 4 = .ok (.getfield 25, 3) := by decide +kernel
theorem d_Seeker_seek_7 : decode b_Seeker_seek 7 = .ok (.getfield 31, 3) := by decide +kernel
theorem d_Seeker_seek_10 : decode b_Seeker_seek 10 = .ok (.istore_n 1, 1) := by decide +kernel
theorem d_Seeker_seek_11 : decode b_Seeker_seek 11 = .ok (.aload_n 0, 1) := by decide +kernel
theorem d_Seeker_seek_12 : decode b_Seeker_seek 12 = .ok (.iconst 0, 1) := by decide +kernel
theorem d_Seeker_seek_13 : decode b_Seeker_seek 13 = .ok (.invokevirtual 37, 3) := by decide +kernel
theorem d_Seeker_seek_16 : decode b_Seeker_seek 16 = .ok (.iconst 0, 1) := by decide +kernel
theorem d_Seeker_seek_17 : decode b_Seeker_seek 17 = .ok (.istore_n 2, 1) := by decide +kernel
theorem d_Seeker_seek_18 : decode b_Seeker_seek 18 = .ok (.iload_n 2, 1) := by decide +kernel
theorem d_Seeker_seek_19 : decode b_Seeker_seek 19 = .ok (.sipush 256, 3) := by decide +kernel
theorem d_Seeker_seek_22 : decode b_Seeker_seek 22 = .ok (.if_icmp .ge 98, 3) := by decide +kernel
theorem d_Seeker_seek_25 : decode b_Seeker_seek 25 = .ok (.aload_n 0, 1) := by decide +kernel
theorem d_Seeker_seek_26 : decode b_Seeker_seek 26 = .ok (.getfield 21, 3) := by decide +kernel
theorem d_Seeker_seek_29 : decode b_Seeker_seek 29 = .ok (.getfield 25, 3) := by decide +kernel
theorem d_Seeker_seek_32 : decode b_Seeker_seek 32 = .ok (.iload_n 2, 1) := by decide +kernel
theorem d_Seeker_seek_33 : decode b_Seeker_seek 33 = .ok (.bipush 64, 2) := by decide +kernel
theorem d_Seeker_seek_35 : decode b_Seeker_seek 35 = .ok (.idiv, 1) := by decide +kernel
theorem d_Seeker_seek_36 : decode b_Seeker_seek 36 = .ok (.sipush 1000, 3) := by decide +kernel
theorem d_Seeker_seek_39 : decode b_Seeker_seek 39 = .ok (.imul, 1) := by decide +kernel
theorem d_Seeker_seek_40 : decode b_Seeker_seek 40 = .ok (.iload_n 2, 1) := by decide +kernel
theorem d_Seeker_seek_41 : decode b_Seeker_seek 41 = .ok (.bipush 16, 2) := by decide +kernel
theorem d_Seeker_seek_43 : decode b_Seeker_seek 43 = .ok (.idiv, 1) := by decide +kernel
theorem d_Seeker_seek_44 : decode b_Seeker_seek 44 = .ok (.iconst 4, 1) := by decide +kernel
theorem d_Seeker_seek_45 : decode b_Seeker_seek 45 = .ok (.irem, 1) := by decide +kernel
theorem d_Seeker_seek_46 : decode b_Seeker_seek 46 = .ok (.bipush 100, 2) := by decide +kernel
theorem d_Seeker_seek_48 : decode b_Seeker_seek 48 = .ok (.imul, 1) := by decide +kernel
theorem d_Seeker_seek_49 : decode b_Seeker_seek 49 = .ok (.iadd, 1) := by decide +kernel
theorem d_Seeker_seek_50 : decode b_Seeker_seek 50 = .ok (.iload_n 2, 1) := by decide +kernel
theorem d_Seeker_seek_51 : decode b_Seeker_seek 51 = .ok (.iconst 4, 1) := by decide +kernel
theorem d_Seeker_seek_52 : decode b_Seeker_seek 52 = .ok (.idiv, 1) := by decide +kernel
theorem d_Seeker_seek_53 : decode b_Seeker_seek 53 = .ok (.iconst 4, 1) := by decide +kernel
theorem d_Seeker_seek_54 : decode b_Seeker_seek 54 = .ok (.irem, 1) := by decide +kernel
theorem d_Seeker_seek_55 : decode b_Seeker_seek 55 = .ok (.bipush 10, 2) := by decide +kernel
theorem d_Seeker_seek_57 : decode b_Seeker_seek 57 = .ok (.imul, 1) := by decide +kernel
theorem d_Seeker_seek_58 : decode b_Seeker_seek 58 = .ok (.iadd, 1) := by decide +kernel
theorem d_Seeker_seek_59 : decode b_Seeker_seek 59 = .ok (.iload_n 2, 1) := by decide +kernel
theorem d_Seeker_seek_60 : decode b_Seeker_seek 60 = .ok (.iconst 4, 1) := by decide +kernel
theorem d_Seeker_seek_61 : decode b_Seeker_seek 61 = .ok (.irem, 1) := by decide +kernel
theorem d_Seeker_seek_62 : decode b_Seeker_seek 62 = .ok (.iadd, 1) := by decide +kernel
theorem d_Seeker_seek_63 : decode b_Seeker_seek 63 = .ok (.putfield 31, 3) := by decide +kernel
theorem d_Seeker_seek_66 : decode b_Seeker_seek 66 = .ok (.aload_n 0, 1) := by decide +kernel
theorem d_Seeker_seek_67 : decode b_Seeker_seek 67 = .ok (.iload_n 2, 1) := by decide +kernel
theorem d_Seeker_seek_68 : decode b_Seeker_seek 68 = .ok (.invokestatic 41, 3) := by decide +kernel
theorem d_Seeker_seek_71 : decode b_Seeker_seek 71 = .ok (.invokevirtual 45, 3) := by decide +kernel
theorem d_Seeker_seek_74 : decode b_Seeker_seek 74 = .ok (.iload_n 2, 1) := by decide +kernel
theorem d_Seeker_seek_75 : decode b_Seeker_seek 75 = .ok (.ifCond .eq 10, 3) := by decide +kernel
theorem d_Seeker_seek_78 : decode b_Seeker_seek 78 = .ok (.aload_n 0, 1) := by decide +kernel
theorem d_Seeker_seek_79 : decode b_Seeker_seek 79 = .ok (.invokevirtual 48, 3) := by decide +kernel
theorem d_Seeker_seek_82 : decode b_Seeker_seek 82 = .ok (.ifCond .eq 7, 3) := by decide +kernel
theorem d_Seeker_seek_85 : decode b_Seeker_seek 85 = .ok (.aload_n 0, 1) := by decide +kernel
theorem d_Seeker_seek_86 : decode b_Seeker_seek 86 = .ok (.invokevirtual 52, 3) := by decide +kernel
theorem d_Seeker_seek_89 : decode b_Seeker_seek 89 = .ok (.aload_n 0, 1) := by decide +kernel
theorem d_Seeker_seek_90 : decode b_Seeker_seek 90 = .ok (.getfield 21, 3) := by decide +kernel
theorem d_Seeker_seek_93 : decode b_Seeker_seek 93 = .ok (.getfield 25, 3) := by decide +kernel
theorem d_Seeker_seek_96 : decode b_Seeker_seek 96 = .ok (.getfield 31, 3) := by decide +kernel
theorem d_Seeker_seek_99 : decode b_Seeker_seek 99 = .ok (.iload_n 1, 1) := by decide +kernel
theorem d_Seeker_seek_100 : decode b_Seeker_seek 100 = .ok (.if_icmp .ne 14, 3) := by decide +kernel
theorem d_Seeker_seek_103 : decode b_Seeker_seek 103 = .ok (.aload_n 0, 1) := by decide +kernel
theorem d_Seeker_seek_104 : decode b_Seeker_seek 104 = .ok (.aload_n 0, 1) := by decide +kernel
theorem d_Seeker_seek_105 : decode b_Seeker_seek 105 = .ok (.getfield 21, 3) := by decide +kernel
theorem d_Seeker_seek_108 : decode b_Seeker_seek 108 = .ok (.getfield 55, 3) := by decide +kernel
theorem d_Seeker_seek_111 : decode b_Seeker_seek 111 = .ok (.putfield 58, 3) := by decide +kernel
theorem d_Seeker_seek_114 : decode b_Seeker_seek 114 = .ok (.iinc 2 1, 3) := by decide +kernel
theorem d_Seeker_seek_117 : decode b_Seeker_seek 117 = .ok (.goto (-99), 3) := by decide +kernel
theorem d_Seeker_seek_120 : decode b_Seeker_seek 120 = .ok (.return_, 1) := by decide +kernel
section S_Seeker_seek
variable {p : Program} {l : Launch} {e : Env} {s : State} {m : MethodId} {args : Array Value} {below : List Frame} {meth : Method} {c : Code} {D : va_G} {cA : Nat → ClassId} {ad : Nat → Nat} {nC : Nat} {A : Nat → Prop} {τ : St}
noncomputable def F_Seeker_seek_114 (k10 : (St → Int32 → Int32 → Option St)) (s0 : St) (v1 : Int32) (v2 : Int32) : Option St := (k10 s0 v1 (v2 + 1))
set_option maxHeartbeats 4000000 in
set_option maxRecDepth 100000 in
theorem q_Seeker_seek_114 (hn : 50 ≤ nC) (K : Fx p s m args meth c b_Seeker_seek 3 R_Seeker none) (k10 : (St → Int32 → Int32 → Option St)) (hk10 : ∀ (H : Heap) (locs : List Loc) (ls : Array Slot) (s0 : St) (v1 : Int32) (v2 : Int32), Wh D cA ad (shC.take nC) A s s0 H locs → lv_has ls 3 [(0, .ref (ad 46)), (1, .int v1), (2, .int v2)] → k10 s0 v1 v2 = (some τ) → W p l e rm_Seeker_seek s m args below meth c H locs 0 0 (MQ below (QcV D cA ad (shC.take nC) A τ) args s 0 0 A) (F0 m 18 ls [])) : ∀ (H : Heap) (locs : List Loc) (ls : Array Slot) (s0 : St) (v1 : Int32) (v2 : Int32), Wh D cA ad (shC.take nC) A s s0 H locs → lv_has ls 3 [(0, .ref (ad 46)), (1, .int v1), (2, .int v2)] → F_Seeker_seek_114 k10 s0 v1 v2 = (some τ) → W p l e rm_Seeker_seek s m args below meth c H locs 0 0 (MQ below (QcV D cA ad (shC.take nC) A τ) args s 0 0 A) (F0 m 114 ls []) := by
  have hx := K.1.1; have hb := K.1.2.1
  intro H locs ls s0 v1 v2 hw hl hF
  unfold F_Seeker_seek_114 at hF
  refine lv_iinc (v := (v2 + 1)) (lv' := [(2, .int (v2 + 1)), (0, .ref (ad 46)), (1, .int v1)]) hx hb d_Seeker_seek_114 hl (k := 2) rfl rfl (by decide) rfl (fun ls hl => ?_)
  refine lv_goto (tgt := 18) hx hb d_Seeker_seek_117 (by decide) ?_
  exact hk10 _ _ _ _ _ _  hw (lv_sub hl [1, 2, 0] rfl) hF
noncomputable def F_Seeker_seek_89 (k10 : (St → Int32 → Int32 → Option St)) (s0 : St) (v1 : Int32) (v2 : Int32) : Option St := (if ¬ (s0.1 42 2) = v1 then (F_Seeker_seek_114 k10 s0 v1 v2) else (lt (up1 s0 46 7 (s0.1 41 3)) (fun s_8 => (F_Seeker_seek_114 k10 s_8 v1 v2))))
set_option maxHeartbeats 4000000 in
set_option maxRecDepth 100000 in
theorem q_Seeker_seek_89 (hn : 50 ≤ nC) (K : Fx p s m args meth c b_Seeker_seek 3 R_Seeker none) (k10 : (St → Int32 → Int32 → Option St)) (hk10 : ∀ (H : Heap) (locs : List Loc) (ls : Array Slot) (s0 : St) (v1 : Int32) (v2 : Int32), Wh D cA ad (shC.take nC) A s s0 H locs → lv_has ls 3 [(0, .ref (ad 46)), (1, .int v1), (2, .int v2)] → k10 s0 v1 v2 = (some τ) → W p l e rm_Seeker_seek s m args below meth c H locs 0 0 (MQ below (QcV D cA ad (shC.take nC) A τ) args s 0 0 A) (F0 m 18 ls [])) : ∀ (H : Heap) (locs : List Loc) (ls : Array Slot) (s0 : St) (v1 : Int32) (v2 : Int32), Wh D cA ad (shC.take nC) A s s0 H locs → lv_has ls 3 [(0, .ref (ad 46)), (1, .int v1), (2, .int v2)] → F_Seeker_seek_89 k10 s0 v1 v2 = (some τ) → W p l e rm_Seeker_seek s m args below meth c H locs 0 0 (MQ below (QcV D cA ad (shC.take nC) A τ) args s 0 0 A) (F0 m 89 ls []) := by
  have hx := K.1.1; have hb := K.1.2.1
  intro H locs ls s0 v1 v2 hw hl hF
  unfold F_Seeker_seek_89 at hF
  refine lv_aload_n hx hb d_Seeker_seek_89 rfl (lv_at hl 0 rfl) ?_
  refine r_get (v := .ref (ad 41)) K hw i_Seeker (sh_Seeker (Nat.le_trans (Nat.le_of_ble_eq_true rfl) hn)) rfl 0 (by decide) w_569 rfl rfl rfl d_Seeker_seek_90 ?_
  refine r_get (v := .ref (ad 42)) K hw i_Bout (sh_Bout (Nat.le_trans (Nat.le_of_ble_eq_true rfl) hn)) rfl 0 (by decide) w_531 rfl rfl rfl d_Seeker_seek_93 ?_
  refine r_get (v := .int (s0.1 42 2)) K hw i_Side (sh_Side (by decide) (Nat.le_trans (Nat.le_of_ble_eq_true rfl) hn)) rfl 2 (by decide) w_514 rfl rfl rfl d_Seeker_seek_96 ?_
  refine lv_iload_n hx hb d_Seeker_seek_99 rfl (lv_at hl 1 rfl) ?_
  refine lv_icmp_ne (tgt := 114) hx hb d_Seeker_seek_100 (by decide) (fun c_7 => ?_) (fun c_7 => ?_)
  · replace hF := ifT hF c_7
    exact q_Seeker_seek_114 hn K k10 hk10 _ _ _ _ _ _  hw (lv_sub hl [0, 1, 2] rfl) hF
  · replace hF := ifN hF c_7
    refine lv_aload_n hx hb d_Seeker_seek_103 rfl (lv_at hl 0 rfl) ?_
    refine lv_aload_n hx hb d_Seeker_seek_104 rfl (lv_at hl 0 rfl) ?_
    refine r_get (v := .ref (ad 41)) K hw i_Seeker (sh_Seeker (Nat.le_trans (Nat.le_of_ble_eq_true rfl) hn)) rfl 0 (by decide) w_569 rfl rfl rfl d_Seeker_seek_105 ?_
    refine r_get (v := .int (s0.1 41 3)) K hw i_Bout (sh_Bout (Nat.le_trans (Nat.le_of_ble_eq_true rfl) hn)) rfl 3 (by decide) w_539 rfl rfl rfl d_Seeker_seek_108 ?_
    refine r_putI K hw i_Seeker t_Seeker t_Seeker_ok n_Seeker (sh_Seeker (Nat.le_trans (Nat.le_of_ble_eq_true rfl) hn)) rfl 7 (by decide) w_579 rfl rfl rfl rfl rfl d_Seeker_seek_111 (fun s_8 f_s_8 H locs hw => ?_)
    replace hF := ltN hF f_s_8
    exact q_Seeker_seek_114 hn K k10 hk10 _ _ _ _ _ _  hw (lv_sub hl [0, 1, 2] rfl) hF
noncomputable def F_Seeker_seek_85 (k10 : (St → Int32 → Int32 → Option St)) (s0 : St) (v1 : Int32) (v2 : Int32) : Option St := (lt (F_Seeker_take s0 ) (fun s_6 => (F_Seeker_seek_89 k10 s_6 v1 v2)))
set_option maxHeartbeats 4000000 in
set_option maxRecDepth 100000 in
theorem q_Seeker_seek_85 (hn : 50 ≤ nC) (K : Fx p s m args meth c b_Seeker_seek 3 R_Seeker none) (k10 : (St → Int32 → Int32 → Option St)) (hk10 : ∀ (H : Heap) (locs : List Loc) (ls : Array Slot) (s0 : St) (v1 : Int32) (v2 : Int32), Wh D cA ad (shC.take nC) A s s0 H locs → lv_has ls 3 [(0, .ref (ad 46)), (1, .int v1), (2, .int v2)] → k10 s0 v1 v2 = (some τ) → W p l e rm_Seeker_seek s m args below meth c H locs 0 0 (MQ below (QcV D cA ad (shC.take nC) A τ) args s 0 0 A) (F0 m 18 ls [])) : ∀ (H : Heap) (locs : List Loc) (ls : Array Slot) (s0 : St) (v1 : Int32) (v2 : Int32), Wh D cA ad (shC.take nC) A s s0 H locs → lv_has ls 3 [(0, .ref (ad 46)), (1, .int v1), (2, .int v2)] → F_Seeker_seek_85 k10 s0 v1 v2 = (some τ) → W p l e rm_Seeker_seek s m args below meth c H locs 0 0 (MQ below (QcV D cA ad (shC.take nC) A τ) args s 0 0 A) (F0 m 85 ls []) := by
  have hx := K.1.1; have hb := K.1.2.1
  intro H locs ls s0 v1 v2 hw hl hF
  unfold F_Seeker_seek_85 at hF
  refine lv_aload_n hx hb d_Seeker_seek_85 rfl (lv_at hl 0 rfl) ?_
  obtain ⟨s_6, e_s_6, hF⟩ := ltE hF
  refine r_callVV (As := []) (rest := []) K hw hl.1 (c_Seeker_take (l := l) (D := D) (cA := cA) (ad := ad) (s0 := s0) (Nat.le_trans (Nat.le_of_ble_eq_true rfl) hn)  e_s_6.symm) (sh_Seeker (Nat.le_trans (Nat.le_of_ble_eq_true rfl) hn)) rfl (tb_gV w_814 w_816 w_23 w_79 w_817) a_Seeker_take ⟨rfl, rfl, Nat.le_of_ble_eq_true rfl, Nat.le_of_ble_eq_true rfl⟩ rfl rfl (Nat.le_of_ble_eq_true rfl) d_Seeker_seek_86 (fun H locs hw => ?_)
  exact q_Seeker_seek_89 hn K k10 hk10 _ _ _ _ _ _  hw (lv_sub hl [0, 1, 2] rfl) hF
noncomputable def F_Seeker_seek_18 : Nat → St → Int32 → Int32 → Option St
  | 0, _, _, _ => none
  | n + 1, s0, v1, v2 => (if (256 : Int32) ≤ v2 then (some s0) else (lt (up1 s0 42 2 (((((v2 / (64 : Int32)) * (1000 : Int32)) + ((jrem (v2 / (16 : Int32)) (4 : Int32)) * (100 : Int32))) + ((jrem (v2 / (4 : Int32)) (4 : Int32)) * (10 : Int32))) + (jrem v2 (4 : Int32)))) (fun s_3 => (ob1 (F_Seeker_playFrom s_3 (F_Seeker_firstOther v2)) (fun s_4 => (if v2 = 0 then (F_Seeker_seek_85 (fun z0 zv1 zv2 => F_Seeker_seek_18 n z0 zv1 zv2) s_4 v1 v2) else (if (F_Seeker_isBetter s_4 ) = 0 then (F_Seeker_seek_89 (fun z0 zv1 zv2 => F_Seeker_seek_18 n z0 zv1 zv2) s_4 v1 v2) else (F_Seeker_seek_85 (fun z0 zv1 zv2 => F_Seeker_seek_18 n z0 zv1 zv2) s_4 v1 v2))))))))
set_option maxHeartbeats 4000000 in
set_option maxRecDepth 100000 in
theorem q_Seeker_seek_18 (hn : 50 ≤ nC) (K : Fx p s m args meth c b_Seeker_seek 3 R_Seeker none)  : ∀ (n : Nat), ∀ (H : Heap) (locs : List Loc) (ls : Array Slot) (s0 : St) (v1 : Int32) (v2 : Int32), Wh D cA ad (shC.take nC) A s s0 H locs → lv_has ls 3 [(0, .ref (ad 46)), (1, .int v1), (2, .int v2)] → F_Seeker_seek_18 n s0 v1 v2 = (some τ) → W p l e rm_Seeker_seek s m args below meth c H locs 0 0 (MQ below (QcV D cA ad (shC.take nC) A τ) args s 0 0 A) (F0 m 18 ls []) := by
  have hx := K.1.1; have hb := K.1.2.1
  intro n
  induction n with
  | zero =>
    intro H locs ls s0 v1 v2 hw hl hF
    exact absurd hF (by rw [F_Seeker_seek_18]; exact nofun)
  | succ n ih =>
    intro H locs ls s0 v1 v2 hw hl hF
    rw [F_Seeker_seek_18] at hF
    refine lv_iload_n hx hb d_Seeker_seek_18 rfl (lv_at hl 2 rfl) ?_
    refine lv_sipush (v := 256) hx hb d_Seeker_seek_19 (by decide) ?_
    refine lv_icmp_ge (tgt := 120) hx hb d_Seeker_seek_22 (by decide) (fun c_2 => ?_) (fun c_2 => ?_)
    · replace hF := ifT hF c_2
      replace hF := sE1 hF
      subst hF
      exact r_vret K hw d_Seeker_seek_120
    · replace hF := ifF hF c_2
      refine lv_aload_n hx hb d_Seeker_seek_25 rfl (lv_at hl 0 rfl) ?_
      refine r_get (v := .ref (ad 41)) K hw i_Seeker (sh_Seeker (Nat.le_trans (Nat.le_of_ble_eq_true rfl) hn)) rfl 0 (by decide) w_569 rfl rfl rfl d_Seeker_seek_26 ?_
      refine r_get (v := .ref (ad 42)) K hw i_Bout (sh_Bout (Nat.le_trans (Nat.le_of_ble_eq_true rfl) hn)) rfl 0 (by decide) w_531 rfl rfl rfl d_Seeker_seek_29 ?_
      refine lv_iload_n hx hb d_Seeker_seek_32 rfl (lv_at hl 2 rfl) ?_
      refine lv_bipush (v := 64) hx hb d_Seeker_seek_33 (by decide) ?_
      refine lv_idiv hx hb d_Seeker_seek_35 (by decide) ?_
      refine lv_sipush (v := 1000) hx hb d_Seeker_seek_36 (by decide) ?_
      refine lv_imul hx hb d_Seeker_seek_39 ?_
      refine lv_iload_n hx hb d_Seeker_seek_40 rfl (lv_at hl 2 rfl) ?_
      refine lv_bipush (v := 16) hx hb d_Seeker_seek_41 (by decide) ?_
      refine lv_idiv hx hb d_Seeker_seek_43 (by decide) ?_
      refine lv_iconst (v := 4) hx hb d_Seeker_seek_44 (by decide) ?_
      refine lv_irem hx hb d_Seeker_seek_45 (by decide) ?_
      refine lv_bipush (v := 100) hx hb d_Seeker_seek_46 (by decide) ?_
      refine lv_imul hx hb d_Seeker_seek_48 ?_
      refine lv_iadd hx hb d_Seeker_seek_49 ?_
      refine lv_iload_n hx hb d_Seeker_seek_50 rfl (lv_at hl 2 rfl) ?_
      refine lv_iconst (v := 4) hx hb d_Seeker_seek_51 (by decide) ?_
      refine lv_idiv hx hb d_Seeker_seek_52 (by decide) ?_
      refine lv_iconst (v := 4) hx hb d_Seeker_seek_53 (by decide) ?_
      refine lv_irem hx hb d_Seeker_seek_54 (by decide) ?_
      refine lv_bipush (v := 10) hx hb d_Seeker_seek_55 (by decide) ?_
      refine lv_imul hx hb d_Seeker_seek_57 ?_
      refine lv_iadd hx hb d_Seeker_seek_58 ?_
      refine lv_iload_n hx hb d_Seeker_seek_59 rfl (lv_at hl 2 rfl) ?_
      refine lv_iconst (v := 4) hx hb d_Seeker_seek_60 (by decide) ?_
      refine lv_irem hx hb d_Seeker_seek_61 (by decide) ?_
      refine lv_iadd hx hb d_Seeker_seek_62 ?_
      refine r_putI K hw i_Side t_Side t_Side_ok n_Side (sh_Side (by decide) (Nat.le_trans (Nat.le_of_ble_eq_true rfl) hn)) rfl 2 (by decide) w_514 rfl rfl rfl rfl rfl d_Seeker_seek_63 (fun s_3 f_s_3 H locs hw => ?_)
      replace hF := ltN hF f_s_3
      refine lv_aload_n hx hb d_Seeker_seek_66 rfl (lv_at hl 0 rfl) ?_
      refine lv_iload_n hx hb d_Seeker_seek_67 rfl (lv_at hl 2 rfl) ?_
      refine r_callSI (As := [.int v2]) (rest := [.ref (ad 46)]) K hw hl.1 (c_Seeker_firstOther (l := l) (D := D) (cA := cA) (ad := ad) (s0 := s_3) (Nat.le_trans (Nat.le_of_ble_eq_true rfl) hn)  rfl) (tb_gS w_802 w_803 w_79 w_804) a_Seeker_firstOther ⟨rfl, rfl, Nat.le_of_ble_eq_true rfl, Nat.le_of_ble_eq_true rfl⟩ rfl rfl (Nat.le_of_ble_eq_true rfl) d_Seeker_seek_68 (fun H locs hw => ?_)
      obtain ⟨s_4, h_s_4, hF⟩ := ob1E hF
      refine r_callVV (As := [.int (F_Seeker_firstOther v2)]) (rest := []) K hw hl.1 (c_Seeker_playFrom (l := l) (D := D) (cA := cA) (ad := ad) (s0 := s_3) (Nat.le_trans (Nat.le_of_ble_eq_true rfl) hn)  h_s_4) (sh_Seeker (Nat.le_trans (Nat.le_of_ble_eq_true rfl) hn)) rfl (tb_gV w_805 w_807 w_21 w_79 w_808) a_Seeker_playFrom ⟨rfl, rfl, Nat.le_of_ble_eq_true rfl, Nat.le_of_ble_eq_true rfl⟩ rfl rfl (Nat.le_of_ble_eq_true rfl) d_Seeker_seek_71 (fun H locs hw => ?_)
      refine lv_iload_n hx hb d_Seeker_seek_74 rfl (lv_at hl 2 rfl) ?_
      refine lv_if_eq (tgt := 85) hx hb d_Seeker_seek_75 (by decide) (fun c_5 => ?_) (fun c_5 => ?_)
      · replace hF := ifT hF c_5
        exact q_Seeker_seek_85 hn K (fun z0 zv1 zv2 => F_Seeker_seek_18 n z0 zv1 zv2) ih _ _ _ _ _ _  hw (lv_sub hl [0, 1, 2] rfl) hF
      · replace hF := ifF hF c_5
        refine lv_aload_n hx hb d_Seeker_seek_78 rfl (lv_at hl 0 rfl) ?_
        refine r_callVI (As := []) (rest := []) K hw hl.1 (c_Seeker_isBetter (l := l) (D := D) (cA := cA) (ad := ad) (s0 := s_4) (Nat.le_trans (Nat.le_of_ble_eq_true rfl) hn)  rfl) (sh_Seeker (Nat.le_trans (Nat.le_of_ble_eq_true rfl) hn)) rfl (tb_gV w_810 w_812 w_22 w_79 w_813) a_Seeker_isBetter ⟨rfl, rfl, Nat.le_of_ble_eq_true rfl, Nat.le_of_ble_eq_true rfl⟩ rfl rfl (Nat.le_of_ble_eq_true rfl) d_Seeker_seek_79 (fun H locs hw => ?_)
        refine lv_if_eq (tgt := 89) hx hb d_Seeker_seek_82 (by decide) (fun c_9 => ?_) (fun c_9 => ?_)
        · replace hF := ifT hF c_9
          exact q_Seeker_seek_89 hn K (fun z0 zv1 zv2 => F_Seeker_seek_18 n z0 zv1 zv2) ih _ _ _ _ _ _  hw (lv_sub hl [0, 1, 2] rfl) hF
        · replace hF := ifF hF c_9
          exact q_Seeker_seek_85 hn K (fun z0 zv1 zv2 => F_Seeker_seek_18 n z0 zv1 zv2) ih _ _ _ _ _ _  hw (lv_sub hl [0, 1, 2] rfl) hF
noncomputable def F_Seeker_seek_0 (s0 : St) : Option St := (ob1 (F_Seeker_keep s0 (0 : Int32)) (fun s_1 => (F_Seeker_seek_18 FU s_1 (s0.1 42 2) (0 : Int32))))
set_option maxHeartbeats 4000000 in
set_option maxRecDepth 100000 in
theorem q_Seeker_seek_0 (hn : 50 ≤ nC) (K : Fx p s m args meth c b_Seeker_seek 3 R_Seeker none)  : ∀ (H : Heap) (locs : List Loc) (ls : Array Slot) (s0 : St), Wh D cA ad (shC.take nC) A s s0 H locs → lv_has ls 3 [(0, .ref (ad 46))] → F_Seeker_seek_0 s0 = (some τ) → W p l e rm_Seeker_seek s m args below meth c H locs 0 0 (MQ below (QcV D cA ad (shC.take nC) A τ) args s 0 0 A) (F0 m 0 ls []) := by
  have hx := K.1.1; have hb := K.1.2.1
  intro H locs ls s0 hw hl hF
  unfold F_Seeker_seek_0 at hF
  refine lv_aload_n hx hb d_Seeker_seek_0 rfl (lv_at hl 0 rfl) ?_
  refine r_get (v := .ref (ad 41)) K hw i_Seeker (sh_Seeker (Nat.le_trans (Nat.le_of_ble_eq_true rfl) hn)) rfl 0 (by decide) w_569 rfl rfl rfl d_Seeker_seek_1 ?_
  refine r_get (v := .ref (ad 42)) K hw i_Bout (sh_Bout (Nat.le_trans (Nat.le_of_ble_eq_true rfl) hn)) rfl 0 (by decide) w_531 rfl rfl rfl d_Seeker_seek_4 ?_
  refine r_get (v := .int (s0.1 42 2)) K hw i_Side (sh_Side (by decide) (Nat.le_trans (Nat.le_of_ble_eq_true rfl) hn)) rfl 2 (by decide) w_514 rfl rfl rfl d_Seeker_seek_7 ?_
  refine lv_istore_n (lv' := [(1, .int (s0.1 42 2)), (0, .ref (ad 46))]) hx hb d_Seeker_seek_10 rfl hl (by decide) rfl (fun ls hl => ?_)
  refine lv_aload_n hx hb d_Seeker_seek_11 rfl (lv_at hl 1 rfl) ?_
  refine lv_iconst (v := 0) hx hb d_Seeker_seek_12 (by decide) ?_
  obtain ⟨s_1, h_s_1, hF⟩ := ob1E hF
  refine r_callVV (As := [.int (0 : Int32)]) (rest := []) K hw hl.1 (c_Seeker_keep (l := l) (D := D) (cA := cA) (ad := ad) (s0 := s0) (Nat.le_trans (Nat.le_of_ble_eq_true rfl) hn)  h_s_1) (sh_Seeker (Nat.le_trans (Nat.le_of_ble_eq_true rfl) hn)) rfl (tb_gV w_798 w_800 w_20 w_79 w_801) a_Seeker_keep ⟨rfl, rfl, Nat.le_of_ble_eq_true rfl, Nat.le_of_ble_eq_true rfl⟩ rfl rfl (Nat.le_of_ble_eq_true rfl) d_Seeker_seek_13 (fun H locs hw => ?_)
  refine lv_iconst (v := 0) hx hb d_Seeker_seek_16 (by decide) ?_
  refine lv_istore_n (lv' := [(2, .int (0 : Int32)), (1, .int (s0.1 42 2)), (0, .ref (ad 46))]) hx hb d_Seeker_seek_17 rfl hl (by decide) rfl (fun ls hl => ?_)
  exact q_Seeker_seek_18 hn K FU _ _ _ _ _ _  hw (lv_sub hl [2, 1, 0] rfl) hF
end S_Seeker_seek
noncomputable abbrev F_Seeker_seek := F_Seeker_seek_0
theorem c_Seeker_seek {l : Launch} {D : va_G} {cA : Nat → ClassId} {ad : Nat → Nat} {s0 τ : St} {nC : Nat} (hn : 50 ≤ nC)   (hF : F_Seeker_seek s0 = (some τ)) : MV l D cA ad (shC.take nC) y_Seeker_seek (wT y_Seeker_seek b_Seeker_seek 3 none) rm_Seeker_seek [.ref (ad 46)] s0 τ := fun sz => m_start (Qc := fun A => QcV D cA ad (shC.take nC) A τ) (by decide +kernel) w_797 (Nat.le_of_ble_eq_true rfl) (fun p e s m below meth c ls K hl hw => q_Seeker_seek_0 hn K _ _ _ _   hw hl hF)

/-! Main.best(III)I -/
abbrev b_Main_best : ByteArray := prog_1_method_14_code
def y_Main_best : MethodName := ⟨R_Main, "best", "(III)I"⟩
theorem a_Main_best : y_Main_best.cls = R_Main ∧ y_Main_best.cls ≠ "java/lang/invoke/MethodHandle" ∧ y_Main_best.cls ≠ "java/lang/invoke/VarHandle" ∧ (parseMethodDescriptor y_Main_best.desc).map (fun d => d.parameters.length) = some 3 := by decide +kernel
abbrev rm_Main_best : Room := { frames := 7, cells := 0, slots := 0, locals := 160 }
theorem w_606 : Cond.fieldLink R_Main 95 R_Main "seeke\x72" "LArmAgainstArm$Seeker;" ∈ TB := tb_in 606 (by decide +kernel) (by decide +kernel)
theorem w_794 : Cond.methodLink R_Main 214 y_Seeker_seek ∈ TB := tb_in 794 (by decide +kernel) (by decide +kernel)
theorem w_795 : Cond.instanceMethod y_Seeker_seek ∈ TB := tb_in 795 (by decide +kernel) (by decide +kernel)
theorem w_796 : Cond.selects R_Seeker y_Seeker_seek y_Seeker_seek ∈ TB := tb_in 796 (by decide +kernel) (by decide +kernel)
theorem w_578 : Cond.fieldLink R_Main 219 R_Seeker "hold" "I" ∈ TB := tb_in 578 (by decide +kernel) (by decide +kernel)
theorem w_576 : Cond.fieldLink R_Main 218 R_Seeker "angle" "I" ∈ TB := tb_in 576 (by decide +kernel) (by decide +kernel)
theorem w_574 : Cond.fieldLink R_Main 217 R_Seeker "plan" "I" ∈ TB := tb_in 574 (by decide +kernel) (by decide +kernel)
theorem w_793 : Cond.code y_Main_best b_Main_best 4 (some .int) ∈ TB := tb_in 793 (by decide +kernel) (by decide +kernel)
theorem d_Main_best_0 : decode b_Main_best 0 = .ok (.aload_n 0, 1) := by decide +kernel
theorem d_Main_best_1 : decode b_Main_best 1 = .ok (.iload_n 1, 1) := by decide +kernel
theorem d_Main_best_2 : decode b_Main_best 2 = .ok (.iload_n 2, 1) := by decide +kernel
theorem d_Main_best_3 : decode b_Main_best 3 = .ok (.invokevirtual 194, 3) := by decide +kernel
theorem d_Main_best_6 : decode b_Main_best 6 = .ok (.ifCond .ne 6, 3) := by decide +kernel
theorem d_Main_best_9 : decode b_Main_best 9 = .ok (.bipush (-100), 2) := by decide +kernel
theorem d_Main_best_11 : decode b_Main_best 11 = .ok (.ireturn, 1) := by decide +kernel
theorem d_Main_best_12 : decode b_Main_best 12 = .ok (.iload_n 3, 1) := by decide +kernel
theorem d_Main_best_13 : decode b_Main_best 13 = .ok (.iconst 0, 1) := by decide +kernel
theorem d_Main_best_14 : decode b_Main_best 14 = .ok (.iconst 2, 1) := by decide +kernel
theorem d_Main_best_15 : decode b_Main_best 15 = .ok (.invokestatic 108, 3) := by decide +kernel
theorem d_Main_best_18 : decode b_Main_best 18 = .ok (.ifCond .ne 7, 3) := by decide +kernel
theorem d_Main_best_21 : decode b_Main_best 21 = .ok (.sipush (-200), 3) := by decide +kernel
theorem d_Main_best_24 : decode b_Main_best 24 = .ok (.ireturn, 1) := by decide +kernel
theorem d_Main_best_25 : decode b_Main_best 25 = .ok (.aload_n 0, 1) := by decide +kernel
theorem d_Main_best_26 : decode b_Main_best 26 = .ok (.iload_n 1, 1) := by decide +kernel
theorem d_Main_best_27 : decode b_Main_best 27 = .ok (.iload_n 2, 1) := by decide +kernel
theorem d_Main_best_28 : decode b_Main_best 28 = .ok (.invokevirtual 174, 3) := by decide +kernel
theorem d_Main_best_31 : decode b_Main_best 31 = .ok (.aload_n 0, 1) := by decide +kernel
theorem d_Main_best_32 : decode b_Main_best 32 = .ok (.getfield 95, 3) := by decide +kernel
theorem d_Main_best_35 : decode b_Main_best 35 = .ok (.invokevirtual 214, 3) := by decide +kernel
theorem d_Main_best_38 : decode b_Main_best 38 = .ok (.iload_n 3, 1) := by decide +kernel
theorem d_Main_best_39 : decode b_Main_best 39 = .ok (.ifCond .ne 11, 3) := by decide +kernel
theorem d_Main_best_42 : decode b_Main_best 42 = .ok (.aload_n 0, 1) := by decide +kernel
theorem d_Main_best_43 : decode b_Main_best 43 = .ok (.getfield 95, 3) := by decide +kernel
theorem d_Main_best_46 : decode b_Main_best 46 = .ok (.getfield 217, 3) := by decide +kernel
theorem d_Main_best_49 : decode b_Main_best 49 = .ok (.ireturn, 1) := by decide +kernel
theorem d_Main_best_50 : decode b_Main_best 50 = .ok (.iload_n 3, 1) := by decide +kernel
theorem d_Main_best_51 : decode b_Main_best 51 = .ok (.iconst 1, 1) := by decide +kernel
theorem d_Main_best_52 : decode b_Main_best 52 = .ok (.if_icmp .ne 13, 3) := by decide +kernel
theorem d_Main_best_55 : decode b_Main_best 55 = .ok (.aload_n 0, 1) := by decide +kernel
theorem d_Main_best_56 : decode b_Main_best 56 = .ok (.getfield 95, 3) := by decide +kernel
theorem d_Main_best_59 : decode b_Main_best 59 = .ok (.getfield 218, 3) := by decide +kernel
theorem d_Main_best_62 : decode b_Main_best 62 = .ok (.goto 10, 3) := by decide +kernel
theorem d_Main_best_65 : decode b_Main_best 65 = .ok (.aload_n 0, 1) := by decide +kernel
theorem d_Main_best_66 : decode b_Main_best 66 = .ok (.getfield 95, 3) := by decide +kernel
theorem d_Main_best_69 : decode b_Main_best 69 = .ok (.getfield 219, 3) := by decide +kernel
theorem d_Main_best_72 : decode b_Main_best 72 = .ok (.ireturn, 1) := by decide +kernel
section S_Main_best
variable {p : Program} {l : Launch} {e : Env} {s : State} {m : MethodId} {args : Array Value} {below : List Frame} {meth : Method} {c : Code} {D : va_G} {cA : Nat → ClassId} {ad : Nat → Nat} {nC : Nat} {A : Nat → Prop} {r : Int32} {τ : St}
noncomputable def F_Main_best_0 (s0 : St) (v1 : Int32) (v2 : Int32) (v3 : Int32) : Option (Int32 × St) := (ob1 (F_Main_areTwo s0 v1 v2) (fun r_1 => (if ¬ r_1 = 0 then (if ¬ (F_Main_isWithin v3 (0 : Int32) (2 : Int32)) = 0 then (ob1 (F_Main_opn s0 v1 v2) (fun s_4 => (ob1 (F_Seeker_seek s_4 ) (fun s_5 => (if ¬ v3 = 0 then (if ¬ v3 = (1 : Int32) then (some ((s_5.1 46 6), s_5)) else (some ((s_5.1 46 5), s_5))) else (some ((s_5.1 46 4), s_5))))))) else (some ((-200 : Int32), s0))) else (some ((-100 : Int32), s0)))))
set_option maxHeartbeats 4000000 in
set_option maxRecDepth 100000 in
theorem q_Main_best_0 (hn : 50 ≤ nC) (K : Fx p s m args meth c b_Main_best 4 R_Main (some .int))  : ∀ (H : Heap) (locs : List Loc) (ls : Array Slot) (s0 : St) (v1 : Int32) (v2 : Int32) (v3 : Int32), Wh D cA ad (shC.take nC) A s s0 H locs → lv_has ls 4 [(0, .ref (ad 20)), (1, .int v1), (2, .int v2), (3, .int v3)] → F_Main_best_0 s0 v1 v2 v3 = (some (r, τ)) → W p l e rm_Main_best s m args below meth c H locs 0 0 (MQ below (QcI D cA ad (shC.take nC) A r τ) args s 0 0 A) (F0 m 0 ls []) := by
  have hx := K.1.1; have hb := K.1.2.1
  intro H locs ls s0 v1 v2 v3 hw hl hF
  unfold F_Main_best_0 at hF
  refine lv_aload_n hx hb d_Main_best_0 rfl (lv_at hl 0 rfl) ?_
  refine lv_iload_n hx hb d_Main_best_1 rfl (lv_at hl 1 rfl) ?_
  refine lv_iload_n hx hb d_Main_best_2 rfl (lv_at hl 2 rfl) ?_
  obtain ⟨r_1, h_r_1, hF⟩ := ob1E hF
  refine r_callVI (As := [.int v1, .int v2]) (rest := []) K hw hl.1 (c_Main_areTwo (l := l) (D := D) (cA := cA) (ad := ad) (s0 := s0) (Nat.le_trans (Nat.le_of_ble_eq_true rfl) hn)  h_r_1) (sh_Main (Nat.le_trans (Nat.le_of_ble_eq_true rfl) hn)) rfl (tb_gV w_724 w_726 w_17 w_63 w_727) a_Main_areTwo ⟨rfl, rfl, Nat.le_of_ble_eq_true rfl, Nat.le_of_ble_eq_true rfl⟩ rfl rfl (Nat.le_of_ble_eq_true rfl) d_Main_best_3 (fun H locs hw => ?_)
  refine lv_if_ne (tgt := 12) hx hb d_Main_best_6 (by decide) (fun c_2 => ?_) (fun c_2 => ?_)
  · replace hF := ifT hF c_2
    refine lv_iload_n hx hb d_Main_best_12 rfl (lv_at hl 3 rfl) ?_
    refine lv_iconst (v := 0) hx hb d_Main_best_13 (by decide) ?_
    refine lv_iconst (v := 2) hx hb d_Main_best_14 (by decide) ?_
    refine r_callSI (As := [.int v3, .int (0 : Int32), .int (2 : Int32)]) (rest := []) K hw hl.1 (c_Main_isWithin (l := l) (D := D) (cA := cA) (ad := ad) (s0 := s0) (Nat.le_trans (Nat.le_of_ble_eq_true rfl) hn)  rfl) (tb_gS w_640 w_347 w_63 w_348) a_Main_isWithin ⟨rfl, rfl, Nat.le_of_ble_eq_true rfl, Nat.le_of_ble_eq_true rfl⟩ rfl rfl (Nat.le_of_ble_eq_true rfl) d_Main_best_15 (fun H locs hw => ?_)
    refine lv_if_ne (tgt := 25) hx hb d_Main_best_18 (by decide) (fun c_3 => ?_) (fun c_3 => ?_)
    · replace hF := ifT hF c_3
      refine lv_aload_n hx hb d_Main_best_25 rfl (lv_at hl 0 rfl) ?_
      refine lv_iload_n hx hb d_Main_best_26 rfl (lv_at hl 1 rfl) ?_
      refine lv_iload_n hx hb d_Main_best_27 rfl (lv_at hl 2 rfl) ?_
      obtain ⟨s_4, h_s_4, hF⟩ := ob1E hF
      refine r_callVV (As := [.int v1, .int v2]) (rest := []) K hw hl.1 (c_Main_opn (l := l) (D := D) (cA := cA) (ad := ad) (s0 := s0) (Nat.le_trans (Nat.le_of_ble_eq_true rfl) hn)  h_s_4) (sh_Main (Nat.le_trans (Nat.le_of_ble_eq_true rfl) hn)) rfl (tb_gV w_728 w_730 w_18 w_63 w_731) a_Main_opn ⟨rfl, rfl, Nat.le_of_ble_eq_true rfl, Nat.le_of_ble_eq_true rfl⟩ rfl rfl (Nat.le_of_ble_eq_true rfl) d_Main_best_28 (fun H locs hw => ?_)
      refine lv_aload_n hx hb d_Main_best_31 rfl (lv_at hl 0 rfl) ?_
      refine r_get (v := .ref (ad 46)) K hw i_Main (sh_Main (Nat.le_trans (Nat.le_of_ble_eq_true rfl) hn)) rfl 8 (by decide) w_606 rfl rfl rfl d_Main_best_32 ?_
      obtain ⟨s_5, h_s_5, hF⟩ := ob1E hF
      refine r_callVV (As := []) (rest := []) K hw hl.1 (c_Seeker_seek (l := l) (D := D) (cA := cA) (ad := ad) (s0 := s_4) (Nat.le_trans (Nat.le_of_ble_eq_true rfl) hn)  h_s_5) (sh_Seeker (Nat.le_trans (Nat.le_of_ble_eq_true rfl) hn)) rfl (tb_gV w_794 w_795 w_796 w_79 w_797) a_Seeker_seek ⟨rfl, rfl, Nat.le_of_ble_eq_true rfl, Nat.le_of_ble_eq_true rfl⟩ rfl rfl (Nat.le_of_ble_eq_true rfl) d_Main_best_35 (fun H locs hw => ?_)
      refine lv_iload_n hx hb d_Main_best_38 rfl (lv_at hl 3 rfl) ?_
      refine lv_if_ne (tgt := 50) hx hb d_Main_best_39 (by decide) (fun c_6 => ?_) (fun c_6 => ?_)
      · replace hF := ifT hF c_6
        refine lv_iload_n hx hb d_Main_best_50 rfl (lv_at hl 3 rfl) ?_
        refine lv_iconst (v := 1) hx hb d_Main_best_51 (by decide) ?_
        refine lv_icmp_ne (tgt := 65) hx hb d_Main_best_52 (by decide) (fun c_7 => ?_) (fun c_7 => ?_)
        · replace hF := ifT hF c_7
          refine lv_aload_n hx hb d_Main_best_65 rfl (lv_at hl 0 rfl) ?_
          refine r_get (v := .ref (ad 46)) K hw i_Main (sh_Main (Nat.le_trans (Nat.le_of_ble_eq_true rfl) hn)) rfl 8 (by decide) w_606 rfl rfl rfl d_Main_best_66 ?_
          refine r_get (v := .int (s_5.1 46 6)) K hw i_Seeker (sh_Seeker (Nat.le_trans (Nat.le_of_ble_eq_true rfl) hn)) rfl 6 (by decide) w_578 rfl rfl rfl d_Main_best_69 ?_
          obtain ⟨hF, hG⟩ := sE2 hF
          subst hF
          subst hG
          exact r_iret K hw d_Main_best_72
        · replace hF := ifN hF c_7
          refine lv_aload_n hx hb d_Main_best_55 rfl (lv_at hl 0 rfl) ?_
          refine r_get (v := .ref (ad 46)) K hw i_Main (sh_Main (Nat.le_trans (Nat.le_of_ble_eq_true rfl) hn)) rfl 8 (by decide) w_606 rfl rfl rfl d_Main_best_56 ?_
          refine r_get (v := .int (s_5.1 46 5)) K hw i_Seeker (sh_Seeker (Nat.le_trans (Nat.le_of_ble_eq_true rfl) hn)) rfl 5 (by decide) w_576 rfl rfl rfl d_Main_best_59 ?_
          refine lv_goto (tgt := 72) hx hb d_Main_best_62 (by decide) ?_
          obtain ⟨hF, hG⟩ := sE2 hF
          subst hF
          subst hG
          exact r_iret K hw d_Main_best_72
      · replace hF := ifN hF c_6
        refine lv_aload_n hx hb d_Main_best_42 rfl (lv_at hl 0 rfl) ?_
        refine r_get (v := .ref (ad 46)) K hw i_Main (sh_Main (Nat.le_trans (Nat.le_of_ble_eq_true rfl) hn)) rfl 8 (by decide) w_606 rfl rfl rfl d_Main_best_43 ?_
        refine r_get (v := .int (s_5.1 46 4)) K hw i_Seeker (sh_Seeker (Nat.le_trans (Nat.le_of_ble_eq_true rfl) hn)) rfl 4 (by decide) w_574 rfl rfl rfl d_Main_best_46 ?_
        obtain ⟨hF, hG⟩ := sE2 hF
        subst hF
        subst hG
        exact r_iret K hw d_Main_best_49
    · replace hF := ifN hF c_3
      refine lv_sipush (v := -200) hx hb d_Main_best_21 (by decide) ?_
      obtain ⟨hF, hG⟩ := sE2 hF
      subst hF
      subst hG
      exact r_iret K hw d_Main_best_24
  · replace hF := ifN hF c_2
    refine lv_bipush (v := -100) hx hb d_Main_best_9 (by decide) ?_
    obtain ⟨hF, hG⟩ := sE2 hF
    subst hF
    subst hG
    exact r_iret K hw d_Main_best_11
end S_Main_best
noncomputable abbrev F_Main_best := F_Main_best_0
theorem c_Main_best {l : Launch} {D : va_G} {cA : Nat → ClassId} {ad : Nat → Nat} {s0 τ : St} {nC : Nat} (hn : 50 ≤ nC) {r : Int32} {v1 : Int32} {v2 : Int32} {v3 : Int32}  (hF : F_Main_best s0 v1 v2 v3 = (some (r, τ))) : MI l D cA ad (shC.take nC) y_Main_best (wT y_Main_best b_Main_best 4 (some .int)) rm_Main_best [.ref (ad 20), .int v1, .int v2, .int v3] s0 r τ := fun sz => m_start (Qc := fun A => QcI D cA ad (shC.take nC) A r τ) (by decide +kernel) w_793 (Nat.le_of_ble_eq_true rfl) (fun p e s m below meth c ls K hl hw => q_Main_best_0 hn K _ _ _ _ _ _ _  hw hl hF)

/-! Main.even(II)I -/
abbrev b_Main_even : ByteArray := prog_1_method_15_code
def y_Main_even : MethodName := ⟨R_Main, "even", "(II)I"⟩
theorem a_Main_even : y_Main_even.cls = R_Main ∧ y_Main_even.cls ≠ "java/lang/invoke/MethodHandle" ∧ y_Main_even.cls ≠ "java/lang/invoke/VarHandle" ∧ (parseMethodDescriptor y_Main_even.desc).map (fun d => d.parameters.length) = some 2 := by decide +kernel
abbrev rm_Main_even : Room := { frames := 7, cells := 0, slots := 0, locals := 160 }
theorem w_580 : Cond.fieldLink R_Main 220 R_Seeker "ownAngle" "I" ∈ TB := tb_in 580 (by decide +kernel) (by decide +kernel)
theorem w_821 : Cond.code y_Main_even b_Main_even 3 (some .int) ∈ TB := tb_in 821 (by decide +kernel) (by decide +kernel)
theorem d_Main_even_0 : decode b_Main_even 0 = .ok (.aload_n 0, 1) := by decide +kernel
theorem d_Main_even_1 : decode b_Main_even 1 = .ok (.iload_n 1, 1) := by decide +kernel
theorem d_Main_even_2 : decode b_Main_even 2 = .ok (.iload_n 2, 1) := by decide +kernel
theorem d_Main_even_3 : decode b_Main_even 3 = .ok (.invokevirtual 194, 3) := by decide +kernel
theorem d_Main_even_6 : decode b_Main_even 6 = .ok (.ifCond .ne 6, 3) := by decide +kernel
theorem d_Main_even_9 : decode b_Main_even 9 = .ok (.bipush (-5), 2) := by decide +kernel
theorem d_Main_even_11 : decode b_Main_even 11 = .ok (.ireturn, 1) := by decide +kernel
theorem d_Main_even_12 : decode b_Main_even 12 = .ok (.aload_n 0, 1) := by decide +kernel
theorem d_Main_even_13 : decode b_Main_even 13 = .ok (.iload_n 1, 1) := by decide +kernel
theorem d_Main_even_14 : decode b_Main_even 14 = .ok (.iload_n 2, 1) := by decide +kernel
theorem d_Main_even_15 : decode b_Main_even 15 = .ok (.invokevirtual 174, 3) := by decide +kernel
theorem d_Main_even_18 : decode b_Main_even 18 = .ok (.aload_n 0, 1) := by decide +kernel
theorem d_Main_even_19 : decode b_Main_even 19 = .ok (.getfield 95, 3) := by decide +kernel
theorem d_Main_even_22 : decode b_Main_even 22 = .ok (.invokevirtual 214, 3) := by decide +kernel
theorem d_Main_even_25 : decode b_Main_even 25 = .ok (.aload_n 0, 1) := by decide +kernel
theorem d_Main_even_26 : decode b_Main_even 26 = .ok (.getfield 95, 3) := by decide +kernel
theorem d_Main_even_29 : decode b_Main_even 29 = .ok (.getfield 218, 3) := by decide +kernel
theorem d_Main_even_32 : decode b_Main_even 32 = .ok (.aload_n 0, 1) := by decide +kernel
theorem d_Main_even_33 : decode b_Main_even 33 = .ok (.getfield 95, 3) := by decide +kernel
theorem d_Main_even_36 : decode b_Main_even 36 = .ok (.getfield 220, 3) := by decide +kernel
theorem d_Main_even_39 : decode b_Main_even 39 = .ok (.if_icmp .le 5, 3) := by decide +kernel
theorem d_Main_even_42 : decode b_Main_even 42 = .ok (.iconst 0, 1) := by decide +kernel
theorem d_Main_even_43 : decode b_Main_even 43 = .ok (.ireturn, 1) := by decide +kernel
theorem d_Main_even_44 : decode b_Main_even 44 = .ok (.aload_n 0, 1) := by decide +kernel
theorem d_Main_even_45 : decode b_Main_even 45 = .ok (.iload_n 2, 1) := by decide +kernel
theorem d_Main_even_46 : decode b_Main_even 46 = .ok (.iload_n 1, 1) := by decide +kernel
theorem d_Main_even_47 : decode b_Main_even 47 = .ok (.invokevirtual 174, 3) := by decide +kernel
theorem d_Main_even_50 : decode b_Main_even 50 = .ok (.aload_n 0, 1) := by decide +kernel
theorem d_Main_even_51 : decode b_Main_even 51 = .ok (.getfield 95, 3) := by decide +kernel
theorem d_Main_even_54 : decode b_Main_even 54 = .ok (.invokevirtual 214, 3) := by decide +kernel
theorem d_Main_even_57 : decode b_Main_even 57 = .ok (.aload_n 0, 1) := by decide +kernel
theorem d_Main_even_58 : decode b_Main_even 58 = .ok (.getfield 95, 3) := by decide +kernel
theorem d_Main_even_61 : decode b_Main_even 61 = .ok (.getfield 218, 3) := by decide +kernel
theorem d_Main_even_64 : decode b_Main_even 64 = .ok (.aload_n 0, 1) := by decide +kernel
theorem d_Main_even_65 : decode b_Main_even 65 = .ok (.getfield 95, 3) := by decide +kernel
theorem d_Main_even_68 : decode b_Main_even 68 = .ok (.getfield 220, 3) := by decide +kernel
theorem d_Main_even_71 : decode b_Main_even 71 = .ok (.if_icmp .le 7, 3) := by decide +kernel
theorem d_Main_even_74 : decode b_Main_even 74 = .ok (.iconst 0, 1) := by decide +kernel
theorem d_Main_even_75 : decode b_Main_even 75 = .ok (.goto 4, 3) := by decide +kernel
theorem d_Main_even_78 : decode b_Main_even 78 = .ok (.iconst 1, 1) := by decide +kernel
theorem d_Main_even_79 : decode b_Main_even 79 = .ok (.ireturn, 1) := by decide +kernel
section S_Main_even
variable {p : Program} {l : Launch} {e : Env} {s : State} {m : MethodId} {args : Array Value} {below : List Frame} {meth : Method} {c : Code} {D : va_G} {cA : Nat → ClassId} {ad : Nat → Nat} {nC : Nat} {A : Nat → Prop} {r : Int32} {τ : St}
noncomputable def F_Main_even_0 (s0 : St) (v1 : Int32) (v2 : Int32) : Option (Int32 × St) := (ob1 (F_Main_areTwo s0 v1 v2) (fun r_1 => (if ¬ r_1 = 0 then (ob1 (F_Main_opn s0 v1 v2) (fun s_3 => (ob1 (F_Seeker_seek s_3 ) (fun s_4 => (if (s_4.1 46 5) ≤ (s_4.1 46 7) then (ob1 (F_Main_opn s_4 v2 v1) (fun s_6 => (ob1 (F_Seeker_seek s_6 ) (fun s_7 => (if (s_7.1 46 5) ≤ (s_7.1 46 7) then (some ((1 : Int32), s_7)) else (some ((0 : Int32), s_7))))))) else (some ((0 : Int32), s_4))))))) else (some ((-5 : Int32), s0)))))
set_option maxHeartbeats 4000000 in
set_option maxRecDepth 100000 in
theorem q_Main_even_0 (hn : 50 ≤ nC) (K : Fx p s m args meth c b_Main_even 3 R_Main (some .int))  : ∀ (H : Heap) (locs : List Loc) (ls : Array Slot) (s0 : St) (v1 : Int32) (v2 : Int32), Wh D cA ad (shC.take nC) A s s0 H locs → lv_has ls 3 [(0, .ref (ad 20)), (1, .int v1), (2, .int v2)] → F_Main_even_0 s0 v1 v2 = (some (r, τ)) → W p l e rm_Main_even s m args below meth c H locs 0 0 (MQ below (QcI D cA ad (shC.take nC) A r τ) args s 0 0 A) (F0 m 0 ls []) := by
  have hx := K.1.1; have hb := K.1.2.1
  intro H locs ls s0 v1 v2 hw hl hF
  unfold F_Main_even_0 at hF
  refine lv_aload_n hx hb d_Main_even_0 rfl (lv_at hl 0 rfl) ?_
  refine lv_iload_n hx hb d_Main_even_1 rfl (lv_at hl 1 rfl) ?_
  refine lv_iload_n hx hb d_Main_even_2 rfl (lv_at hl 2 rfl) ?_
  obtain ⟨r_1, h_r_1, hF⟩ := ob1E hF
  refine r_callVI (As := [.int v1, .int v2]) (rest := []) K hw hl.1 (c_Main_areTwo (l := l) (D := D) (cA := cA) (ad := ad) (s0 := s0) (Nat.le_trans (Nat.le_of_ble_eq_true rfl) hn)  h_r_1) (sh_Main (Nat.le_trans (Nat.le_of_ble_eq_true rfl) hn)) rfl (tb_gV w_724 w_726 w_17 w_63 w_727) a_Main_areTwo ⟨rfl, rfl, Nat.le_of_ble_eq_true rfl, Nat.le_of_ble_eq_true rfl⟩ rfl rfl (Nat.le_of_ble_eq_true rfl) d_Main_even_3 (fun H locs hw => ?_)
  refine lv_if_ne (tgt := 12) hx hb d_Main_even_6 (by decide) (fun c_2 => ?_) (fun c_2 => ?_)
  · replace hF := ifT hF c_2
    refine lv_aload_n hx hb d_Main_even_12 rfl (lv_at hl 0 rfl) ?_
    refine lv_iload_n hx hb d_Main_even_13 rfl (lv_at hl 1 rfl) ?_
    refine lv_iload_n hx hb d_Main_even_14 rfl (lv_at hl 2 rfl) ?_
    obtain ⟨s_3, h_s_3, hF⟩ := ob1E hF
    refine r_callVV (As := [.int v1, .int v2]) (rest := []) K hw hl.1 (c_Main_opn (l := l) (D := D) (cA := cA) (ad := ad) (s0 := s0) (Nat.le_trans (Nat.le_of_ble_eq_true rfl) hn)  h_s_3) (sh_Main (Nat.le_trans (Nat.le_of_ble_eq_true rfl) hn)) rfl (tb_gV w_728 w_730 w_18 w_63 w_731) a_Main_opn ⟨rfl, rfl, Nat.le_of_ble_eq_true rfl, Nat.le_of_ble_eq_true rfl⟩ rfl rfl (Nat.le_of_ble_eq_true rfl) d_Main_even_15 (fun H locs hw => ?_)
    refine lv_aload_n hx hb d_Main_even_18 rfl (lv_at hl 0 rfl) ?_
    refine r_get (v := .ref (ad 46)) K hw i_Main (sh_Main (Nat.le_trans (Nat.le_of_ble_eq_true rfl) hn)) rfl 8 (by decide) w_606 rfl rfl rfl d_Main_even_19 ?_
    obtain ⟨s_4, h_s_4, hF⟩ := ob1E hF
    refine r_callVV (As := []) (rest := []) K hw hl.1 (c_Seeker_seek (l := l) (D := D) (cA := cA) (ad := ad) (s0 := s_3) (Nat.le_trans (Nat.le_of_ble_eq_true rfl) hn)  h_s_4) (sh_Seeker (Nat.le_trans (Nat.le_of_ble_eq_true rfl) hn)) rfl (tb_gV w_794 w_795 w_796 w_79 w_797) a_Seeker_seek ⟨rfl, rfl, Nat.le_of_ble_eq_true rfl, Nat.le_of_ble_eq_true rfl⟩ rfl rfl (Nat.le_of_ble_eq_true rfl) d_Main_even_22 (fun H locs hw => ?_)
    refine lv_aload_n hx hb d_Main_even_25 rfl (lv_at hl 0 rfl) ?_
    refine r_get (v := .ref (ad 46)) K hw i_Main (sh_Main (Nat.le_trans (Nat.le_of_ble_eq_true rfl) hn)) rfl 8 (by decide) w_606 rfl rfl rfl d_Main_even_26 ?_
    refine r_get (v := .int (s_4.1 46 5)) K hw i_Seeker (sh_Seeker (Nat.le_trans (Nat.le_of_ble_eq_true rfl) hn)) rfl 5 (by decide) w_576 rfl rfl rfl d_Main_even_29 ?_
    refine lv_aload_n hx hb d_Main_even_32 rfl (lv_at hl 0 rfl) ?_
    refine r_get (v := .ref (ad 46)) K hw i_Main (sh_Main (Nat.le_trans (Nat.le_of_ble_eq_true rfl) hn)) rfl 8 (by decide) w_606 rfl rfl rfl d_Main_even_33 ?_
    refine r_get (v := .int (s_4.1 46 7)) K hw i_Seeker (sh_Seeker (Nat.le_trans (Nat.le_of_ble_eq_true rfl) hn)) rfl 7 (by decide) w_580 rfl rfl rfl d_Main_even_36 ?_
    refine lv_icmp_le (tgt := 44) hx hb d_Main_even_39 (by decide) (fun c_5 => ?_) (fun c_5 => ?_)
    · replace hF := ifT hF c_5
      refine lv_aload_n hx hb d_Main_even_44 rfl (lv_at hl 0 rfl) ?_
      refine lv_iload_n hx hb d_Main_even_45 rfl (lv_at hl 2 rfl) ?_
      refine lv_iload_n hx hb d_Main_even_46 rfl (lv_at hl 1 rfl) ?_
      obtain ⟨s_6, h_s_6, hF⟩ := ob1E hF
      refine r_callVV (As := [.int v2, .int v1]) (rest := []) K hw hl.1 (c_Main_opn (l := l) (D := D) (cA := cA) (ad := ad) (s0 := s_4) (Nat.le_trans (Nat.le_of_ble_eq_true rfl) hn)  h_s_6) (sh_Main (Nat.le_trans (Nat.le_of_ble_eq_true rfl) hn)) rfl (tb_gV w_728 w_730 w_18 w_63 w_731) a_Main_opn ⟨rfl, rfl, Nat.le_of_ble_eq_true rfl, Nat.le_of_ble_eq_true rfl⟩ rfl rfl (Nat.le_of_ble_eq_true rfl) d_Main_even_47 (fun H locs hw => ?_)
      refine lv_aload_n hx hb d_Main_even_50 rfl (lv_at hl 0 rfl) ?_
      refine r_get (v := .ref (ad 46)) K hw i_Main (sh_Main (Nat.le_trans (Nat.le_of_ble_eq_true rfl) hn)) rfl 8 (by decide) w_606 rfl rfl rfl d_Main_even_51 ?_
      obtain ⟨s_7, h_s_7, hF⟩ := ob1E hF
      refine r_callVV (As := []) (rest := []) K hw hl.1 (c_Seeker_seek (l := l) (D := D) (cA := cA) (ad := ad) (s0 := s_6) (Nat.le_trans (Nat.le_of_ble_eq_true rfl) hn)  h_s_7) (sh_Seeker (Nat.le_trans (Nat.le_of_ble_eq_true rfl) hn)) rfl (tb_gV w_794 w_795 w_796 w_79 w_797) a_Seeker_seek ⟨rfl, rfl, Nat.le_of_ble_eq_true rfl, Nat.le_of_ble_eq_true rfl⟩ rfl rfl (Nat.le_of_ble_eq_true rfl) d_Main_even_54 (fun H locs hw => ?_)
      refine lv_aload_n hx hb d_Main_even_57 rfl (lv_at hl 0 rfl) ?_
      refine r_get (v := .ref (ad 46)) K hw i_Main (sh_Main (Nat.le_trans (Nat.le_of_ble_eq_true rfl) hn)) rfl 8 (by decide) w_606 rfl rfl rfl d_Main_even_58 ?_
      refine r_get (v := .int (s_7.1 46 5)) K hw i_Seeker (sh_Seeker (Nat.le_trans (Nat.le_of_ble_eq_true rfl) hn)) rfl 5 (by decide) w_576 rfl rfl rfl d_Main_even_61 ?_
      refine lv_aload_n hx hb d_Main_even_64 rfl (lv_at hl 0 rfl) ?_
      refine r_get (v := .ref (ad 46)) K hw i_Main (sh_Main (Nat.le_trans (Nat.le_of_ble_eq_true rfl) hn)) rfl 8 (by decide) w_606 rfl rfl rfl d_Main_even_65 ?_
      refine r_get (v := .int (s_7.1 46 7)) K hw i_Seeker (sh_Seeker (Nat.le_trans (Nat.le_of_ble_eq_true rfl) hn)) rfl 7 (by decide) w_580 rfl rfl rfl d_Main_even_68 ?_
      refine lv_icmp_le (tgt := 78) hx hb d_Main_even_71 (by decide) (fun c_8 => ?_) (fun c_8 => ?_)
      · replace hF := ifT hF c_8
        refine lv_iconst (v := 1) hx hb d_Main_even_78 (by decide) ?_
        obtain ⟨hF, hG⟩ := sE2 hF
        subst hF
        subst hG
        exact r_iret K hw d_Main_even_79
      · replace hF := ifF hF c_8
        refine lv_iconst (v := 0) hx hb d_Main_even_74 (by decide) ?_
        refine lv_goto (tgt := 79) hx hb d_Main_even_75 (by decide) ?_
        obtain ⟨hF, hG⟩ := sE2 hF
        subst hF
        subst hG
        exact r_iret K hw d_Main_even_79
    · replace hF := ifF hF c_5
      refine lv_iconst (v := 0) hx hb d_Main_even_42 (by decide) ?_
      obtain ⟨hF, hG⟩ := sE2 hF
      subst hF
      subst hG
      exact r_iret K hw d_Main_even_43
  · replace hF := ifN hF c_2
    refine lv_bipush (v := -5) hx hb d_Main_even_9 (by decide) ?_
    obtain ⟨hF, hG⟩ := sE2 hF
    subst hF
    subst hG
    exact r_iret K hw d_Main_even_11
end S_Main_even
noncomputable abbrev F_Main_even := F_Main_even_0
theorem c_Main_even {l : Launch} {D : va_G} {cA : Nat → ClassId} {ad : Nat → Nat} {s0 τ : St} {nC : Nat} (hn : 50 ≤ nC) {r : Int32} {v1 : Int32} {v2 : Int32}  (hF : F_Main_even s0 v1 v2 = (some (r, τ))) : MI l D cA ad (shC.take nC) y_Main_even (wT y_Main_even b_Main_even 3 (some .int)) rm_Main_even [.ref (ad 20), .int v1, .int v2] s0 r τ := fun sz => m_start (Qc := fun A => QcI D cA ad (shC.take nC) A r τ) (by decide +kernel) w_821 (Nat.le_of_ble_eq_true rfl) (fun p e s m below meth c ls K hl hw => q_Main_even_0 hn K _ _ _ _ _ _  hw hl hF)

/-! Main.line(II)I -/
abbrev b_Main_line : ByteArray := prog_1_method_16_code
def y_Main_line : MethodName := ⟨R_Main, "line", "(II)I"⟩
theorem a_Main_line : y_Main_line.cls = R_Main ∧ y_Main_line.cls ≠ "java/lang/invoke/MethodHandle" ∧ y_Main_line.cls ≠ "java/lang/invoke/VarHandle" ∧ (parseMethodDescriptor y_Main_line.desc).map (fun d => d.parameters.length) = some 2 := by decide +kernel
abbrev rm_Main_line : Room := { frames := 5, cells := 0, slots := 0, locals := 116 }
theorem w_825 : Cond.code y_Main_line b_Main_line 4 (some .int) ∈ TB := tb_in 825 (by decide +kernel) (by decide +kernel)
theorem d_Main_line_0 : decode b_Main_line 0 = .ok (.aload_n 0, 1) := by decide +kernel
theorem d_Main_line_1 : decode b_Main_line 1 = .ok (.iload_n 1, 1) := by decide +kernel
theorem d_Main_line_2 : decode b_Main_line 2 = .ok (.iload_n 2, 1) := by decide +kernel
theorem d_Main_line_3 : decode b_Main_line 3 = .ok (.invokevirtual 194, 3) := by decide +kernel
theorem d_Main_line_6 : decode b_Main_line 6 = .ok (.ifCond .ne 6, 3) := by decide +kernel
theorem d_Main_line_9 : decode b_Main_line 9 = .ok (.bipush (-100), 2) := by decide +kernel
theorem d_Main_line_11 : decode b_Main_line 11 = .ok (.ireturn, 1) := by decide +kernel
theorem d_Main_line_12 : decode b_Main_line 12 = .ok (.bipush (-29), 2) := by decide +kernel
theorem d_Main_line_14 : decode b_Main_line 14 = .ok (.istore_n 3, 1) := by decide +kernel
theorem d_Main_line_15 : decode b_Main_line 15 = .ok (.iload_n 3, 1) := by decide +kernel
theorem d_Main_line_16 : decode b_Main_line 16 = .ok (.bipush 30, 2) := by decide +kernel
theorem d_Main_line_18 : decode b_Main_line 18 = .ok (.if_icmp .ge 44, 3) := by decide +kernel
theorem d_Main_line_21 : decode b_Main_line 21 = .ok (.aload_n 0, 1) := by decide +kernel
theorem d_Main_line_22 : decode b_Main_line 22 = .ok (.iload_n 1, 1) := by decide +kernel
theorem d_Main_line_23 : decode b_Main_line 23 = .ok (.iload_n 2, 1) := by decide +kernel
theorem d_Main_line_24 : decode b_Main_line 24 = .ok (.invokevirtual 174, 3) := by decide +kernel
theorem d_Main_line_27 : decode b_Main_line 27 = .ok (.aload_n 0, 1) := by decide +kernel
theorem d_Main_line_28 : decode b_Main_line 28 = .ok (.getfield 86, 3) := by decide +kernel
theorem d_Main_line_31 : decode b_Main_line 31 = .ok (.iload_n 3, 1) := by decide +kernel
theorem d_Main_line_32 : decode b_Main_line 32 = .ok (.putfield 185, 3) := by decide +kernel
theorem d_Main_line_35 : decode b_Main_line 35 = .ok (.aload_n 0, 1) := by decide +kernel
theorem d_Main_line_36 : decode b_Main_line 36 = .ok (.getfield 86, 3) := by decide +kernel
theorem d_Main_line_39 : decode b_Main_line 39 = .ok (.bipush 40, 2) := by decide +kernel
theorem d_Main_line_41 : decode b_Main_line 41 = .ok (.invokevirtual 182, 3) := by decide +kernel
theorem d_Main_line_44 : decode b_Main_line 44 = .ok (.aload_n 0, 1) := by decide +kernel
theorem d_Main_line_45 : decode b_Main_line 45 = .ok (.getfield 86, 3) := by decide +kernel
theorem d_Main_line_48 : decode b_Main_line 48 = .ok (.getfield 185, 3) := by decide +kernel
theorem d_Main_line_51 : decode b_Main_line 51 = .ok (.ifCond .le 5, 3) := by decide +kernel
theorem d_Main_line_54 : decode b_Main_line 54 = .ok (.iload_n 3, 1) := by decide +kernel
theorem d_Main_line_55 : decode b_Main_line 55 = .ok (.ireturn, 1) := by decide +kernel
theorem d_Main_line_56 : decode b_Main_line 56 = .ok (.iinc 3 1, 3) := by decide +kernel
theorem d_Main_line_59 : decode b_Main_line 59 = .ok (.goto (-44), 3) := by decide +kernel
theorem d_Main_line_62 : decode b_Main_line 62 = .ok (.bipush 30, 2) := by decide +kernel
theorem d_Main_line_64 : decode b_Main_line 64 = .ok (.ireturn, 1) := by decide +kernel
section S_Main_line
variable {p : Program} {l : Launch} {e : Env} {s : State} {m : MethodId} {args : Array Value} {below : List Frame} {meth : Method} {c : Code} {D : va_G} {cA : Nat → ClassId} {ad : Nat → Nat} {nC : Nat} {A : Nat → Prop} {r : Int32} {τ : St}
noncomputable def F_Main_line_15 : Nat → St → Int32 → Int32 → Int32 → Option (Int32 × St)
  | 0, _, _, _, _ => none
  | n + 1, s0, v1, v2, v3 => (if (30 : Int32) ≤ v3 then (some ((30 : Int32), s0)) else (ob1 (F_Main_opn s0 v1 v2) (fun s_4 => (lt (up1 s_4 41 3 v3) (fun s_5 => (ob1 (F_Bout_playTo s_5 (40 : Int32)) (fun s_6 => (if (s_6.1 41 3) ≤ 0 then (F_Main_line_15 n s_6 v1 v2 (v3 + 1)) else (some (v3, s_6))))))))))
set_option maxHeartbeats 4000000 in
set_option maxRecDepth 100000 in
theorem q_Main_line_15 (hn : 46 ≤ nC) (K : Fx p s m args meth c b_Main_line 4 R_Main (some .int))  : ∀ (n : Nat), ∀ (H : Heap) (locs : List Loc) (ls : Array Slot) (s0 : St) (v1 : Int32) (v2 : Int32) (v3 : Int32), Wh D cA ad (shC.take nC) A s s0 H locs → lv_has ls 4 [(0, .ref (ad 20)), (1, .int v1), (2, .int v2), (3, .int v3)] → F_Main_line_15 n s0 v1 v2 v3 = (some (r, τ)) → W p l e rm_Main_line s m args below meth c H locs 0 0 (MQ below (QcI D cA ad (shC.take nC) A r τ) args s 0 0 A) (F0 m 15 ls []) := by
  have hx := K.1.1; have hb := K.1.2.1
  intro n
  induction n with
  | zero =>
    intro H locs ls s0 v1 v2 v3 hw hl hF
    exact absurd hF (by rw [F_Main_line_15]; exact nofun)
  | succ n ih =>
    intro H locs ls s0 v1 v2 v3 hw hl hF
    rw [F_Main_line_15] at hF
    refine lv_iload_n hx hb d_Main_line_15 rfl (lv_at hl 3 rfl) ?_
    refine lv_bipush (v := 30) hx hb d_Main_line_16 (by decide) ?_
    refine lv_icmp_ge (tgt := 62) hx hb d_Main_line_18 (by decide) (fun c_3 => ?_) (fun c_3 => ?_)
    · replace hF := ifT hF c_3
      refine lv_bipush (v := 30) hx hb d_Main_line_62 (by decide) ?_
      obtain ⟨hF, hG⟩ := sE2 hF
      subst hF
      subst hG
      exact r_iret K hw d_Main_line_64
    · replace hF := ifF hF c_3
      refine lv_aload_n hx hb d_Main_line_21 rfl (lv_at hl 0 rfl) ?_
      refine lv_iload_n hx hb d_Main_line_22 rfl (lv_at hl 1 rfl) ?_
      refine lv_iload_n hx hb d_Main_line_23 rfl (lv_at hl 2 rfl) ?_
      obtain ⟨s_4, h_s_4, hF⟩ := ob1E hF
      refine r_callVV (As := [.int v1, .int v2]) (rest := []) K hw hl.1 (c_Main_opn (l := l) (D := D) (cA := cA) (ad := ad) (s0 := s0) (Nat.le_trans (Nat.le_of_ble_eq_true rfl) hn)  h_s_4) (sh_Main (Nat.le_trans (Nat.le_of_ble_eq_true rfl) hn)) rfl (tb_gV w_728 w_730 w_18 w_63 w_731) a_Main_opn ⟨rfl, rfl, Nat.le_of_ble_eq_true rfl, Nat.le_of_ble_eq_true rfl⟩ rfl rfl (Nat.le_of_ble_eq_true rfl) d_Main_line_24 (fun H locs hw => ?_)
      refine lv_aload_n hx hb d_Main_line_27 rfl (lv_at hl 0 rfl) ?_
      refine r_get (v := .ref (ad 41)) K hw i_Main (sh_Main (Nat.le_trans (Nat.le_of_ble_eq_true rfl) hn)) rfl 7 (by decide) w_605 rfl rfl rfl d_Main_line_28 ?_
      refine lv_iload_n hx hb d_Main_line_31 rfl (lv_at hl 3 rfl) ?_
      refine r_putI K hw i_Bout t_Bout t_Bout_ok n_Bout (sh_Bout (Nat.le_trans (Nat.le_of_ble_eq_true rfl) hn)) rfl 3 (by decide) w_540 rfl rfl rfl rfl rfl d_Main_line_32 (fun s_5 f_s_5 H locs hw => ?_)
      replace hF := ltN hF f_s_5
      refine lv_aload_n hx hb d_Main_line_35 rfl (lv_at hl 0 rfl) ?_
      refine r_get (v := .ref (ad 41)) K hw i_Main (sh_Main (Nat.le_trans (Nat.le_of_ble_eq_true rfl) hn)) rfl 7 (by decide) w_605 rfl rfl rfl d_Main_line_36 ?_
      refine lv_bipush (v := 40) hx hb d_Main_line_39 (by decide) ?_
      obtain ⟨s_6, h_s_6, hF⟩ := ob1E hF
      refine r_callVV (As := [.int (40 : Int32)]) (rest := []) K hw hl.1 (c_Bout_playTo (l := l) (D := D) (cA := cA) (ad := ad) (s0 := s_5) (Nat.le_trans (Nat.le_of_ble_eq_true rfl) hn)  h_s_6) (sh_Bout (Nat.le_trans (Nat.le_of_ble_eq_true rfl) hn)) rfl (tb_gV w_737 w_738 w_739 w_77 w_740) a_Bout_playTo ⟨rfl, rfl, Nat.le_of_ble_eq_true rfl, Nat.le_of_ble_eq_true rfl⟩ rfl rfl (Nat.le_of_ble_eq_true rfl) d_Main_line_41 (fun H locs hw => ?_)
      refine lv_aload_n hx hb d_Main_line_44 rfl (lv_at hl 0 rfl) ?_
      refine r_get (v := .ref (ad 41)) K hw i_Main (sh_Main (Nat.le_trans (Nat.le_of_ble_eq_true rfl) hn)) rfl 7 (by decide) w_605 rfl rfl rfl d_Main_line_45 ?_
      refine r_get (v := .int (s_6.1 41 3)) K hw i_Bout (sh_Bout (Nat.le_trans (Nat.le_of_ble_eq_true rfl) hn)) rfl 3 (by decide) w_540 rfl rfl rfl d_Main_line_48 ?_
      refine lv_if_le (tgt := 56) hx hb d_Main_line_51 (by decide) (fun c_7 => ?_) (fun c_7 => ?_)
      · replace hF := ifT hF c_7
        refine lv_iinc (v := (v3 + 1)) (lv' := [(3, .int (v3 + 1)), (0, .ref (ad 20)), (1, .int v1), (2, .int v2)]) hx hb d_Main_line_56 hl (k := 3) rfl rfl (by decide) rfl (fun ls hl => ?_)
        refine lv_goto (tgt := 15) hx hb d_Main_line_59 (by decide) ?_
        exact ih _ _ _ _ _ _ _  hw (lv_sub hl [1, 2, 3, 0] rfl) hF
      · replace hF := ifF hF c_7
        refine lv_iload_n hx hb d_Main_line_54 rfl (lv_at hl 3 rfl) ?_
        obtain ⟨hF, hG⟩ := sE2 hF
        subst hF
        subst hG
        exact r_iret K hw d_Main_line_55
noncomputable def F_Main_line_0 (s0 : St) (v1 : Int32) (v2 : Int32) : Option (Int32 × St) := (ob1 (F_Main_areTwo s0 v1 v2) (fun r_1 => (if ¬ r_1 = 0 then (F_Main_line_15 FU s0 v1 v2 (-29 : Int32)) else (some ((-100 : Int32), s0)))))
set_option maxHeartbeats 4000000 in
set_option maxRecDepth 100000 in
theorem q_Main_line_0 (hn : 46 ≤ nC) (K : Fx p s m args meth c b_Main_line 4 R_Main (some .int))  : ∀ (H : Heap) (locs : List Loc) (ls : Array Slot) (s0 : St) (v1 : Int32) (v2 : Int32), Wh D cA ad (shC.take nC) A s s0 H locs → lv_has ls 4 [(0, .ref (ad 20)), (1, .int v1), (2, .int v2)] → F_Main_line_0 s0 v1 v2 = (some (r, τ)) → W p l e rm_Main_line s m args below meth c H locs 0 0 (MQ below (QcI D cA ad (shC.take nC) A r τ) args s 0 0 A) (F0 m 0 ls []) := by
  have hx := K.1.1; have hb := K.1.2.1
  intro H locs ls s0 v1 v2 hw hl hF
  unfold F_Main_line_0 at hF
  refine lv_aload_n hx hb d_Main_line_0 rfl (lv_at hl 0 rfl) ?_
  refine lv_iload_n hx hb d_Main_line_1 rfl (lv_at hl 1 rfl) ?_
  refine lv_iload_n hx hb d_Main_line_2 rfl (lv_at hl 2 rfl) ?_
  obtain ⟨r_1, h_r_1, hF⟩ := ob1E hF
  refine r_callVI (As := [.int v1, .int v2]) (rest := []) K hw hl.1 (c_Main_areTwo (l := l) (D := D) (cA := cA) (ad := ad) (s0 := s0) (Nat.le_trans (Nat.le_of_ble_eq_true rfl) hn)  h_r_1) (sh_Main (Nat.le_trans (Nat.le_of_ble_eq_true rfl) hn)) rfl (tb_gV w_724 w_726 w_17 w_63 w_727) a_Main_areTwo ⟨rfl, rfl, Nat.le_of_ble_eq_true rfl, Nat.le_of_ble_eq_true rfl⟩ rfl rfl (Nat.le_of_ble_eq_true rfl) d_Main_line_3 (fun H locs hw => ?_)
  refine lv_if_ne (tgt := 12) hx hb d_Main_line_6 (by decide) (fun c_2 => ?_) (fun c_2 => ?_)
  · replace hF := ifT hF c_2
    refine lv_bipush (v := -29) hx hb d_Main_line_12 (by decide) ?_
    refine lv_istore_n (lv' := [(3, .int (-29 : Int32)), (0, .ref (ad 20)), (1, .int v1), (2, .int v2)]) hx hb d_Main_line_14 rfl hl (by decide) rfl (fun ls hl => ?_)
    exact q_Main_line_15 hn K FU _ _ _ _ _ _ _  hw (lv_sub hl [1, 2, 3, 0] rfl) hF
  · replace hF := ifN hF c_2
    refine lv_bipush (v := -100) hx hb d_Main_line_9 (by decide) ?_
    obtain ⟨hF, hG⟩ := sE2 hF
    subst hF
    subst hG
    exact r_iret K hw d_Main_line_11
end S_Main_line
noncomputable abbrev F_Main_line := F_Main_line_0
theorem c_Main_line {l : Launch} {D : va_G} {cA : Nat → ClassId} {ad : Nat → Nat} {s0 τ : St} {nC : Nat} (hn : 46 ≤ nC) {r : Int32} {v1 : Int32} {v2 : Int32}  (hF : F_Main_line s0 v1 v2 = (some (r, τ))) : MI l D cA ad (shC.take nC) y_Main_line (wT y_Main_line b_Main_line 4 (some .int)) rm_Main_line [.ref (ad 20), .int v1, .int v2] s0 r τ := fun sz => m_start (Qc := fun A => QcI D cA ad (shC.take nC) A r τ) (by decide +kernel) w_825 (Nat.le_of_ble_eq_true rfl) (fun p e s m below meth c ls K hl hw => q_Main_line_0 hn K _ _ _ _ _ _  hw hl hF)

/-! Main.wouldWin(III)Z -/
abbrev b_Main_wouldWin : ByteArray := prog_1_method_48_code
def y_Main_wouldWin : MethodName := ⟨R_Main, "wouldWin", "(III)Z"⟩
theorem a_Main_wouldWin : y_Main_wouldWin.cls = R_Main ∧ y_Main_wouldWin.cls ≠ "java/lang/invoke/MethodHandle" ∧ y_Main_wouldWin.cls ≠ "java/lang/invoke/VarHandle" ∧ (parseMethodDescriptor y_Main_wouldWin.desc).map (fun d => d.parameters.length) = some 3 := by decide +kernel
abbrev rm_Main_wouldWin : Room := { frames := 5, cells := 0, slots := 0, locals := 116 }
theorem w_833 : Cond.code y_Main_wouldWin b_Main_wouldWin 4 (some .boolean) ∈ TB := tb_in 833 (by decide +kernel) (by decide +kernel)
theorem d_Main_wouldWin_0 : decode b_Main_wouldWin 0 = .ok (.aload_n 0, 1) := by decide +kernel
theorem d_Main_wouldWin_1 : decode b_Main_wouldWin 1 = .ok (.iload_n 1, 1) := by decide +kernel
theorem d_Main_wouldWin_2 : decode b_Main_wouldWin 2 = .ok (.iload_n 2, 1) := by decide +kernel
theorem d_Main_wouldWin_3 : decode b_Main_wouldWin 3 = .ok (.invokevirtual 174, 3) := by decide +kernel
theorem d_Main_wouldWin_6 : decode b_Main_wouldWin 6 = .ok (.aload_n 0, 1) := by decide +kernel
theorem d_Main_wouldWin_7 : decode b_Main_wouldWin 7 = .ok (.getfield 86, 3) := by decide +kernel
theorem d_Main_wouldWin_10 : decode b_Main_wouldWin 10 = .ok (.getfield 123, 3) := by decide +kernel
theorem d_Main_wouldWin_13 : decode b_Main_wouldWin 13 = .ok (.iload_n 3, 1) := by decide +kernel
theorem d_Main_wouldWin_14 : decode b_Main_wouldWin 14 = .ok (.putfield 133, 3) := by decide +kernel
theorem d_Main_wouldWin_17 : decode b_Main_wouldWin 17 = .ok (.aload_n 0, 1) := by decide +kernel
theorem d_Main_wouldWin_18 : decode b_Main_wouldWin 18 = .ok (.getfield 86, 3) := by decide +kernel
theorem d_Main_wouldWin_21 : decode b_Main_wouldWin 21 = .ok (.bipush 40, 2) := by decide +kernel
theorem d_Main_wouldWin_23 : decode b_Main_wouldWin 23 = .ok (.invokevirtual 182, 3) := by decide +kernel
theorem d_Main_wouldWin_26 : decode b_Main_wouldWin 26 = .ok (.aload_n 0, 1) := by decide +kernel
theorem d_Main_wouldWin_27 : decode b_Main_wouldWin 27 = .ok (.getfield 86, 3) := by decide +kernel
theorem d_Main_wouldWin_30 : decode b_Main_wouldWin 30 = .ok (.getfield 185, 3) := by decide +kernel
theorem d_Main_wouldWin_33 : decode b_Main_wouldWin 33 = .ok (.ifCond .le 7, 3) := by decide +kernel
theorem d_Main_wouldWin_36 : decode b_Main_wouldWin 36 = .ok (.iconst 1, 1) := by decide +kernel
theorem d_Main_wouldWin_37 : decode b_Main_wouldWin 37 = .ok (.goto 4, 3) := by decide +kernel
theorem d_Main_wouldWin_40 : decode b_Main_wouldWin 40 = .ok (.iconst 0, 1) := by decide +kernel
theorem d_Main_wouldWin_41 : decode b_Main_wouldWin 41 = .ok (.ireturn, 1) := by decide +kernel
section S_Main_wouldWin
variable {p : Program} {l : Launch} {e : Env} {s : State} {m : MethodId} {args : Array Value} {below : List Frame} {meth : Method} {c : Code} {D : va_G} {cA : Nat → ClassId} {ad : Nat → Nat} {nC : Nat} {A : Nat → Prop} {r : Int32} {τ : St}
noncomputable def F_Main_wouldWin_0 (s0 : St) (v1 : Int32) (v2 : Int32) (v3 : Int32) : Option (Int32 × St) := (ob1 (F_Main_opn s0 v1 v2) (fun s_1 => (lt (up1 s_1 42 1 v3) (fun s_2 => (ob1 (F_Bout_playTo s_2 (40 : Int32)) (fun s_3 => (if (s_3.1 41 3) ≤ 0 then (some ((0 : Int32), s_3)) else (some ((1 : Int32), s_3)))))))))
set_option maxHeartbeats 4000000 in
set_option maxRecDepth 100000 in
theorem q_Main_wouldWin_0 (hn : 46 ≤ nC) (K : Fx p s m args meth c b_Main_wouldWin 4 R_Main (some .boolean))  : ∀ (H : Heap) (locs : List Loc) (ls : Array Slot) (s0 : St) (v1 : Int32) (v2 : Int32) (v3 : Int32), Wh D cA ad (shC.take nC) A s s0 H locs → lv_has ls 4 [(0, .ref (ad 20)), (1, .int v1), (2, .int v2), (3, .int v3)] → F_Main_wouldWin_0 s0 v1 v2 v3 = (some (r, τ)) → W p l e rm_Main_wouldWin s m args below meth c H locs 0 0 (MQ below (QcI D cA ad (shC.take nC) A r τ) args s 0 0 A) (F0 m 0 ls []) := by
  have hx := K.1.1; have hb := K.1.2.1
  intro H locs ls s0 v1 v2 v3 hw hl hF
  unfold F_Main_wouldWin_0 at hF
  refine lv_aload_n hx hb d_Main_wouldWin_0 rfl (lv_at hl 0 rfl) ?_
  refine lv_iload_n hx hb d_Main_wouldWin_1 rfl (lv_at hl 1 rfl) ?_
  refine lv_iload_n hx hb d_Main_wouldWin_2 rfl (lv_at hl 2 rfl) ?_
  obtain ⟨s_1, h_s_1, hF⟩ := ob1E hF
  refine r_callVV (As := [.int v1, .int v2]) (rest := []) K hw hl.1 (c_Main_opn (l := l) (D := D) (cA := cA) (ad := ad) (s0 := s0) (Nat.le_trans (Nat.le_of_ble_eq_true rfl) hn)  h_s_1) (sh_Main (Nat.le_trans (Nat.le_of_ble_eq_true rfl) hn)) rfl (tb_gV w_728 w_730 w_18 w_63 w_731) a_Main_opn ⟨rfl, rfl, Nat.le_of_ble_eq_true rfl, Nat.le_of_ble_eq_true rfl⟩ rfl rfl (Nat.le_of_ble_eq_true rfl) d_Main_wouldWin_3 (fun H locs hw => ?_)
  refine lv_aload_n hx hb d_Main_wouldWin_6 rfl (lv_at hl 0 rfl) ?_
  refine r_get (v := .ref (ad 41)) K hw i_Main (sh_Main (Nat.le_trans (Nat.le_of_ble_eq_true rfl) hn)) rfl 7 (by decide) w_605 rfl rfl rfl d_Main_wouldWin_7 ?_
  refine r_get (v := .ref (ad 42)) K hw i_Bout (sh_Bout (Nat.le_trans (Nat.le_of_ble_eq_true rfl) hn)) rfl 0 (by decide) w_532 rfl rfl rfl d_Main_wouldWin_10 ?_
  refine lv_iload_n hx hb d_Main_wouldWin_13 rfl (lv_at hl 3 rfl) ?_
  refine r_putI K hw i_Side t_Side t_Side_ok n_Side (sh_Side (by decide) (Nat.le_trans (Nat.le_of_ble_eq_true rfl) hn)) rfl 1 (by decide) w_513 rfl rfl rfl rfl rfl d_Main_wouldWin_14 (fun s_2 f_s_2 H locs hw => ?_)
  replace hF := ltN hF f_s_2
  refine lv_aload_n hx hb d_Main_wouldWin_17 rfl (lv_at hl 0 rfl) ?_
  refine r_get (v := .ref (ad 41)) K hw i_Main (sh_Main (Nat.le_trans (Nat.le_of_ble_eq_true rfl) hn)) rfl 7 (by decide) w_605 rfl rfl rfl d_Main_wouldWin_18 ?_
  refine lv_bipush (v := 40) hx hb d_Main_wouldWin_21 (by decide) ?_
  obtain ⟨s_3, h_s_3, hF⟩ := ob1E hF
  refine r_callVV (As := [.int (40 : Int32)]) (rest := []) K hw hl.1 (c_Bout_playTo (l := l) (D := D) (cA := cA) (ad := ad) (s0 := s_2) (Nat.le_trans (Nat.le_of_ble_eq_true rfl) hn)  h_s_3) (sh_Bout (Nat.le_trans (Nat.le_of_ble_eq_true rfl) hn)) rfl (tb_gV w_737 w_738 w_739 w_77 w_740) a_Bout_playTo ⟨rfl, rfl, Nat.le_of_ble_eq_true rfl, Nat.le_of_ble_eq_true rfl⟩ rfl rfl (Nat.le_of_ble_eq_true rfl) d_Main_wouldWin_23 (fun H locs hw => ?_)
  refine lv_aload_n hx hb d_Main_wouldWin_26 rfl (lv_at hl 0 rfl) ?_
  refine r_get (v := .ref (ad 41)) K hw i_Main (sh_Main (Nat.le_trans (Nat.le_of_ble_eq_true rfl) hn)) rfl 7 (by decide) w_605 rfl rfl rfl d_Main_wouldWin_27 ?_
  refine r_get (v := .int (s_3.1 41 3)) K hw i_Bout (sh_Bout (Nat.le_trans (Nat.le_of_ble_eq_true rfl) hn)) rfl 3 (by decide) w_540 rfl rfl rfl d_Main_wouldWin_30 ?_
  refine lv_if_le (tgt := 40) hx hb d_Main_wouldWin_33 (by decide) (fun c_4 => ?_) (fun c_4 => ?_)
  · replace hF := ifT hF c_4
    refine lv_iconst (v := 0) hx hb d_Main_wouldWin_40 (by decide) ?_
    obtain ⟨hF, hG⟩ := sE2 hF
    subst hF
    subst hG
    exact r_zret K hw (by decide) d_Main_wouldWin_41
  · replace hF := ifF hF c_4
    refine lv_iconst (v := 1) hx hb d_Main_wouldWin_36 (by decide) ?_
    refine lv_goto (tgt := 41) hx hb d_Main_wouldWin_37 (by decide) ?_
    obtain ⟨hF, hG⟩ := sE2 hF
    subst hF
    subst hG
    exact r_zret K hw (by decide) d_Main_wouldWin_41
end S_Main_wouldWin
noncomputable abbrev F_Main_wouldWin := F_Main_wouldWin_0
theorem c_Main_wouldWin {l : Launch} {D : va_G} {cA : Nat → ClassId} {ad : Nat → Nat} {s0 τ : St} {nC : Nat} (hn : 46 ≤ nC) {r : Int32} {v1 : Int32} {v2 : Int32} {v3 : Int32}  (hF : F_Main_wouldWin s0 v1 v2 v3 = (some (r, τ))) : MI l D cA ad (shC.take nC) y_Main_wouldWin (wT y_Main_wouldWin b_Main_wouldWin 4 (some .boolean)) rm_Main_wouldWin [.ref (ad 20), .int v1, .int v2, .int v3] s0 r τ := fun sz => m_start (Qc := fun A => QcI D cA ad (shC.take nC) A r τ) (by decide +kernel) w_833 (Nat.le_of_ble_eq_true rfl) (fun p e s m below meth c ls K hl hw => q_Main_wouldWin_0 hn K _ _ _ _ _ _ _  hw hl hF)

/-! Main.needs(II)I -/
abbrev b_Main_needs : ByteArray := prog_1_method_17_code
def y_Main_needs : MethodName := ⟨R_Main, "needs", "(II)I"⟩
theorem a_Main_needs : y_Main_needs.cls = R_Main ∧ y_Main_needs.cls ≠ "java/lang/invoke/MethodHandle" ∧ y_Main_needs.cls ≠ "java/lang/invoke/VarHandle" ∧ (parseMethodDescriptor y_Main_needs.desc).map (fun d => d.parameters.length) = some 2 := by decide +kernel
abbrev rm_Main_needs : Room := { frames := 6, cells := 0, slots := 0, locals := 139 }
theorem w_830 : Cond.methodLink R_Main 223 y_Main_wouldWin ∈ TB := tb_in 830 (by decide +kernel) (by decide +kernel)
theorem w_832 : Cond.instanceMethod y_Main_wouldWin ∈ TB := tb_in 832 (by decide +kernel) (by decide +kernel)
theorem w_24 : Cond.selects R_Main y_Main_wouldWin y_Main_wouldWin ∈ TB := tb_in 24 (by decide +kernel) (by decide +kernel)
theorem w_829 : Cond.code y_Main_needs b_Main_needs 4 (some .int) ∈ TB := tb_in 829 (by decide +kernel) (by decide +kernel)
theorem d_Main_needs_0 : decode b_Main_needs 0 = .ok (.aload_n 0, 1) := by decide +kernel
theorem d_Main_needs_1 : decode b_Main_needs 1 = .ok (.iload_n 1, 1) := by decide +kernel
theorem d_Main_needs_2 : decode b_Main_needs 2 = .ok (.iload_n 2, 1) := by decide +kernel
theorem d_Main_needs_3 : decode b_Main_needs 3 = .ok (.invokevirtual 194, 3) := by decide +kernel
theorem d_Main_needs_6 : decode b_Main_needs 6 = .ok (.ifCond .ne 6, 3) := by decide +kernel
theorem d_Main_needs_9 : decode b_Main_needs 9 = .ok (.bipush (-5), 2) := by decide +kernel
theorem d_Main_needs_11 : decode b_Main_needs 11 = .ok (.ireturn, 1) := by decide +kernel
theorem d_Main_needs_12 : decode b_Main_needs 12 = .ok (.iconst 0, 1) := by decide +kernel
theorem d_Main_needs_13 : decode b_Main_needs 13 = .ok (.istore_n 3, 1) := by decide +kernel
theorem d_Main_needs_14 : decode b_Main_needs 14 = .ok (.iload_n 3, 1) := by decide +kernel
theorem d_Main_needs_15 : decode b_Main_needs 15 = .ok (.bipush 24, 2) := by decide +kernel
theorem d_Main_needs_17 : decode b_Main_needs 17 = .ok (.if_icmp .gt 21, 3) := by decide +kernel
theorem d_Main_needs_20 : decode b_Main_needs 20 = .ok (.aload_n 0, 1) := by decide +kernel
theorem d_Main_needs_21 : decode b_Main_needs 21 = .ok (.iload_n 1, 1) := by decide +kernel
theorem d_Main_needs_22 : decode b_Main_needs 22 = .ok (.iload_n 2, 1) := by decide +kernel
theorem d_Main_needs_23 : decode b_Main_needs 23 = .ok (.iload_n 3, 1) := by decide +kernel
theorem d_Main_needs_24 : decode b_Main_needs 24 = .ok (.invokevirtual 223, 3) := by decide +kernel
theorem d_Main_needs_27 : decode b_Main_needs 27 = .ok (.ifCond .eq 5, 3) := by decide +kernel
theorem d_Main_needs_30 : decode b_Main_needs 30 = .ok (.iload_n 3, 1) := by decide +kernel
theorem d_Main_needs_31 : decode b_Main_needs 31 = .ok (.ireturn, 1) := by decide +kernel
theorem d_Main_needs_32 : decode b_Main_needs 32 = .ok (.iinc 3 1, 3) := by decide +kernel
theorem d_Main_needs_35 : decode b_Main_needs 35 = .ok (.goto (-21), 3) := by decide +kernel
theorem d_Main_needs_38 : decode b_Main_needs 38 = .ok (.iconst (-1), 1) := by decide +kernel
theorem d_Main_needs_39 : decode b_Main_needs 39 = .ok (.ireturn, 1) := by decide +kernel
section S_Main_needs
variable {p : Program} {l : Launch} {e : Env} {s : State} {m : MethodId} {args : Array Value} {below : List Frame} {meth : Method} {c : Code} {D : va_G} {cA : Nat → ClassId} {ad : Nat → Nat} {nC : Nat} {A : Nat → Prop} {r : Int32} {τ : St}
noncomputable def F_Main_needs_14 : Nat → St → Int32 → Int32 → Int32 → Option (Int32 × St)
  | 0, _, _, _, _ => none
  | n + 1, s0, v1, v2, v3 => (if (24 : Int32) < v3 then (some ((-1 : Int32), s0)) else (ob2 (F_Main_wouldWin s0 v1 v2 v3) (fun r_4 s_5 => (if r_4 = 0 then (F_Main_needs_14 n s_5 v1 v2 (v3 + 1)) else (some (v3, s_5))))))
set_option maxHeartbeats 4000000 in
set_option maxRecDepth 100000 in
theorem q_Main_needs_14 (hn : 46 ≤ nC) (K : Fx p s m args meth c b_Main_needs 4 R_Main (some .int))  : ∀ (n : Nat), ∀ (H : Heap) (locs : List Loc) (ls : Array Slot) (s0 : St) (v1 : Int32) (v2 : Int32) (v3 : Int32), Wh D cA ad (shC.take nC) A s s0 H locs → lv_has ls 4 [(0, .ref (ad 20)), (1, .int v1), (2, .int v2), (3, .int v3)] → F_Main_needs_14 n s0 v1 v2 v3 = (some (r, τ)) → W p l e rm_Main_needs s m args below meth c H locs 0 0 (MQ below (QcI D cA ad (shC.take nC) A r τ) args s 0 0 A) (F0 m 14 ls []) := by
  have hx := K.1.1; have hb := K.1.2.1
  intro n
  induction n with
  | zero =>
    intro H locs ls s0 v1 v2 v3 hw hl hF
    exact absurd hF (by rw [F_Main_needs_14]; exact nofun)
  | succ n ih =>
    intro H locs ls s0 v1 v2 v3 hw hl hF
    rw [F_Main_needs_14] at hF
    refine lv_iload_n hx hb d_Main_needs_14 rfl (lv_at hl 3 rfl) ?_
    refine lv_bipush (v := 24) hx hb d_Main_needs_15 (by decide) ?_
    refine lv_icmp_gt (tgt := 38) hx hb d_Main_needs_17 (by decide) (fun c_3 => ?_) (fun c_3 => ?_)
    · replace hF := ifT hF c_3
      refine lv_iconst (v := -1) hx hb d_Main_needs_38 (by decide) ?_
      obtain ⟨hF, hG⟩ := sE2 hF
      subst hF
      subst hG
      exact r_iret K hw d_Main_needs_39
    · replace hF := ifF hF c_3
      refine lv_aload_n hx hb d_Main_needs_20 rfl (lv_at hl 0 rfl) ?_
      refine lv_iload_n hx hb d_Main_needs_21 rfl (lv_at hl 1 rfl) ?_
      refine lv_iload_n hx hb d_Main_needs_22 rfl (lv_at hl 2 rfl) ?_
      refine lv_iload_n hx hb d_Main_needs_23 rfl (lv_at hl 3 rfl) ?_
      obtain ⟨r_4, s_5, h_s_5, hF⟩ := ob2E hF
      refine r_callVI (As := [.int v1, .int v2, .int v3]) (rest := []) K hw hl.1 (c_Main_wouldWin (l := l) (D := D) (cA := cA) (ad := ad) (s0 := s0) (Nat.le_trans (Nat.le_of_ble_eq_true rfl) hn)  h_s_5) (sh_Main (Nat.le_trans (Nat.le_of_ble_eq_true rfl) hn)) rfl (tb_gV w_830 w_832 w_24 w_63 w_833) a_Main_wouldWin ⟨rfl, rfl, Nat.le_of_ble_eq_true rfl, Nat.le_of_ble_eq_true rfl⟩ rfl rfl (Nat.le_of_ble_eq_true rfl) d_Main_needs_24 (fun H locs hw => ?_)
      refine lv_if_eq (tgt := 32) hx hb d_Main_needs_27 (by decide) (fun c_6 => ?_) (fun c_6 => ?_)
      · replace hF := ifT hF c_6
        refine lv_iinc (v := (v3 + 1)) (lv' := [(3, .int (v3 + 1)), (0, .ref (ad 20)), (1, .int v1), (2, .int v2)]) hx hb d_Main_needs_32 hl (k := 3) rfl rfl (by decide) rfl (fun ls hl => ?_)
        refine lv_goto (tgt := 14) hx hb d_Main_needs_35 (by decide) ?_
        exact ih _ _ _ _ _ _ _  hw (lv_sub hl [1, 2, 3, 0] rfl) hF
      · replace hF := ifF hF c_6
        refine lv_iload_n hx hb d_Main_needs_30 rfl (lv_at hl 3 rfl) ?_
        obtain ⟨hF, hG⟩ := sE2 hF
        subst hF
        subst hG
        exact r_iret K hw d_Main_needs_31
noncomputable def F_Main_needs_0 (s0 : St) (v1 : Int32) (v2 : Int32) : Option (Int32 × St) := (ob1 (F_Main_areTwo s0 v1 v2) (fun r_1 => (if ¬ r_1 = 0 then (F_Main_needs_14 FU s0 v1 v2 (0 : Int32)) else (some ((-5 : Int32), s0)))))
set_option maxHeartbeats 4000000 in
set_option maxRecDepth 100000 in
theorem q_Main_needs_0 (hn : 46 ≤ nC) (K : Fx p s m args meth c b_Main_needs 4 R_Main (some .int))  : ∀ (H : Heap) (locs : List Loc) (ls : Array Slot) (s0 : St) (v1 : Int32) (v2 : Int32), Wh D cA ad (shC.take nC) A s s0 H locs → lv_has ls 4 [(0, .ref (ad 20)), (1, .int v1), (2, .int v2)] → F_Main_needs_0 s0 v1 v2 = (some (r, τ)) → W p l e rm_Main_needs s m args below meth c H locs 0 0 (MQ below (QcI D cA ad (shC.take nC) A r τ) args s 0 0 A) (F0 m 0 ls []) := by
  have hx := K.1.1; have hb := K.1.2.1
  intro H locs ls s0 v1 v2 hw hl hF
  unfold F_Main_needs_0 at hF
  refine lv_aload_n hx hb d_Main_needs_0 rfl (lv_at hl 0 rfl) ?_
  refine lv_iload_n hx hb d_Main_needs_1 rfl (lv_at hl 1 rfl) ?_
  refine lv_iload_n hx hb d_Main_needs_2 rfl (lv_at hl 2 rfl) ?_
  obtain ⟨r_1, h_r_1, hF⟩ := ob1E hF
  refine r_callVI (As := [.int v1, .int v2]) (rest := []) K hw hl.1 (c_Main_areTwo (l := l) (D := D) (cA := cA) (ad := ad) (s0 := s0) (Nat.le_trans (Nat.le_of_ble_eq_true rfl) hn)  h_r_1) (sh_Main (Nat.le_trans (Nat.le_of_ble_eq_true rfl) hn)) rfl (tb_gV w_724 w_726 w_17 w_63 w_727) a_Main_areTwo ⟨rfl, rfl, Nat.le_of_ble_eq_true rfl, Nat.le_of_ble_eq_true rfl⟩ rfl rfl (Nat.le_of_ble_eq_true rfl) d_Main_needs_3 (fun H locs hw => ?_)
  refine lv_if_ne (tgt := 12) hx hb d_Main_needs_6 (by decide) (fun c_2 => ?_) (fun c_2 => ?_)
  · replace hF := ifT hF c_2
    refine lv_iconst (v := 0) hx hb d_Main_needs_12 (by decide) ?_
    refine lv_istore_n (lv' := [(3, .int (0 : Int32)), (0, .ref (ad 20)), (1, .int v1), (2, .int v2)]) hx hb d_Main_needs_13 rfl hl (by decide) rfl (fun ls hl => ?_)
    exact q_Main_needs_14 hn K FU _ _ _ _ _ _ _  hw (lv_sub hl [1, 2, 3, 0] rfl) hF
  · replace hF := ifN hF c_2
    refine lv_bipush (v := -5) hx hb d_Main_needs_9 (by decide) ?_
    obtain ⟨hF, hG⟩ := sE2 hF
    subst hF
    subst hG
    exact r_iret K hw d_Main_needs_11
end S_Main_needs
noncomputable abbrev F_Main_needs := F_Main_needs_0
theorem c_Main_needs {l : Launch} {D : va_G} {cA : Nat → ClassId} {ad : Nat → Nat} {s0 τ : St} {nC : Nat} (hn : 46 ≤ nC) {r : Int32} {v1 : Int32} {v2 : Int32}  (hF : F_Main_needs s0 v1 v2 = (some (r, τ))) : MI l D cA ad (shC.take nC) y_Main_needs (wT y_Main_needs b_Main_needs 4 (some .int)) rm_Main_needs [.ref (ad 20), .int v1, .int v2] s0 r τ := fun sz => m_start (Qc := fun A => QcI D cA ad (shC.take nC) A r τ) (by decide +kernel) w_829 (Nat.le_of_ble_eq_true rfl) (fun p e s m below meth c ls K hl hw => q_Main_needs_0 hn K _ _ _ _ _ _  hw hl hF)

/-! Main.digits(I)I -/
abbrev b_Main_digits : ByteArray := prog_1_method_40_code
def y_Main_digits : MethodName := ⟨R_Main, "digits", "(I)I"⟩
theorem a_Main_digits : y_Main_digits.cls = R_Main ∧ y_Main_digits.cls ≠ "java/lang/invoke/MethodHandle" ∧ y_Main_digits.cls ≠ "java/lang/invoke/VarHandle" ∧ (parseMethodDescriptor y_Main_digits.desc).map (fun d => d.parameters.length) = some 1 := by decide +kernel
abbrev rm_Main_digits : Room := { frames := 0, cells := 0, slots := 0, locals := 0 }
theorem w_853 : Cond.code y_Main_digits b_Main_digits 3 (some .int) ∈ TB := tb_in 853 (by decide +kernel) (by decide +kernel)
theorem d_Main_digits_0 : decode b_Main_digits 0 = .ok (.iconst 0, 1) := by decide +kernel
theorem d_Main_digits_1 : decode b_Main_digits 1 = .ok (.istore_n 1, 1) := by decide +kernel
theorem d_Main_digits_2 : decode b_Main_digits 2 = .ok (.iload_n 0, 1) := by decide +kernel
theorem d_Main_digits_3 : decode b_Main_digits 3 = .ok (.istore_n 2, 1) := by decide +kernel
theorem d_Main_digits_4 : decode b_Main_digits 4 = .ok (.iload_n 2, 1) := by decide +kernel
theorem d_Main_digits_5 : decode b_Main_digits 5 = .ok (.ifCond .le 20, 3) := by decide +kernel
theorem d_Main_digits_8 : decode b_Main_digits 8 = .ok (.iload_n 1, 1) := by decide +kernel
theorem d_Main_digits_9 : decode b_Main_digits 9 = .ok (.bipush 6, 2) := by decide +kernel
theorem d_Main_digits_11 : decode b_Main_digits 11 = .ok (.if_icmp .ge 14, 3) := by decide +kernel
theorem d_Main_digits_14 : decode b_Main_digits 14 = .ok (.iinc 1 1, 3) := by decide +kernel
theorem d_Main_digits_17 : decode b_Main_digits 17 = .ok (.iload_n 2, 1) := by decide +kernel
theorem d_Main_digits_18 : decode b_Main_digits 18 = .ok (.bipush 10, 2) := by decide +kernel
theorem d_Main_digits_20 : decode b_Main_digits 20 = .ok (.idiv, 1) := by decide +kernel
theorem d_Main_digits_21 : decode b_Main_digits 21 = .ok (.istore_n 2, 1) := by decide +kernel
theorem d_Main_digits_22 : decode b_Main_digits 22 = .ok (.goto (-18), 3) := by decide +kernel
theorem d_Main_digits_25 : decode b_Main_digits 25 = .ok (.iload_n 1, 1) := by decide +kernel
theorem d_Main_digits_26 : decode b_Main_digits 26 = .ok (.ireturn, 1) := by decide +kernel
section S_Main_digits
variable {p : Program} {l : Launch} {e : Env} {s : State} {m : MethodId} {args : Array Value} {below : List Frame} {meth : Method} {c : Code} {D : va_G} {cA : Nat → ClassId} {ad : Nat → Nat} {nC : Nat} {A : Nat → Prop} {r : Int32} {τ : St}
noncomputable def F_Main_digits_4 : Nat → Int32 → Int32 → Option Int32
  | 0, _, _ => none
  | n + 1, v1, v2 => (if v2 ≤ 0 then (some v1) else (if (6 : Int32) ≤ v1 then (some v1) else (F_Main_digits_4 n (v1 + 1) (v2 / (10 : Int32)))))
set_option maxHeartbeats 4000000 in
set_option maxRecDepth 100000 in
theorem q_Main_digits_4 (hn : 0 ≤ nC) (s0 : St) (K : Fx p s m args meth c b_Main_digits 3 R_Main (some .int))  : ∀ (n : Nat), ∀ (H : Heap) (locs : List Loc) (ls : Array Slot) (v1 : Int32) (v2 : Int32), Wh D cA ad (shC.take nC) A s s0 H locs → lv_has ls 3 [(1, .int v1), (2, .int v2)] → F_Main_digits_4 n v1 v2 = (some r) → W p l e rm_Main_digits s m args below meth c H locs 0 0 (MQ below (QcI D cA ad (shC.take nC) A r s0) args s 0 0 A) (F0 m 4 ls []) := by
  have hx := K.1.1; have hb := K.1.2.1
  intro n
  induction n with
  | zero =>
    intro H locs ls v1 v2 hw hl hF
    exact absurd hF (by rw [F_Main_digits_4]; exact nofun)
  | succ n ih =>
    intro H locs ls v1 v2 hw hl hF
    rw [F_Main_digits_4] at hF
    refine lv_iload_n hx hb d_Main_digits_4 rfl (lv_at hl 1 rfl) ?_
    refine lv_if_le (tgt := 25) hx hb d_Main_digits_5 (by decide) (fun c_1 => ?_) (fun c_1 => ?_)
    · replace hF := ifT hF c_1
      refine lv_iload_n hx hb d_Main_digits_25 rfl (lv_at hl 0 rfl) ?_
      replace hF := sE1 hF
      subst hF
      exact r_iret K hw d_Main_digits_26
    · replace hF := ifF hF c_1
      refine lv_iload_n hx hb d_Main_digits_8 rfl (lv_at hl 0 rfl) ?_
      refine lv_bipush (v := 6) hx hb d_Main_digits_9 (by decide) ?_
      refine lv_icmp_ge (tgt := 25) hx hb d_Main_digits_11 (by decide) (fun c_2 => ?_) (fun c_2 => ?_)
      · replace hF := ifT hF c_2
        refine lv_iload_n hx hb d_Main_digits_25 rfl (lv_at hl 0 rfl) ?_
        replace hF := sE1 hF
        subst hF
        exact r_iret K hw d_Main_digits_26
      · replace hF := ifF hF c_2
        refine lv_iinc (v := (v1 + 1)) (lv' := [(1, .int (v1 + 1)), (2, .int v2)]) hx hb d_Main_digits_14 hl (k := 0) rfl rfl (by decide) rfl (fun ls hl => ?_)
        refine lv_iload_n hx hb d_Main_digits_17 rfl (lv_at hl 1 rfl) ?_
        refine lv_bipush (v := 10) hx hb d_Main_digits_18 (by decide) ?_
        refine lv_idiv hx hb d_Main_digits_20 (by decide) ?_
        refine lv_istore_n (lv' := [(2, .int (v2 / (10 : Int32))), (1, .int (v1 + 1))]) hx hb d_Main_digits_21 rfl hl (by decide) rfl (fun ls hl => ?_)
        refine lv_goto (tgt := 4) hx hb d_Main_digits_22 (by decide) ?_
        exact ih _ _ _ _ _  hw (lv_sub hl [1, 0] rfl) hF
noncomputable def F_Main_digits_0 (v0 : Int32) : Option Int32 := (F_Main_digits_4 FU (0 : Int32) v0)
set_option maxHeartbeats 4000000 in
set_option maxRecDepth 100000 in
theorem q_Main_digits_0 (hn : 0 ≤ nC) (s0 : St) (K : Fx p s m args meth c b_Main_digits 3 R_Main (some .int))  : ∀ (H : Heap) (locs : List Loc) (ls : Array Slot) (v0 : Int32), Wh D cA ad (shC.take nC) A s s0 H locs → lv_has ls 3 [(0, .int v0)] → F_Main_digits_0 v0 = (some r) → W p l e rm_Main_digits s m args below meth c H locs 0 0 (MQ below (QcI D cA ad (shC.take nC) A r s0) args s 0 0 A) (F0 m 0 ls []) := by
  have hx := K.1.1; have hb := K.1.2.1
  intro H locs ls v0 hw hl hF
  unfold F_Main_digits_0 at hF
  refine lv_iconst (v := 0) hx hb d_Main_digits_0 (by decide) ?_
  refine lv_istore_n (lv' := [(1, .int (0 : Int32)), (0, .int v0)]) hx hb d_Main_digits_1 rfl hl (by decide) rfl (fun ls hl => ?_)
  refine lv_iload_n hx hb d_Main_digits_2 rfl (lv_at hl 1 rfl) ?_
  refine lv_istore_n (lv' := [(2, .int v0), (1, .int (0 : Int32)), (0, .int v0)]) hx hb d_Main_digits_3 rfl hl (by decide) rfl (fun ls hl => ?_)
  exact q_Main_digits_4 hn s0 K FU _ _ _ _ _  hw (lv_sub hl [1, 0] rfl) hF
end S_Main_digits
noncomputable abbrev F_Main_digits := F_Main_digits_0
theorem c_Main_digits {l : Launch} {D : va_G} {cA : Nat → ClassId} {ad : Nat → Nat} {s0 : St} {nC : Nat} (hn : 0 ≤ nC) {r : Int32} {v0 : Int32}  (hF : F_Main_digits v0 = (some r)) : MI l D cA ad (shC.take nC) y_Main_digits (wT y_Main_digits b_Main_digits 3 (some .int)) rm_Main_digits [.int v0] s0 r s0 := fun sz => m_start (Qc := fun A => QcI D cA ad (shC.take nC) A r s0) (by decide +kernel) w_853 (Nat.le_of_ble_eq_true rfl) (fun p e s m below meth c ls K hl hw => q_Main_digits_0 hn s0 K _ _ _ _  hw hl hF)

/-! Main.has(II)Z -/
abbrev b_Main_has : ByteArray := prog_1_method_39_code
def y_Main_has : MethodName := ⟨R_Main, "has", "(II)Z"⟩
theorem a_Main_has : y_Main_has.cls = R_Main ∧ y_Main_has.cls ≠ "java/lang/invoke/MethodHandle" ∧ y_Main_has.cls ≠ "java/lang/invoke/VarHandle" ∧ (parseMethodDescriptor y_Main_has.desc).map (fun d => d.parameters.length) = some 2 := by decide +kernel
abbrev rm_Main_has : Room := { frames := 0, cells := 0, slots := 0, locals := 0 }
theorem w_840 : Cond.code y_Main_has b_Main_has 2 (some .boolean) ∈ TB := tb_in 840 (by decide +kernel) (by decide +kernel)
theorem d_Main_has_0 : decode b_Main_has 0 = .ok (.iload_n 0, 1) := by decide +kernel
theorem d_Main_has_1 : decode b_Main_has 1 = .ok (.iload_n 1, 1) := by decide +kernel
theorem d_Main_has_2 : decode b_Main_has 2 = .ok (.ishr, 1) := by decide +kernel
theorem d_Main_has_3 : decode b_Main_has 3 = .ok (.iconst 1, 1) := by decide +kernel
theorem d_Main_has_4 : decode b_Main_has 4 = .ok (.iand, 1) := by decide +kernel
theorem d_Main_has_5 : decode b_Main_has 5 = .ok (.iconst 1, 1) := by decide +kernel
theorem d_Main_has_6 : decode b_Main_has 6 = .ok (.if_icmp .ne 7, 3) := by decide +kernel
theorem d_Main_has_9 : decode b_Main_has 9 = .ok (.iconst 1, 1) := by decide +kernel
theorem d_Main_has_10 : decode b_Main_has 10 = .ok (.goto 4, 3) := by decide +kernel
theorem d_Main_has_13 : decode b_Main_has 13 = .ok (.iconst 0, 1) := by decide +kernel
theorem d_Main_has_14 : decode b_Main_has 14 = .ok (.ireturn, 1) := by decide +kernel
section S_Main_has
variable {p : Program} {l : Launch} {e : Env} {s : State} {m : MethodId} {args : Array Value} {below : List Frame} {meth : Method} {c : Code} {D : va_G} {cA : Nat → ClassId} {ad : Nat → Nat} {nC : Nat} {A : Nat → Prop} {r : Int32} {τ : St}
noncomputable def F_Main_has_0 (v0 : Int32) (v1 : Int32) : Int32 := (if ¬ ((jshr v0 v1) &&& (1 : Int32)) = (1 : Int32) then (0 : Int32) else (1 : Int32))
set_option maxHeartbeats 4000000 in
set_option maxRecDepth 100000 in
theorem q_Main_has_0 (hn : 0 ≤ nC) (s0 : St) (K : Fx p s m args meth c b_Main_has 2 R_Main (some .boolean))  : ∀ (H : Heap) (locs : List Loc) (ls : Array Slot) (v0 : Int32) (v1 : Int32), Wh D cA ad (shC.take nC) A s s0 H locs → lv_has ls 2 [(0, .int v0), (1, .int v1)] → F_Main_has_0 v0 v1 = r → W p l e rm_Main_has s m args below meth c H locs 0 0 (MQ below (QcI D cA ad (shC.take nC) A r s0) args s 0 0 A) (F0 m 0 ls []) := by
  have hx := K.1.1; have hb := K.1.2.1
  intro H locs ls v0 v1 hw hl hF
  unfold F_Main_has_0 at hF
  refine lv_iload_n hx hb d_Main_has_0 rfl (lv_at hl 0 rfl) ?_
  refine lv_iload_n hx hb d_Main_has_1 rfl (lv_at hl 1 rfl) ?_
  refine lv_ishr hx hb d_Main_has_2 ?_
  refine lv_iconst (v := 1) hx hb d_Main_has_3 (by decide) ?_
  refine lv_iand hx hb d_Main_has_4 ?_
  refine lv_iconst (v := 1) hx hb d_Main_has_5 (by decide) ?_
  refine lv_icmp_ne (tgt := 13) hx hb d_Main_has_6 (by decide) (fun c_1 => ?_) (fun c_1 => ?_)
  · replace hF := ifT hF c_1
    refine lv_iconst (v := 0) hx hb d_Main_has_13 (by decide) ?_
    subst hF
    exact r_zret K hw (by decide) d_Main_has_14
  · replace hF := ifN hF c_1
    refine lv_iconst (v := 1) hx hb d_Main_has_9 (by decide) ?_
    refine lv_goto (tgt := 14) hx hb d_Main_has_10 (by decide) ?_
    subst hF
    exact r_zret K hw (by decide) d_Main_has_14
end S_Main_has
noncomputable abbrev F_Main_has := F_Main_has_0
theorem c_Main_has {l : Launch} {D : va_G} {cA : Nat → ClassId} {ad : Nat → Nat} {s0 : St} {nC : Nat} (hn : 0 ≤ nC) {r : Int32} {v0 : Int32} {v1 : Int32}  (hF : F_Main_has v0 v1 = r) : MI l D cA ad (shC.take nC) y_Main_has (wT y_Main_has b_Main_has 2 (some .boolean)) rm_Main_has [.int v0, .int v1] s0 r s0 := fun sz => m_start (Qc := fun A => QcI D cA ad (shC.take nC) A r s0) (by decide +kernel) w_840 (Nat.le_of_ble_eq_true rfl) (fun p e s m below meth c ls K hl hw => q_Main_has_0 hn s0 K _ _ _ _ _  hw hl hF)
