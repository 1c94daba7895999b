/-! Tokens.readTape()V -/
abbrev b_Tokens_readTape : ByteArray := prog_11_method_2_code
def y_Tokens_readTape : MethodName := ⟨R_Tokens, "readTape", "()V"⟩
theorem a_Tokens_readTape : y_Tokens_readTape.cls = R_Tokens ∧ y_Tokens_readTape.cls ≠ "java/lang/invoke/MethodHandle" ∧ y_Tokens_readTape.cls ≠ "java/lang/invoke/VarHandle" ∧ (parseMethodDescriptor y_Tokens_readTape.desc).map (fun d => d.parameters.length) = some 0 := by decide +kernel
abbrev rm_Tokens_readTape : Room := { frames := 6, cells := 0, slots := 0, locals := 134 }
theorem w_334 : Cond.methodLink R_Tokens 35 y_Tape_isBlank ∈ TB := tb_in 334 (by decide +kernel) (by decide +kernel)
theorem w_335 : Cond.instanceMethod y_Tape_isBlank ∈ TB := tb_in 335 (by decide +kernel) (by decide +kernel)
theorem w_336 : Cond.selects R_Tape y_Tape_isBlank y_Tape_isBlank ∈ TB := tb_in 336 (by decide +kernel) (by decide +kernel)
theorem w_373 : Cond.methodLink R_Tokens 51 y_Tokens_takeSign ∈ TB := tb_in 373 (by decide +kernel) (by decide +kernel)
theorem w_375 : Cond.instanceMethod y_Tokens_takeSign ∈ TB := tb_in 375 (by decide +kernel) (by decide +kernel)
theorem w_4 : Cond.selects R_Tokens y_Tokens_takeSign y_Tokens_takeSign ∈ TB := tb_in 4 (by decide +kernel) (by decide +kernel)
theorem w_369 : Cond.methodLink R_Tokens 48 y_Tokens_takeNumber ∈ TB := tb_in 369 (by decide +kernel) (by decide +kernel)
theorem w_371 : Cond.instanceMethod y_Tokens_takeNumber ∈ TB := tb_in 371 (by decide +kernel) (by decide +kernel)
theorem w_3 : Cond.selects R_Tokens y_Tokens_takeNumber y_Tokens_takeNumber ∈ TB := tb_in 3 (by decide +kernel) (by decide +kernel)
theorem w_349 : Cond.methodLink R_Tokens 42 y_Tokens_takeWord ∈ TB := tb_in 349 (by decide +kernel) (by decide +kernel)
theorem w_351 : Cond.instanceMethod y_Tokens_takeWord ∈ TB := tb_in 351 (by decide +kernel) (by decide +kernel)
theorem w_0 : Cond.selects R_Tokens y_Tokens_takeWord y_Tokens_takeWord ∈ TB := tb_in 0 (by decide +kernel) (by decide +kernel)
theorem w_333 : Cond.code y_Tokens_readTape b_Tokens_readTape 2 none ∈ TB := tb_in 333 (by decide +kernel) (by decide +kernel)
theorem d_Tokens_readTape_0 : decode b_Tokens_readTape 0 = .ok (.aload_n 0, 1) := by decide +kernel
theorem d_Tokens_readTape_1 : decode b_Tokens_readTape 1 = .ok (.iconst 0, 1) := by decide +kernel
theorem d_Tokens_readTape_2 : decode b_Tokens_readTape 2 = .ok (.putfield 25, 3) := by decide +kernel
theorem d_Tokens_readTape_5 : decode b_Tokens_readTape 5 = .ok (.aload_n 0, 1) := by decide +kernel
theorem d_Tokens_readTape_6 : decode b_Tokens_readTape 6 = .ok (.iconst 0, 1) := by decide +kernel
theorem d_Tokens_readTape_7 : decode b_Tokens_readTape 7 = .ok (.putfield 29, 3) := by decide +kernel
theorem d_Tokens_readTape_10 : decode b_Tokens_readTape 10 = .ok (.iconst 0, 1) := by decide +kernel
theorem d_Tokens_readTape_11 : decode b_Tokens_readTape 11 = .ok (.istore_n 1, 1) := by decide +kernel
theorem d_Tokens_readTape_12 : decode b_Tokens_readTape 12 = .ok (.iload_n 1, 1) := by decide +kernel
theorem d_Tokens_readTape_13 : decode b_Tokens_readTape 13 = .ok (.sipush 160, 3) := by decide +kernel
theorem d_Tokens_readTape_16 : decode b_Tokens_readTape 16 = .ok (.if_icmp .ge 96, 3) := by decide +kernel
theorem d_Tokens_readTape_19 : decode b_Tokens_readTape 19 = .ok (.aload_n 0, 1) := by decide +kernel
theorem d_Tokens_readTape_20 : decode b_Tokens_readTape 20 = .ok (.getfield 29, 3) := by decide +kernel
theorem d_Tokens_readTape_23 : decode b_Tokens_readTape 23 = .ok (.aload_n 0, 1) := by decide +kernel
theorem d_Tokens_readTape_24 : decode b_Tokens_readTape 24 = .ok (.getfield 21, 3) := by decide +kernel
theorem d_Tokens_readTape_27 : decode b_Tokens_readTape 27 = .ok (.getfield 32, 3) := by decide +kernel
theorem d_Tokens_readTape_30 : decode b_Tokens_readTape 30 = .ok (.if_icmp .ge 82, 3) := by decide +kernel
theorem d_Tokens_readTape_33 : decode b_Tokens_readTape 33 = .ok (.aload_n 0, 1) := by decide +kernel
theorem d_Tokens_readTape_34 : decode b_Tokens_readTape 34 = .ok (.getfield 21, 3) := by decide +kernel
theorem d_Tokens_readTape_37 : decode b_Tokens_readTape 37 = .ok (.aload_n 0, 1) := by decide +kernel
theorem d_Tokens_readTape_38 : decode b_Tokens_readTape 38 = .ok (.getfield 29, 3) := by decide +kernel
theorem d_Tokens_readTape_41 : decode b_Tokens_readTape 41 = .ok (.invokevirtual 35, 3) := by decide +kernel
theorem d_Tokens_readTape_44 : decode b_Tokens_readTape 44 = .ok (.ifCond .eq 16, 3) := by decide +kernel
theorem d_Tokens_readTape_47 : decode b_Tokens_readTape 47 = .ok (.aload_n 0, 1) := by decide +kernel
theorem d_Tokens_readTape_48 : decode b_Tokens_readTape 48 = .ok (.dup, 1) := by decide +kernel
theorem d_Tokens_readTape_49 : decode b_Tokens_readTape 49 = .ok (.getfield 29, 3) := by decide +kernel
theorem d_Tokens_readTape_52 : decode b_Tokens_readTape 52 = .ok (.iconst 1, 1) := by decide +kernel
theorem d_Tokens_readTape_53 : decode b_Tokens_readTape 53 = .ok (.iadd, 1) := by decide +kernel
theorem d_Tokens_readTape_54 : decode b_Tokens_readTape 54 = .ok (.putfield 29, 3) := by decide +kernel
theorem d_Tokens_readTape_57 : decode b_Tokens_readTape 57 = .ok (.goto 49, 3) := by decide +kernel
theorem d_Tokens_readTape_60 : decode b_Tokens_readTape 60 = .ok (.aload_n 0, 1) := by decide +kernel
theorem d_Tokens_readTape_61 : decode b_Tokens_readTape 61 = .ok (.getfield 21, 3) := by decide +kernel
theorem d_Tokens_readTape_64 : decode b_Tokens_readTape 64 = .ok (.aload_n 0, 1) := by decide +kernel
theorem d_Tokens_readTape_65 : decode b_Tokens_readTape 65 = .ok (.getfield 29, 3) := by decide +kernel
theorem d_Tokens_readTape_68 : decode b_Tokens_readTape 68 = .ok (.invokevirtual 39, 3) := by decide +kernel
theorem d_Tokens_readTape_71 : decode b_Tokens_readTape 71 = .ok (.ifCond .eq 10, 3) := by decide +kernel
theorem d_Tokens_readTape_74 : decode b_Tokens_readTape 74 = .ok (.aload_n 0, 1) := by decide +kernel
theorem d_Tokens_readTape_75 : decode b_Tokens_readTape 75 = .ok (.invokevirtual 42, 3) := by decide +kernel
theorem d_Tokens_readTape_78 : decode b_Tokens_readTape 78 = .ok (.goto 28, 3) := by decide +kernel
theorem d_Tokens_readTape_81 : decode b_Tokens_readTape 81 = .ok (.aload_n 0, 1) := by decide +kernel
theorem d_Tokens_readTape_82 : decode b_Tokens_readTape 82 = .ok (.getfield 21, 3) := by decide +kernel
theorem d_Tokens_readTape_85 : decode b_Tokens_readTape 85 = .ok (.aload_n 0, 1) := by decide +kernel
theorem d_Tokens_readTape_86 : decode b_Tokens_readTape 86 = .ok (.getfield 29, 3) := by decide +kernel
theorem d_Tokens_readTape_89 : decode b_Tokens_readTape 89 = .ok (.invokevirtual 45, 3) := by decide +kernel
theorem d_Tokens_readTape_92 : decode b_Tokens_readTape 92 = .ok (.ifCond .eq 10, 3) := by decide +kernel
theorem d_Tokens_readTape_95 : decode b_Tokens_readTape 95 = .ok (.aload_n 0, 1) := by decide +kernel
theorem d_Tokens_readTape_96 : decode b_Tokens_readTape 96 = .ok (.invokevirtual 48, 3) := by decide +kernel
theorem d_Tokens_readTape_99 : decode b_Tokens_readTape 99 = .ok (.goto 7, 3) := by decide +kernel
theorem d_Tokens_readTape_102 : decode b_Tokens_readTape 102 = .ok (.aload_n 0, 1) := by decide +kernel
theorem d_Tokens_readTape_103 : decode b_Tokens_readTape 103 = .ok (.invokevirtual 51, 3) := by decide +kernel
theorem d_Tokens_readTape_106 : decode b_Tokens_readTape 106 = .ok (.iinc 1 1, 3) := by decide +kernel
theorem d_Tokens_readTape_109 : decode b_Tokens_readTape 109 = .ok (.goto (-97), 3) := by decide +kernel
theorem d_Tokens_readTape_112 : decode b_Tokens_readTape 112 = .ok (.aload_n 0, 1) := by decide +kernel
theorem d_Tokens_readTape_113 : decode b_Tokens_readTape 113 = .ok (.iconst 0, 1) := by decide +kernel
theorem d_Tokens_readTape_114 : decode b_Tokens_readTape 114 = .ok (.iconst 0, 1) := by decide +kernel
theorem d_Tokens_readTape_115 : decode b_Tokens_readTape 115 = .ok (.aload_n 0, 1) := by decide +kernel
theorem d_Tokens_readTape_116 : decode b_Tokens_readTape 116 = .ok (.getfield 21, 3) := by decide +kernel
theorem d_Tokens_readTape_119 : decode b_Tokens_readTape 119 = .ok (.getfield 32, 3) := by decide +kernel
theorem d_Tokens_readTape_122 : decode b_Tokens_readTape 122 = .ok (.invokevirtual 54, 3) := by decide +kernel
theorem d_Tokens_readTape_125 : decode b_Tokens_readTape 125 = .ok (.return_, 1) := by decide +kernel
section S_Tokens_readTape
variable {p : Program} {l : Launch} {e : Env} {s : State} {m : MethodId} {args : Array Value} {below : List Frame} {meth : Method} {c : Code} {D : va_G} {cA : Nat → ClassId} {ad : Nat → Nat} {nC : Nat} {A : Nat → Prop} {τ : St}
noncomputable def F_Tokens_readTape_112 (s0 : St) : Option St := (ob1 (F_Tokens_add s0 (0 : Int32) (0 : Int32) (s0.1 0 1)) (fun s_4 => (some s_4)))
set_option maxHeartbeats 4000000 in
set_option maxRecDepth 100000 in
theorem q_Tokens_readTape_112 (hn : 7 ≤ nC) (K : Fx p s m args meth c b_Tokens_readTape 2 R_Tokens none)  : ∀ (H : Heap) (locs : List Loc) (ls : Array Slot) (s0 : St), Wh D cA ad (shC.take nC) A s s0 H locs → lv_has ls 2 [(0, .ref (ad 3))] → F_Tokens_readTape_112 s0 = (some τ) → W p l e rm_Tokens_readTape s m args below meth c H locs 0 0 (MQ below (QcV D cA ad (shC.take nC) A τ) args s 0 0 A) (F0 m 112 ls []) := by
  have hx := K.1.1; have hb := K.1.2.1
  intro H locs ls s0 hw hl hF
  unfold F_Tokens_readTape_112 at hF
  refine lv_aload_n hx hb d_Tokens_readTape_112 rfl (lv_at hl 0 rfl) ?_
  refine lv_iconst (v := 0) hx hb d_Tokens_readTape_113 (by decide) ?_
  refine lv_iconst (v := 0) hx hb d_Tokens_readTape_114 (by decide) ?_
  refine lv_aload_n hx hb d_Tokens_readTape_115 rfl (lv_at hl 0 rfl) ?_
  refine r_get (v := .ref (ad 0)) K hw i_Tokens (sh_Tokens (Nat.le_trans (Nat.le_of_ble_eq_true rfl) hn)) rfl 0 (by decide) w_288 rfl rfl rfl d_Tokens_readTape_116 ?_
  refine r_get (v := .int (s0.1 0 1)) K hw i_Tape (sh_Tape (Nat.le_trans (Nat.le_of_ble_eq_true rfl) hn)) rfl 1 (by decide) w_103 rfl rfl rfl d_Tokens_readTape_119 ?_
  obtain ⟨s_4, h_s_4, hF⟩ := ob1E hF
  refine r_callVV (As := [.int (0 : Int32), .int (0 : Int32), .int (s0.1 0 1)]) (rest := []) K hw hl.1 (c_Tokens_add (l := l) (D := D) (cA := cA) (ad := ad) (s0 := s0) (Nat.le_trans (Nat.le_of_ble_eq_true rfl) hn)  h_s_4) (sh_Tokens (Nat.le_trans (Nat.le_of_ble_eq_true rfl) hn)) rfl (tb_gV w_361 w_363 w_2 w_74 w_364) a_Tokens_add ⟨rfl, rfl, Nat.le_of_ble_eq_true rfl, Nat.le_of_ble_eq_true rfl⟩ rfl rfl (Nat.le_of_ble_eq_true rfl) d_Tokens_readTape_122 (fun H locs hw => ?_)
  replace hF := sE1 hF
  subst hF
  exact r_vret K hw d_Tokens_readTape_125
noncomputable def F_Tokens_readTape_106 (k8 : (St → Int32 → Option St)) (s0 : St) (v1 : Int32) : Option St := (k8 s0 (v1 + 1))
set_option maxHeartbeats 4000000 in
set_option maxRecDepth 100000 in
theorem q_Tokens_readTape_106 (hn : 7 ≤ nC) (K : Fx p s m args meth c b_Tokens_readTape 2 R_Tokens none) (k8 : (St → Int32 → Option St)) (hk8 : ∀ (H : Heap) (locs : List Loc) (ls : Array Slot) (s0 : St) (v1 : Int32), Wh D cA ad (shC.take nC) A s s0 H locs → lv_has ls 2 [(0, .ref (ad 3)), (1, .int v1)] → k8 s0 v1 = (some τ) → W p l e rm_Tokens_readTape s m args below meth c H locs 0 0 (MQ below (QcV D cA ad (shC.take nC) A τ) args s 0 0 A) (F0 m 12 ls [])) : ∀ (H : Heap) (locs : List Loc) (ls : Array Slot) (s0 : St) (v1 : Int32), Wh D cA ad (shC.take nC) A s s0 H locs → lv_has ls 2 [(0, .ref (ad 3)), (1, .int v1)] → F_Tokens_readTape_106 k8 s0 v1 = (some τ) → W p l e rm_Tokens_readTape s m args below meth c H locs 0 0 (MQ below (QcV D cA ad (shC.take nC) A τ) args s 0 0 A) (F0 m 106 ls []) := by
  have hx := K.1.1; have hb := K.1.2.1
  intro H locs ls s0 v1 hw hl hF
  unfold F_Tokens_readTape_106 at hF
  refine lv_iinc (v := (v1 + 1)) (lv' := [(1, .int (v1 + 1)), (0, .ref (ad 3))]) hx hb d_Tokens_readTape_106 hl (k := 1) rfl rfl (by decide) rfl (fun ls hl => ?_)
  refine lv_goto (tgt := 12) hx hb d_Tokens_readTape_109 (by decide) ?_
  exact hk8 _ _ _ _ _  hw (lv_sub hl [1, 0] rfl) hF
noncomputable def F_Tokens_readTape_12 : Nat → St → Int32 → Option St
  | 0, _, _ => none
  | n + 1, s0, v1 => (if (160 : Int32) ≤ v1 then (F_Tokens_readTape_112 s0) else (if (s0.1 0 1) ≤ (s0.1 3 5) then (F_Tokens_readTape_112 s0) else (ob1 (F_Tape_isBlank s0 (s0.1 3 5)) (fun r_6 => (if r_6 = 0 then (ob1 (F_Tape_isLetter s0 (s0.1 3 5)) (fun r_8 => (if r_8 = 0 then (ob1 (F_Tape_isDigit s0 (s0.1 3 5)) (fun r_10 => (if r_10 = 0 then (ob1 (F_Tokens_takeSign s0 ) (fun s_12 => (F_Tokens_readTape_106 (fun z0 zv1 => F_Tokens_readTape_12 n z0 zv1) s_12 v1))) else (ob1 (F_Tokens_takeNumber s0 ) (fun s_13 => (F_Tokens_readTape_106 (fun z0 zv1 => F_Tokens_readTape_12 n z0 zv1) s_13 v1)))))) else (ob1 (F_Tokens_takeWord s0 ) (fun s_14 => (F_Tokens_readTape_106 (fun z0 zv1 => F_Tokens_readTape_12 n z0 zv1) s_14 v1)))))) else (lt (up1 s0 3 5 ((s0.1 3 5) + (1 : Int32))) (fun s_15 => (F_Tokens_readTape_106 (fun z0 zv1 => F_Tokens_readTape_12 n z0 zv1) s_15 v1))))))))
set_option maxHeartbeats 4000000 in
set_option maxRecDepth 100000 in
theorem q_Tokens_readTape_12 (hn : 7 ≤ nC) (K : Fx p s m args meth c b_Tokens_readTape 2 R_Tokens none)  : ∀ (n : Nat), ∀ (H : Heap) (locs : List Loc) (ls : Array Slot) (s0 : St) (v1 : Int32), Wh D cA ad (shC.take nC) A s s0 H locs → lv_has ls 2 [(0, .ref (ad 3)), (1, .int v1)] → F_Tokens_readTape_12 n s0 v1 = (some τ) → W p l e rm_Tokens_readTape s m args below meth c H locs 0 0 (MQ below (QcV D cA ad (shC.take nC) A τ) args s 0 0 A) (F0 m 12 ls []) := by
  have hx := K.1.1; have hb := K.1.2.1
  intro n
  induction n with
  | zero =>
    intro H locs ls s0 v1 hw hl hF
    exact absurd hF (by rw [F_Tokens_readTape_12]; exact nofun)
  | succ n ih =>
    intro H locs ls s0 v1 hw hl hF
    rw [F_Tokens_readTape_12] at hF
    refine lv_iload_n hx hb d_Tokens_readTape_12 rfl (lv_at hl 1 rfl) ?_
    refine lv_sipush (v := 160) hx hb d_Tokens_readTape_13 (by decide) ?_
    refine lv_icmp_ge (tgt := 112) hx hb d_Tokens_readTape_16 (by decide) (fun c_3 => ?_) (fun c_3 => ?_)
    · replace hF := ifT hF c_3
      exact q_Tokens_readTape_112 hn K _ _ _ _  hw (lv_sub hl [0] rfl) hF
    · replace hF := ifF hF c_3
      refine lv_aload_n hx hb d_Tokens_readTape_19 rfl (lv_at hl 0 rfl) ?_
      refine r_get (v := .int (s0.1 3 5)) K hw i_Tokens (sh_Tokens (Nat.le_trans (Nat.le_of_ble_eq_true rfl) hn)) rfl 5 (by decide) w_293 rfl rfl rfl d_Tokens_readTape_20 ?_
      refine lv_aload_n hx hb d_Tokens_readTape_23 rfl (lv_at hl 0 rfl) ?_
      refine r_get (v := .ref (ad 0)) K hw i_Tokens (sh_Tokens (Nat.le_trans (Nat.le_of_ble_eq_true rfl) hn)) rfl 0 (by decide) w_288 rfl rfl rfl d_Tokens_readTape_24 ?_
      refine r_get (v := .int (s0.1 0 1)) K hw i_Tape (sh_Tape (Nat.le_trans (Nat.le_of_ble_eq_true rfl) hn)) rfl 1 (by decide) w_103 rfl rfl rfl d_Tokens_readTape_27 ?_
      refine lv_icmp_ge (tgt := 112) hx hb d_Tokens_readTape_30 (by decide) (fun c_5 => ?_) (fun c_5 => ?_)
      · replace hF := ifT hF c_5
        exact q_Tokens_readTape_112 hn K _ _ _ _  hw (lv_sub hl [0] rfl) hF
      · replace hF := ifF hF c_5
        refine lv_aload_n hx hb d_Tokens_readTape_33 rfl (lv_at hl 0 rfl) ?_
        refine r_get (v := .ref (ad 0)) K hw i_Tokens (sh_Tokens (Nat.le_trans (Nat.le_of_ble_eq_true rfl) hn)) rfl 0 (by decide) w_288 rfl rfl rfl d_Tokens_readTape_34 ?_
        refine lv_aload_n hx hb d_Tokens_readTape_37 rfl (lv_at hl 0 rfl) ?_
        refine r_get (v := .int (s0.1 3 5)) K hw i_Tokens (sh_Tokens (Nat.le_trans (Nat.le_of_ble_eq_true rfl) hn)) rfl 5 (by decide) w_293 rfl rfl rfl d_Tokens_readTape_38 ?_
        obtain ⟨r_6, h_r_6, hF⟩ := ob1E hF
        refine r_callVI (As := [.int (s0.1 3 5)]) (rest := []) K hw hl.1 (c_Tape_isBlank (l := l) (D := D) (cA := cA) (ad := ad) (s0 := s0) (Nat.le_trans (Nat.le_of_ble_eq_true rfl) hn)  h_r_6) (sh_Tape (Nat.le_trans (Nat.le_of_ble_eq_true rfl) hn)) rfl (tb_gV w_334 w_335 w_336 w_64 w_337) a_Tape_isBlank ⟨rfl, rfl, Nat.le_of_ble_eq_true rfl, Nat.le_of_ble_eq_true rfl⟩ rfl rfl (Nat.le_of_ble_eq_true rfl) d_Tokens_readTape_41 (fun H locs hw => ?_)
        refine lv_if_eq (tgt := 60) hx hb d_Tokens_readTape_44 (by decide) (fun c_7 => ?_) (fun c_7 => ?_)
        · replace hF := ifT hF c_7
          refine lv_aload_n hx hb d_Tokens_readTape_60 rfl (lv_at hl 0 rfl) ?_
          refine r_get (v := .ref (ad 0)) K hw i_Tokens (sh_Tokens (Nat.le_trans (Nat.le_of_ble_eq_true rfl) hn)) rfl 0 (by decide) w_288 rfl rfl rfl d_Tokens_readTape_61 ?_
          refine lv_aload_n hx hb d_Tokens_readTape_64 rfl (lv_at hl 0 rfl) ?_
          refine r_get (v := .int (s0.1 3 5)) K hw i_Tokens (sh_Tokens (Nat.le_trans (Nat.le_of_ble_eq_true rfl) hn)) rfl 5 (by decide) w_293 rfl rfl rfl d_Tokens_readTape_65 ?_
          obtain ⟨r_8, h_r_8, hF⟩ := ob1E hF
          refine r_callVI (As := [.int (s0.1 3 5)]) (rest := []) K hw hl.1 (c_Tape_isLetter (l := l) (D := D) (cA := cA) (ad := ad) (s0 := s0) (Nat.le_trans (Nat.le_of_ble_eq_true rfl) hn)  h_r_8) (sh_Tape (Nat.le_trans (Nat.le_of_ble_eq_true rfl) hn)) rfl (tb_gV w_342 w_343 w_344 w_64 w_345) a_Tape_isLetter ⟨rfl, rfl, Nat.le_of_ble_eq_true rfl, Nat.le_of_ble_eq_true rfl⟩ rfl rfl (Nat.le_of_ble_eq_true rfl) d_Tokens_readTape_68 (fun H locs hw => ?_)
          refine lv_if_eq (tgt := 81) hx hb d_Tokens_readTape_71 (by decide) (fun c_9 => ?_) (fun c_9 => ?_)
          · replace hF := ifT hF c_9
            refine lv_aload_n hx hb d_Tokens_readTape_81 rfl (lv_at hl 0 rfl) ?_
            refine r_get (v := .ref (ad 0)) K hw i_Tokens (sh_Tokens (Nat.le_trans (Nat.le_of_ble_eq_true rfl) hn)) rfl 0 (by decide) w_288 rfl rfl rfl d_Tokens_readTape_82 ?_
            refine lv_aload_n hx hb d_Tokens_readTape_85 rfl (lv_at hl 0 rfl) ?_
            refine r_get (v := .int (s0.1 3 5)) K hw i_Tokens (sh_Tokens (Nat.le_trans (Nat.le_of_ble_eq_true rfl) hn)) rfl 5 (by decide) w_293 rfl rfl rfl d_Tokens_readTape_86 ?_
            obtain ⟨r_10, h_r_10, hF⟩ := ob1E hF
            refine r_callVI (As := [.int (s0.1 3 5)]) (rest := []) K hw hl.1 (c_Tape_isDigit (l := l) (D := D) (cA := cA) (ad := ad) (s0 := s0) (Nat.le_trans (Nat.le_of_ble_eq_true rfl) hn)  h_r_10) (sh_Tape (Nat.le_trans (Nat.le_of_ble_eq_true rfl) hn)) rfl (tb_gV w_365 w_366 w_367 w_64 w_368) a_Tape_isDigit ⟨rfl, rfl, Nat.le_of_ble_eq_true rfl, Nat.le_of_ble_eq_true rfl⟩ rfl rfl (Nat.le_of_ble_eq_true rfl) d_Tokens_readTape_89 (fun H locs hw => ?_)
            refine lv_if_eq (tgt := 102) hx hb d_Tokens_readTape_92 (by decide) (fun c_11 => ?_) (fun c_11 => ?_)
            · replace hF := ifT hF c_11
              refine lv_aload_n hx hb d_Tokens_readTape_102 rfl (lv_at hl 0 rfl) ?_
              obtain ⟨s_12, h_s_12, hF⟩ := ob1E hF
              refine r_callVV (As := []) (rest := []) K hw hl.1 (c_Tokens_takeSign (l := l) (D := D) (cA := cA) (ad := ad) (s0 := s0) (Nat.le_trans (Nat.le_of_ble_eq_true rfl) hn)  h_s_12) (sh_Tokens (Nat.le_trans (Nat.le_of_ble_eq_true rfl) hn)) rfl (tb_gV w_373 w_375 w_4 w_74 w_376) a_Tokens_takeSign ⟨rfl, rfl, Nat.le_of_ble_eq_true rfl, Nat.le_of_ble_eq_true rfl⟩ rfl rfl (Nat.le_of_ble_eq_true rfl) d_Tokens_readTape_103 (fun H locs hw => ?_)
              exact q_Tokens_readTape_106 hn K (fun z0 zv1 => F_Tokens_readTape_12 n z0 zv1) ih _ _ _ _ _  hw (lv_sub hl [0, 1] rfl) hF
            · replace hF := ifF hF c_11
              refine lv_aload_n hx hb d_Tokens_readTape_95 rfl (lv_at hl 0 rfl) ?_
              obtain ⟨s_13, h_s_13, hF⟩ := ob1E hF
              refine r_callVV (As := []) (rest := []) K hw hl.1 (c_Tokens_takeNumber (l := l) (D := D) (cA := cA) (ad := ad) (s0 := s0) (Nat.le_trans (Nat.le_of_ble_eq_true rfl) hn)  h_s_13) (sh_Tokens (Nat.le_trans (Nat.le_of_ble_eq_true rfl) hn)) rfl (tb_gV w_369 w_371 w_3 w_74 w_372) a_Tokens_takeNumber ⟨rfl, rfl, Nat.le_of_ble_eq_true rfl, Nat.le_of_ble_eq_true rfl⟩ rfl rfl (Nat.le_of_ble_eq_true rfl) d_Tokens_readTape_96 (fun H locs hw => ?_)
              refine lv_goto (tgt := 106) hx hb d_Tokens_readTape_99 (by decide) ?_
              exact q_Tokens_readTape_106 hn K (fun z0 zv1 => F_Tokens_readTape_12 n z0 zv1) ih _ _ _ _ _  hw (lv_sub hl [0, 1] rfl) hF
          · replace hF := ifF hF c_9
            refine lv_aload_n hx hb d_Tokens_readTape_74 rfl (lv_at hl 0 rfl) ?_
            obtain ⟨s_14, h_s_14, hF⟩ := ob1E hF
            refine r_callVV (As := []) (rest := []) K hw hl.1 (c_Tokens_takeWord (l := l) (D := D) (cA := cA) (ad := ad) (s0 := s0) (Nat.le_trans (Nat.le_of_ble_eq_true rfl) hn)  h_s_14) (sh_Tokens (Nat.le_trans (Nat.le_of_ble_eq_true rfl) hn)) rfl (tb_gV w_349 w_351 w_0 w_74 w_352) a_Tokens_takeWord ⟨rfl, rfl, Nat.le_of_ble_eq_true rfl, Nat.le_of_ble_eq_true rfl⟩ rfl rfl (Nat.le_of_ble_eq_true rfl) d_Tokens_readTape_75 (fun H locs hw => ?_)
            refine lv_goto (tgt := 106) hx hb d_Tokens_readTape_78 (by decide) ?_
            exact q_Tokens_readTape_106 hn K (fun z0 zv1 => F_Tokens_readTape_12 n z0 zv1) ih _ _ _ _ _  hw (lv_sub hl [0, 1] rfl) hF
        · replace hF := ifF hF c_7
          refine lv_aload_n hx hb d_Tokens_readTape_47 rfl (lv_at hl 0 rfl) ?_
          refine lv_dup hx hb d_Tokens_readTape_48 rfl ?_
          refine r_get (v := .int (s0.1 3 5)) K hw i_Tokens (sh_Tokens (Nat.le_trans (Nat.le_of_ble_eq_true rfl) hn)) rfl 5 (by decide) w_293 rfl rfl rfl d_Tokens_readTape_49 ?_
          refine lv_iconst (v := 1) hx hb d_Tokens_readTape_52 (by decide) ?_
          refine lv_iadd hx hb d_Tokens_readTape_53 ?_
          refine r_putI K hw i_Tokens t_Tokens t_Tokens_ok n_Tokens (sh_Tokens (Nat.le_trans (Nat.le_of_ble_eq_true rfl) hn)) rfl 5 (by decide) w_293 rfl rfl rfl rfl rfl d_Tokens_readTape_54 (fun s_15 f_s_15 H locs hw => ?_)
          replace hF := ltN hF f_s_15
          refine lv_goto (tgt := 106) hx hb d_Tokens_readTape_57 (by decide) ?_
          exact q_Tokens_readTape_106 hn K (fun z0 zv1 => F_Tokens_readTape_12 n z0 zv1) ih _ _ _ _ _  hw (lv_sub hl [0, 1] rfl) hF
noncomputable def F_Tokens_readTape_0 (s0 : St) : Option St := (lt (up1 s0 3 4 (0 : Int32)) (fun s_1 => (lt (up1 s_1 3 5 (0 : Int32)) (fun s_2 => (F_Tokens_readTape_12 FU s_2 (0 : Int32))))))
set_option maxHeartbeats 4000000 in
set_option maxRecDepth 100000 in
theorem q_Tokens_readTape_0 (hn : 7 ≤ nC) (K : Fx p s m args meth c b_Tokens_readTape 2 R_Tokens none)  : ∀ (H : Heap) (locs : List Loc) (ls : Array Slot) (s0 : St), Wh D cA ad (shC.take nC) A s s0 H locs → lv_has ls 2 [(0, .ref (ad 3))] → F_Tokens_readTape_0 s0 = (some τ) → W p l e rm_Tokens_readTape s m args below meth c H locs 0 0 (MQ below (QcV D cA ad (shC.take nC) A τ) args s 0 0 A) (F0 m 0 ls []) := by
  have hx := K.1.1; have hb := K.1.2.1
  intro H locs ls s0 hw hl hF
  unfold F_Tokens_readTape_0 at hF
  refine lv_aload_n hx hb d_Tokens_readTape_0 rfl (lv_at hl 0 rfl) ?_
  refine lv_iconst (v := 0) hx hb d_Tokens_readTape_1 (by decide) ?_
  refine r_putI K hw i_Tokens t_Tokens t_Tokens_ok n_Tokens (sh_Tokens (Nat.le_trans (Nat.le_of_ble_eq_true rfl) hn)) rfl 4 (by decide) w_292 rfl rfl rfl rfl rfl d_Tokens_readTape_2 (fun s_1 f_s_1 H locs hw => ?_)
  replace hF := ltN hF f_s_1
  refine lv_aload_n hx hb d_Tokens_readTape_5 rfl (lv_at hl 0 rfl) ?_
  refine lv_iconst (v := 0) hx hb d_Tokens_readTape_6 (by decide) ?_
  refine r_putI K hw i_Tokens t_Tokens t_Tokens_ok n_Tokens (sh_Tokens (Nat.le_trans (Nat.le_of_ble_eq_true rfl) hn)) rfl 5 (by decide) w_293 rfl rfl rfl rfl rfl d_Tokens_readTape_7 (fun s_2 f_s_2 H locs hw => ?_)
  replace hF := ltN hF f_s_2
  refine lv_iconst (v := 0) hx hb d_Tokens_readTape_10 (by decide) ?_
  refine lv_istore_n (lv' := [(1, .int (0 : Int32)), (0, .ref (ad 3))]) hx hb d_Tokens_readTape_11 rfl hl (by decide) rfl (fun ls hl => ?_)
  exact q_Tokens_readTape_12 hn K FU _ _ _ _ _  hw (lv_sub hl [1, 0] rfl) hF
end S_Tokens_readTape
noncomputable abbrev F_Tokens_readTape := F_Tokens_readTape_0
theorem c_Tokens_readTape {l : Launch} {D : va_G} {cA : Nat → ClassId} {ad : Nat → Nat} {s0 τ : St} {nC : Nat} (hn : 7 ≤ nC)   (hF : F_Tokens_readTape s0 = (some τ)) : MV l D cA ad (shC.take nC) y_Tokens_readTape (wT y_Tokens_readTape b_Tokens_readTape 2 none) rm_Tokens_readTape [.ref (ad 3)] s0 τ := fun sz => m_start (Qc := fun A => QcV D cA ad (shC.take nC) A τ) (by decide +kernel) w_333 (Nat.le_of_ble_eq_true rfl) (fun p e s m below meth c ls K hl hw => q_Tokens_readTape_0 hn K _ _ _ _   hw hl hF)

/-! Reader.read()I -/
abbrev b_Reader_read : ByteArray := prog_5_method_2_code
def y_Reader_read : MethodName := ⟨R_Reader, "read", "()I"⟩
theorem a_Reader_read : y_Reader_read.cls = R_Reader ∧ y_Reader_read.cls ≠ "java/lang/invoke/MethodHandle" ∧ y_Reader_read.cls ≠ "java/lang/invoke/VarHandle" ∧ (parseMethodDescriptor y_Reader_read.desc).map (fun d => d.parameters.length) = some 0 := by decide +kernel
abbrev rm_Reader_read : Room := { frames := 68, cells := 0, slots := 0, locals := 1688 }
theorem w_326 : Cond.methodLink R_Reader 24 y_Text_empty ∈ TB := tb_in 326 (by decide +kernel) (by decide +kernel)
theorem w_327 : Cond.instanceMethod y_Text_empty ∈ TB := tb_in 327 (by decide +kernel) (by decide +kernel)
theorem w_328 : Cond.selects R_Text y_Text_empty y_Text_empty ∈ TB := tb_in 328 (by decide +kernel) (by decide +kernel)
theorem w_330 : Cond.methodLink R_Reader 36 y_Tokens_readTape ∈ TB := tb_in 330 (by decide +kernel) (by decide +kernel)
theorem w_331 : Cond.instanceMethod y_Tokens_readTape ∈ TB := tb_in 331 (by decide +kernel) (by decide +kernel)
theorem w_332 : Cond.selects R_Tokens y_Tokens_readTape y_Tokens_readTape ∈ TB := tb_in 332 (by decide +kernel) (by decide +kernel)
theorem w_488 : Cond.methodLink R_Reader 47 y_Text_endPart ∈ TB := tb_in 488 (by decide +kernel) (by decide +kernel)
theorem w_489 : Cond.instanceMethod y_Text_endPart ∈ TB := tb_in 489 (by decide +kernel) (by decide +kernel)
theorem w_490 : Cond.selects R_Text y_Text_endPart y_Text_endPart ∈ TB := tb_in 490 (by decide +kernel) (by decide +kernel)
theorem w_325 : Cond.code y_Reader_read b_Reader_read 2 (some .int) ∈ TB := tb_in 325 (by decide +kernel) (by decide +kernel)
theorem d_Reader_read_0 : decode b_Reader_read 0 = .ok (.aload_n 0, 1) := by decide +kernel
theorem d_Reader_read_1 : decode b_Reader_read 1 = .ok (.getfield 20, 3) := by decide +kernel
theorem d_Reader_read_4 : decode b_Reader_read 4 = .ok (.invokevirtual 24, 3) := by decide +kernel
theorem d_Reader_read_7 : decode b_Reader_read 7 = .ok (.aload_n 0, 1) := by decide +kernel
theorem d_Reader_read_8 : decode b_Reader_read 8 = .ok (.iconst 0, 1) := by decide +kernel
theorem d_Reader_read_9 : decode b_Reader_read 9 = .ok (.putfield 29, 3) := by decide +kernel
theorem d_Reader_read_12 : decode b_Reader_read 12 = .ok (.aload_n 0, 1) := by decide +kernel
theorem d_Reader_read_13 : decode b_Reader_read 13 = .ok (.iconst (-1), 1) := by decide +kernel
theorem d_Reader_read_14 : decode b_Reader_read 14 = .ok (.putfield 33, 3) := by decide +kernel
theorem d_Reader_read_17 : decode b_Reader_read 17 = .ok (.aload_n 0, 1) := by decide +kernel
theorem d_Reader_read_18 : decode b_Reader_read 18 = .ok (.getfield 14, 3) := by decide +kernel
theorem d_Reader_read_21 : decode b_Reader_read 21 = .ok (.invokevirtual 36, 3) := by decide +kernel
theorem d_Reader_read_24 : decode b_Reader_read 24 = .ok (.iconst 0, 1) := by decide +kernel
theorem d_Reader_read_25 : decode b_Reader_read 25 = .ok (.istore_n 1, 1) := by decide +kernel
theorem d_Reader_read_26 : decode b_Reader_read 26 = .ok (.iload_n 1, 1) := by decide +kernel
theorem d_Reader_read_27 : decode b_Reader_read 27 = .ok (.iconst 2, 1) := by decide +kernel
theorem d_Reader_read_28 : decode b_Reader_read 28 = .ok (.if_icmp .gt 37, 3) := by decide +kernel
theorem d_Reader_read_31 : decode b_Reader_read 31 = .ok (.aload_n 0, 1) := by decide +kernel
theorem d_Reader_read_32 : decode b_Reader_read 32 = .ok (.bipush 10, 2) := by decide +kernel
theorem d_Reader_read_34 : decode b_Reader_read 34 = .ok (.iload_n 1, 1) := by decide +kernel
theorem d_Reader_read_35 : decode b_Reader_read 35 = .ok (.iadd, 1) := by decide +kernel
theorem d_Reader_read_36 : decode b_Reader_read 36 = .ok (.invokevirtual 39, 3) := by decide +kernel
theorem d_Reader_read_39 : decode b_Reader_read 39 = .ok (.aload_n 0, 1) := by decide +kernel
theorem d_Reader_read_40 : decode b_Reader_read 40 = .ok (.iconst 0, 1) := by decide +kernel
theorem d_Reader_read_41 : decode b_Reader_read 41 = .ok (.iconst 0, 1) := by decide +kernel
theorem d_Reader_read_42 : decode b_Reader_read 42 = .ok (.invokevirtual 43, 3) := by decide +kernel
theorem d_Reader_read_45 : decode b_Reader_read 45 = .ok (.aload_n 0, 1) := by decide +kernel
theorem d_Reader_read_46 : decode b_Reader_read 46 = .ok (.bipush 59, 2) := by decide +kernel
theorem d_Reader_read_48 : decode b_Reader_read 48 = .ok (.invokevirtual 39, 3) := by decide +kernel
theorem d_Reader_read_51 : decode b_Reader_read 51 = .ok (.aload_n 0, 1) := by decide +kernel
theorem d_Reader_read_52 : decode b_Reader_read 52 = .ok (.getfield 20, 3) := by decide +kernel
theorem d_Reader_read_55 : decode b_Reader_read 55 = .ok (.iload_n 1, 1) := by decide +kernel
theorem d_Reader_read_56 : decode b_Reader_read 56 = .ok (.invokevirtual 47, 3) := by decide +kernel
theorem d_Reader_read_59 : decode b_Reader_read 59 = .ok (.iinc 1 1, 3) := by decide +kernel
theorem d_Reader_read_62 : decode b_Reader_read 62 = .ok (.goto (-36), 3) := by decide +kernel
theorem d_Reader_read_65 : decode b_Reader_read 65 = .ok (.aload_n 0, 1) := by decide +kernel
theorem d_Reader_read_66 : decode b_Reader_read 66 = .ok (.iconst 0, 1) := by decide +kernel
theorem d_Reader_read_67 : decode b_Reader_read 67 = .ok (.invokevirtual 39, 3) := by decide +kernel
theorem d_Reader_read_70 : decode b_Reader_read 70 = .ok (.aload_n 0, 1) := by decide +kernel
theorem d_Reader_read_71 : decode b_Reader_read 71 = .ok (.getfield 33, 3) := by decide +kernel
theorem d_Reader_read_74 : decode b_Reader_read 74 = .ok (.ireturn, 1) := by decide +kernel
section S_Reader_read
variable {p : Program} {l : Launch} {e : Env} {s : State} {m : MethodId} {args : Array Value} {below : List Frame} {meth : Method} {c : Code} {D : va_G} {cA : Nat → ClassId} {ad : Nat → Nat} {nC : Nat} {A : Nat → Prop} {r : Int32} {τ : St}
noncomputable def F_Reader_read_26 : Nat → St → Int32 → Option (Int32 × St)
  | 0, _, _ => none
  | n + 1, s0, v1 => (if (2 : Int32) < v1 then (ob1 (F_Reader_expect s0 (0 : Int32)) (fun s_7 => (some ((s_7.1 2 3), s_7)))) else (ob1 (F_Reader_expect s0 ((10 : Int32) + v1)) (fun s_8 => (ob1 (F_Reader_readLevel s_8 (0 : Int32) (0 : Int32)) (fun s_9 => (ob1 (F_Reader_expect s_9 (59 : Int32)) (fun s_10 => (if P_Text (s_10.2 2 1) then (lt (F_Text_endPart s_10 (s_10.2 2 1) v1) (fun s_12 => (F_Reader_read_26 n s_12 (v1 + 1)))) else none))))))))
set_option maxHeartbeats 4000000 in
set_option maxRecDepth 100000 in
theorem q_Reader_read_26 (hn : 20 ≤ nC) (K : Fx p s m args meth c b_Reader_read 2 R_Reader (some .int))  : ∀ (n : Nat), ∀ (H : Heap) (locs : List Loc) (ls : Array Slot) (s0 : St) (v1 : Int32), Wh D cA ad (shC.take nC) A s s0 H locs → lv_has ls 2 [(0, .ref (ad 2)), (1, .int v1)] → F_Reader_read_26 n s0 v1 = (some (r, τ)) → W p l e rm_Reader_read s m args below meth c H locs 0 0 (MQ below (QcI D cA ad (shC.take nC) A r τ) args s 0 0 A) (F0 m 26 ls []) := by
  have hx := K.1.1; have hb := K.1.2.1
  intro n
  induction n with
  | zero =>
    intro H locs ls s0 v1 hw hl hF
    exact absurd hF (by rw [F_Reader_read_26]; exact nofun)
  | succ n ih =>
    intro H locs ls s0 v1 hw hl hF
    rw [F_Reader_read_26] at hF
    refine lv_iload_n hx hb d_Reader_read_26 rfl (lv_at hl 1 rfl) ?_
    refine lv_iconst (v := 2) hx hb d_Reader_read_27 (by decide) ?_
    refine lv_icmp_gt (tgt := 65) hx hb d_Reader_read_28 (by decide) (fun c_6 => ?_) (fun c_6 => ?_)
    · replace hF := ifT hF c_6
      refine lv_aload_n hx hb d_Reader_read_65 rfl (lv_at hl 0 rfl) ?_
      refine lv_iconst (v := 0) hx hb d_Reader_read_66 (by decide) ?_
      obtain ⟨s_7, h_s_7, hF⟩ := ob1E hF
      refine r_callVV (As := [.int (0 : Int32)]) (rest := []) K hw hl.1 (c_Reader_expect (l := l) (D := D) (cA := cA) (ad := ad) (s0 := s0) (Nat.le_trans (Nat.le_of_ble_eq_true rfl) hn)  h_s_7) (sh_Reader (Nat.le_trans (Nat.le_of_ble_eq_true rfl) hn)) rfl (tb_gV w_437 w_439 w_5 w_73 w_440) a_Reader_expect ⟨rfl, rfl, Nat.le_of_ble_eq_true rfl, Nat.le_of_ble_eq_true rfl⟩ rfl rfl (Nat.le_of_ble_eq_true rfl) d_Reader_read_67 (fun H locs hw => ?_)
      refine lv_aload_n hx hb d_Reader_read_70 rfl (lv_at hl 0 rfl) ?_
      refine r_get (v := .int (s_7.1 2 3)) K hw i_Reader (sh_Reader (Nat.le_trans (Nat.le_of_ble_eq_true rfl) hn)) rfl 3 (by decide) w_312 rfl rfl rfl d_Reader_read_71 ?_
      obtain ⟨hF, hG⟩ := sE2 hF
      subst hF
      subst hG
      exact r_iret K hw d_Reader_read_74
    · replace hF := ifF hF c_6
      refine lv_aload_n hx hb d_Reader_read_31 rfl (lv_at hl 0 rfl) ?_
      refine lv_bipush (v := 10) hx hb d_Reader_read_32 (by decide) ?_
      refine lv_iload_n hx hb d_Reader_read_34 rfl (lv_at hl 1 rfl) ?_
      refine lv_iadd hx hb d_Reader_read_35 ?_
      obtain ⟨s_8, h_s_8, hF⟩ := ob1E hF
      refine r_callVV (As := [.int ((10 : Int32) + v1)]) (rest := []) K hw hl.1 (c_Reader_expect (l := l) (D := D) (cA := cA) (ad := ad) (s0 := s0) (Nat.le_trans (Nat.le_of_ble_eq_true rfl) hn)  h_s_8) (sh_Reader (Nat.le_trans (Nat.le_of_ble_eq_true rfl) hn)) rfl (tb_gV w_437 w_439 w_5 w_73 w_440) a_Reader_expect ⟨rfl, rfl, Nat.le_of_ble_eq_true rfl, Nat.le_of_ble_eq_true rfl⟩ rfl rfl (Nat.le_of_ble_eq_true rfl) d_Reader_read_36 (fun H locs hw => ?_)
      refine lv_aload_n hx hb d_Reader_read_39 rfl (lv_at hl 0 rfl) ?_
      refine lv_iconst (v := 0) hx hb d_Reader_read_40 (by decide) ?_
      refine lv_iconst (v := 0) hx hb d_Reader_read_41 (by decide) ?_
      obtain ⟨s_9, h_s_9, hF⟩ := ob1E hF
      refine r_callVV (As := [.int (0 : Int32), .int (0 : Int32)]) (rest := []) K hw hl.1 (c_Reader_readLevel (l := l) (D := D) (cA := cA) (ad := ad) (s0 := s_8) (Nat.le_trans (Nat.le_of_ble_eq_true rfl) hn)  h_s_9) (sh_Reader (Nat.le_trans (Nat.le_of_ble_eq_true rfl) hn)) rfl (tb_gV w_457 w_459 w_8 w_73 w_460) a_Reader_readLevel ⟨rfl, rfl, Nat.le_of_ble_eq_true rfl, Nat.le_of_ble_eq_true rfl⟩ rfl rfl (Nat.le_of_ble_eq_true rfl) d_Reader_read_42 (fun H locs hw => ?_)
      refine lv_aload_n hx hb d_Reader_read_45 rfl (lv_at hl 0 rfl) ?_
      refine lv_bipush (v := 59) hx hb d_Reader_read_46 (by decide) ?_
      obtain ⟨s_10, h_s_10, hF⟩ := ob1E hF
      refine r_callVV (As := [.int (59 : Int32)]) (rest := []) K hw hl.1 (c_Reader_expect (l := l) (D := D) (cA := cA) (ad := ad) (s0 := s_9) (Nat.le_trans (Nat.le_of_ble_eq_true rfl) hn)  h_s_10) (sh_Reader (Nat.le_trans (Nat.le_of_ble_eq_true rfl) hn)) rfl (tb_gV w_437 w_439 w_5 w_73 w_440) a_Reader_expect ⟨rfl, rfl, Nat.le_of_ble_eq_true rfl, Nat.le_of_ble_eq_true rfl⟩ rfl rfl (Nat.le_of_ble_eq_true rfl) d_Reader_read_48 (fun H locs hw => ?_)
      refine lv_aload_n hx hb d_Reader_read_51 rfl (lv_at hl 0 rfl) ?_
      obtain ⟨g_11, hF⟩ := ifG hF
      refine r_get (v := .ref (ad (s_10.2 2 1))) K hw i_Reader (sh_Reader (Nat.le_trans (Nat.le_of_ble_eq_true rfl) hn)) rfl 1 (by decide) w_309 rfl rfl rfl d_Reader_read_52 ?_
      refine lv_iload_n hx hb d_Reader_read_55 rfl (lv_at hl 1 rfl) ?_
      obtain ⟨s_12, e_s_12, hF⟩ := ltE hF
      refine r_callVV (As := [.int v1]) (rest := []) K hw hl.1 (c_Text_endPart (l := l) (D := D) (cA := cA) (ad := ad) (s0 := s_10) (Nat.le_trans (Nat.le_of_ble_eq_true rfl) hn) g_11 e_s_12.symm) (sh_Text g_11 (Nat.le_trans (Nat.le_of_ble_eq_true rfl) hn)) rfl (tb_gV w_488 w_489 w_490 w_68 w_491) a_Text_endPart ⟨rfl, rfl, Nat.le_of_ble_eq_true rfl, Nat.le_of_ble_eq_true rfl⟩ rfl rfl (Nat.le_of_ble_eq_true rfl) d_Reader_read_56 (fun H locs hw => ?_)
      refine lv_iinc (v := (v1 + 1)) (lv' := [(1, .int (v1 + 1)), (0, .ref (ad 2))]) hx hb d_Reader_read_59 hl (k := 1) rfl rfl (by decide) rfl (fun ls hl => ?_)
      refine lv_goto (tgt := 26) hx hb d_Reader_read_62 (by decide) ?_
      exact ih _ _ _ _ _  hw (lv_sub hl [1, 0] rfl) hF
noncomputable def F_Reader_read_0 (s0 : St) : Option (Int32 × St) := (if P_Text (s0.2 2 1) then (lt (F_Text_empty s0 (s0.2 2 1)) (fun s_2 => (lt (up1 s_2 2 2 (0 : Int32)) (fun s_3 => (lt (up1 s_3 2 3 (-1 : Int32)) (fun s_4 => (ob1 (F_Tokens_readTape s_4 ) (fun s_5 => (F_Reader_read_26 FU s_5 (0 : Int32)))))))))) else none)
set_option maxHeartbeats 4000000 in
set_option maxRecDepth 100000 in
theorem q_Reader_read_0 (hn : 20 ≤ nC) (K : Fx p s m args meth c b_Reader_read 2 R_Reader (some .int))  : ∀ (H : Heap) (locs : List Loc) (ls : Array Slot) (s0 : St), Wh D cA ad (shC.take nC) A s s0 H locs → lv_has ls 2 [(0, .ref (ad 2))] → F_Reader_read_0 s0 = (some (r, τ)) → W p l e rm_Reader_read s m args below meth c H locs 0 0 (MQ below (QcI D cA ad (shC.take nC) A r τ) args s 0 0 A) (F0 m 0 ls []) := by
  have hx := K.1.1; have hb := K.1.2.1
  intro H locs ls s0 hw hl hF
  unfold F_Reader_read_0 at hF
  refine lv_aload_n hx hb d_Reader_read_0 rfl (lv_at hl 0 rfl) ?_
  obtain ⟨g_1, hF⟩ := ifG hF
  refine r_get (v := .ref (ad (s0.2 2 1))) K hw i_Reader (sh_Reader (Nat.le_trans (Nat.le_of_ble_eq_true rfl) hn)) rfl 1 (by decide) w_309 rfl rfl rfl d_Reader_read_1 ?_
  obtain ⟨s_2, e_s_2, hF⟩ := ltE hF
  refine r_callVV (As := []) (rest := []) K hw hl.1 (c_Text_empty (l := l) (D := D) (cA := cA) (ad := ad) (s0 := s0) (Nat.le_trans (Nat.le_of_ble_eq_true rfl) hn) g_1 e_s_2.symm) (sh_Text g_1 (Nat.le_trans (Nat.le_of_ble_eq_true rfl) hn)) rfl (tb_gV w_326 w_327 w_328 w_68 w_329) a_Text_empty ⟨rfl, rfl, Nat.le_of_ble_eq_true rfl, Nat.le_of_ble_eq_true rfl⟩ rfl rfl (Nat.le_of_ble_eq_true rfl) d_Reader_read_4 (fun H locs hw => ?_)
  refine lv_aload_n hx hb d_Reader_read_7 rfl (lv_at hl 0 rfl) ?_
  refine lv_iconst (v := 0) hx hb d_Reader_read_8 (by decide) ?_
  refine r_putI K hw i_Reader t_Reader t_Reader_ok n_Reader (sh_Reader (Nat.le_trans (Nat.le_of_ble_eq_true rfl) hn)) rfl 2 (by decide) w_311 rfl rfl rfl rfl rfl d_Reader_read_9 (fun s_3 f_s_3 H locs hw => ?_)
  replace hF := ltN hF f_s_3
  refine lv_aload_n hx hb d_Reader_read_12 rfl (lv_at hl 0 rfl) ?_
  refine lv_iconst (v := -1) hx hb d_Reader_read_13 (by decide) ?_
  refine r_putI K hw i_Reader t_Reader t_Reader_ok n_Reader (sh_Reader (Nat.le_trans (Nat.le_of_ble_eq_true rfl) hn)) rfl 3 (by decide) w_312 rfl rfl rfl rfl rfl d_Reader_read_14 (fun s_4 f_s_4 H locs hw => ?_)
  replace hF := ltN hF f_s_4
  refine lv_aload_n hx hb d_Reader_read_17 rfl (lv_at hl 0 rfl) ?_
  refine r_get (v := .ref (ad 3)) K hw i_Reader (sh_Reader (Nat.le_trans (Nat.le_of_ble_eq_true rfl) hn)) rfl 0 (by decide) w_308 rfl rfl rfl d_Reader_read_18 ?_
  obtain ⟨s_5, h_s_5, hF⟩ := ob1E hF
  refine r_callVV (As := []) (rest := []) K hw hl.1 (c_Tokens_readTape (l := l) (D := D) (cA := cA) (ad := ad) (s0 := s_4) (Nat.le_trans (Nat.le_of_ble_eq_true rfl) hn)  h_s_5) (sh_Tokens (Nat.le_trans (Nat.le_of_ble_eq_true rfl) hn)) rfl (tb_gV w_330 w_331 w_332 w_74 w_333) a_Tokens_readTape ⟨rfl, rfl, Nat.le_of_ble_eq_true rfl, Nat.le_of_ble_eq_true rfl⟩ rfl rfl (Nat.le_of_ble_eq_true rfl) d_Reader_read_21 (fun H locs hw => ?_)
  refine lv_iconst (v := 0) hx hb d_Reader_read_24 (by decide) ?_
  refine lv_istore_n (lv' := [(1, .int (0 : Int32)), (0, .ref (ad 2))]) hx hb d_Reader_read_25 rfl hl (by decide) rfl (fun ls hl => ?_)
  exact q_Reader_read_26 hn K FU _ _ _ _ _  hw (lv_sub hl [1, 0] rfl) hF
end S_Reader_read
noncomputable abbrev F_Reader_read := F_Reader_read_0
theorem c_Reader_read {l : Launch} {D : va_G} {cA : Nat → ClassId} {ad : Nat → Nat} {s0 τ : St} {nC : Nat} (hn : 20 ≤ nC) {r : Int32}   (hF : F_Reader_read s0 = (some (r, τ))) : MI l D cA ad (shC.take nC) y_Reader_read (wT y_Reader_read b_Reader_read 2 (some .int)) rm_Reader_read [.ref (ad 2)] s0 r τ := fun sz => m_start (Qc := fun A => QcI D cA ad (shC.take nC) A r τ) (by decide +kernel) w_325 (Nat.le_of_ble_eq_true rfl) (fun p e s m below meth c ls K hl hw => q_Reader_read_0 hn K _ _ _ _   hw hl hF)

/-! Tape.empty()V -/
abbrev b_Tape_empty : ByteArray := prog_9_method_3_code
def y_Tape_empty : MethodName := ⟨R_Tape, "empty", "()V"⟩
theorem a_Tape_empty : y_Tape_empty.cls = R_Tape ∧ y_Tape_empty.cls ≠ "java/lang/invoke/MethodHandle" ∧ y_Tape_empty.cls ≠ "java/lang/invoke/VarHandle" ∧ (parseMethodDescriptor y_Tape_empty.desc).map (fun d => d.parameters.length) = some 0 := by decide +kernel
abbrev rm_Tape_empty : Room := { frames := 0, cells := 0, slots := 0, locals := 0 }
theorem w_495 : Cond.code y_Tape_empty b_Tape_empty 1 none ∈ TB := tb_in 495 (by decide +kernel) (by decide +kernel)
theorem d_Tape_empty_0 : decode b_Tape_empty 0 = .ok (.aload_n 0, 1) := by decide +kernel
theorem d_Tape_empty_1 : decode b_Tape_empty 1 = .ok (.iconst 0, 1) := by decide +kernel
theorem d_Tape_empty_2 : decode b_Tape_empty 2 = .ok (.putfield 15, 3) := by decide +kernel
theorem d_Tape_empty_5 : decode b_Tape_empty 5 = .ok (.return_, 1) := by decide +kernel
section S_Tape_empty
variable {p : Program} {l : Launch} {e : Env} {s : State} {m : MethodId} {args : Array Value} {below : List Frame} {meth : Method} {c : Code} {D : va_G} {cA : Nat → ClassId} {ad : Nat → Nat} {nC : Nat} {A : Nat → Prop} {τ : St}
noncomputable def F_Tape_empty_0 (s0 : St) : St := (lt (up1 s0 0 1 (0 : Int32)) (fun s_1 => s_1))
set_option maxHeartbeats 4000000 in
set_option maxRecDepth 100000 in
theorem q_Tape_empty_0 (hn : 1 ≤ nC) (K : Fx p s m args meth c b_Tape_empty 1 R_Tape none)  : ∀ (H : Heap) (locs : List Loc) (ls : Array Slot) (s0 : St), Wh D cA ad (shC.take nC) A s s0 H locs → lv_has ls 1 [(0, .ref (ad 0))] → F_Tape_empty_0 s0 = τ → W p l e rm_Tape_empty s m args below meth c H locs 0 0 (MQ below (QcV D cA ad (shC.take nC) A τ) args s 0 0 A) (F0 m 0 ls []) := by
  have hx := K.1.1; have hb := K.1.2.1
  intro H locs ls s0 hw hl hF
  unfold F_Tape_empty_0 at hF
  refine lv_aload_n hx hb d_Tape_empty_0 rfl (lv_at hl 0 rfl) ?_
  refine lv_iconst (v := 0) hx hb d_Tape_empty_1 (by decide) ?_
  refine r_putI K hw i_Tape t_Tape t_Tape_ok n_Tape (sh_Tape (Nat.le_trans (Nat.le_of_ble_eq_true rfl) hn)) rfl 1 (by decide) w_102 rfl rfl rfl rfl rfl d_Tape_empty_2 (fun s_1 f_s_1 H locs hw => ?_)
  replace hF := ltN hF f_s_1
  subst hF
  exact r_vret K hw d_Tape_empty_5
end S_Tape_empty
noncomputable abbrev F_Tape_empty := F_Tape_empty_0
theorem c_Tape_empty {l : Launch} {D : va_G} {cA : Nat → ClassId} {ad : Nat → Nat} {s0 τ : St} {nC : Nat} (hn : 1 ≤ nC)   (hF : F_Tape_empty s0 = τ) : MV l D cA ad (shC.take nC) y_Tape_empty (wT y_Tape_empty b_Tape_empty 1 none) rm_Tape_empty [.ref (ad 0)] s0 τ := fun sz => m_start (Qc := fun A => QcV D cA ad (shC.take nC) A τ) (by decide +kernel) w_495 (Nat.le_of_ble_eq_true rfl) (fun p e s m below meth c ls K hl hw => q_Tape_empty_0 hn K _ _ _ _   hw hl hF)

/-! Main.text()I -/
abbrev b_Main_text : ByteArray := prog_1_method_4_code
def y_Main_text : MethodName := ⟨R_Main, "text", "()I"⟩
theorem a_Main_text : y_Main_text.cls = R_Main ∧ y_Main_text.cls ≠ "java/lang/invoke/MethodHandle" ∧ y_Main_text.cls ≠ "java/lang/invoke/VarHandle" ∧ (parseMethodDescriptor y_Main_text.desc).map (fun d => d.parameters.length) = some 0 := by decide +kernel
abbrev rm_Main_text : Room := { frames := 69, cells := 0, slots := 0, locals := 1709 }
theorem w_604 : Cond.fieldLink R_Main 67 R_Main "reade\x72" "LArmAgainstArm$Reader;" ∈ TB := tb_in 604 (by decide +kernel) (by decide +kernel)
theorem w_600 : Cond.fieldLink R_Main 17 R_Main "texts" "[LArmAgainstArm$Text;" ∈ TB := tb_in 600 (by decide +kernel) (by decide +kernel)
theorem w_310 : Cond.fieldLink R_Main 116 R_Reader "made" "LArmAgainstArm$Text;" ∈ TB := tb_in 310 (by decide +kernel) (by decide +kernel)
theorem w_322 : Cond.methodLink R_Main 71 y_Reader_read ∈ TB := tb_in 322 (by decide +kernel) (by decide +kernel)
theorem w_323 : Cond.instanceMethod y_Reader_read ∈ TB := tb_in 323 (by decide +kernel) (by decide +kernel)
theorem w_324 : Cond.selects R_Reader y_Reader_read y_Reader_read ∈ TB := tb_in 324 (by decide +kernel) (by decide +kernel)
theorem w_492 : Cond.methodLink R_Main 74 y_Tape_empty ∈ TB := tb_in 492 (by decide +kernel) (by decide +kernel)
theorem w_493 : Cond.instanceMethod y_Tape_empty ∈ TB := tb_in 493 (by decide +kernel) (by decide +kernel)
theorem w_494 : Cond.selects R_Tape y_Tape_empty y_Tape_empty ∈ TB := tb_in 494 (by decide +kernel) (by decide +kernel)
theorem w_647 : Cond.code y_Main_text b_Main_text 2 (some .int) ∈ TB := tb_in 647 (by decide +kernel) (by decide +kernel)
theorem d_Main_text_0 : decode b_Main_text 0 = .ok (.aload_n 0, 1) := by decide +kernel
theorem d_Main_text_1 : decode b_Main_text 1 = .ok (.getfield 77, 3) := by decide +kernel
theorem d_Main_text_4 : decode b_Main_text 4 = .ok (.bipush 6, 2) := by decide +kernel
theorem d_Main_text_6 : decode b_Main_text 6 = .ok (.if_icmp .lt 6, 3) := by decide +kernel
theorem d_Main_text_9 : decode b_Main_text 9 = .ok (.bipush (-4), 2) := by decide +kernel
theorem d_Main_text_11 : decode b_Main_text 11 = .ok (.ireturn, 1) := by decide +kernel
theorem d_Main_text_12 : decode b_Main_text 12 = .ok (.aload_n 0, 1) := by decide +kernel
theorem d_Main_text_13 : decode b_Main_text 13 = .ok (.getfield 67, 3) := by decide +kernel
theorem d_Main_text_16 : decode b_Main_text 16 = .ok (.aload_n 0, 1) := by decide +kernel
theorem d_Main_text_17 : decode b_Main_text 17 = .ok (.getfield 17, 3) := by decide +kernel
theorem d_Main_text_20 : decode b_Main_text 20 = .ok (.aload_n 0, 1) := by decide +kernel
theorem d_Main_text_21 : decode b_Main_text 21 = .ok (.getfield 77, 3) := by decide +kernel
theorem d_Main_text_24 : decode b_Main_text 24 = .ok (.aaload, 1) := by decide +kernel
theorem d_Main_text_25 : decode b_Main_text 25 = .ok (.putfield 116, 3) := by decide +kernel
theorem d_Main_text_28 : decode b_Main_text 28 = .ok (.aload_n 0, 1) := by decide +kernel
theorem d_Main_text_29 : decode b_Main_text 29 = .ok (.getfield 67, 3) := by decide +kernel
theorem d_Main_text_32 : decode b_Main_text 32 = .ok (.invokevirtual 71, 3) := by decide +kernel
theorem d_Main_text_35 : decode b_Main_text 35 = .ok (.istore_n 1, 1) := by decide +kernel
theorem d_Main_text_36 : decode b_Main_text 36 = .ok (.aload_n 0, 1) := by decide +kernel
theorem d_Main_text_37 : decode b_Main_text 37 = .ok (.getfield 24, 3) := by decide +kernel
theorem d_Main_text_40 : decode b_Main_text 40 = .ok (.invokevirtual 74, 3) := by decide +kernel
theorem d_Main_text_43 : decode b_Main_text 43 = .ok (.iload_n 1, 1) := by decide +kernel
theorem d_Main_text_44 : decode b_Main_text 44 = .ok (.iconst (-1), 1) := by decide +kernel
theorem d_Main_text_45 : decode b_Main_text 45 = .ok (.if_icmp .eq 8, 3) := by decide +kernel
theorem d_Main_text_48 : decode b_Main_text 48 = .ok (.bipush (-100), 2) := by decide +kernel
theorem d_Main_text_50 : decode b_Main_text 50 = .ok (.iload_n 1, 1) := by decide +kernel
theorem d_Main_text_51 : decode b_Main_text 51 = .ok (.isub, 1) := by decide +kernel
theorem d_Main_text_52 : decode b_Main_text 52 = .ok (.ireturn, 1) := by decide +kernel
theorem d_Main_text_53 : decode b_Main_text 53 = .ok (.aload_n 0, 1) := by decide +kernel
theorem d_Main_text_54 : decode b_Main_text 54 = .ok (.dup, 1) := by decide +kernel
theorem d_Main_text_55 : decode b_Main_text 55 = .ok (.getfield 77, 3) := by decide +kernel
theorem d_Main_text_58 : decode b_Main_text 58 = .ok (.iconst 1, 1) := by decide +kernel
theorem d_Main_text_59 : decode b_Main_text 59 = .ok (.iadd, 1) := by decide +kernel
theorem d_Main_text_60 : decode b_Main_text 60 = .ok (.putfield 77, 3) := by decide +kernel
theorem d_Main_text_63 : decode b_Main_text 63 = .ok (.aload_n 0, 1) := by decide +kernel
theorem d_Main_text_64 : decode b_Main_text 64 = .ok (.getfield 77, 3) := by decide +kernel
theorem d_Main_text_67 : decode b_Main_text 67 = .ok (.iconst 1, 1) := by decide +kernel
theorem d_Main_text_68 : decode b_Main_text 68 = .ok (.isub, 1) := by decide +kernel
theorem d_Main_text_69 : decode b_Main_text 69 = .ok (.ireturn, 1) := by decide +kernel
section S_Main_text
variable {p : Program} {l : Launch} {e : Env} {s : State} {m : MethodId} {args : Array Value} {below : List Frame} {meth : Method} {c : Code} {D : va_G} {cA : Nat → ClassId} {ad : Nat → Nat} {nC : Nat} {A : Nat → Prop} {r : Int32} {τ : St}
noncomputable def F_Main_text_0 (s0 : St) : Option (Int32 × St) := (if (s0.1 20 3) < (6 : Int32) then (if inB (s0.1 20 3) 6 = true then (lt (up2 s0 2 1 (8 + (s0.1 20 3).toNatClampNeg)) (fun s_3 => (ob2 (F_Reader_read s_3 ) (fun r_4 s_5 => (lt (F_Tape_empty s_5 ) (fun s_6 => (if r_4 = (-1 : Int32) then (lt (up1 s_6 20 3 ((s_6.1 20 3) + (1 : Int32))) (fun s_8 => (some (((s_8.1 20 3) - (1 : Int32)), s_8)))) else (some (((-100 : Int32) - r_4), s_6))))))))) else none) else (some ((-4 : Int32), s0)))
set_option maxHeartbeats 4000000 in
set_option maxRecDepth 100000 in
theorem q_Main_text_0 (hn : 23 ≤ nC) (K : Fx p s m args meth c b_Main_text 2 R_Main (some .int))  : ∀ (H : Heap) (locs : List Loc) (ls : Array Slot) (s0 : St), Wh D cA ad (shC.take nC) A s s0 H locs → lv_has ls 2 [(0, .ref (ad 20))] → F_Main_text_0 s0 = (some (r, τ)) → W p l e rm_Main_text s m args below meth c H locs 0 0 (MQ below (QcI D cA ad (shC.take nC) A r τ) args s 0 0 A) (F0 m 0 ls []) := by
  have hx := K.1.1; have hb := K.1.2.1
  intro H locs ls s0 hw hl hF
  unfold F_Main_text_0 at hF
  refine lv_aload_n hx hb d_Main_text_0 rfl (lv_at hl 0 rfl) ?_
  refine r_get (v := .int (s0.1 20 3)) K hw i_Main (sh_Main (Nat.le_trans (Nat.le_of_ble_eq_true rfl) hn)) rfl 3 (by decide) w_601 rfl rfl rfl d_Main_text_1 ?_
  refine lv_bipush (v := 6) hx hb d_Main_text_4 (by decide) ?_
  refine lv_icmp_lt (tgt := 12) hx hb d_Main_text_6 (by decide) (fun c_1 => ?_) (fun c_1 => ?_)
  · replace hF := ifT hF c_1
    refine lv_aload_n hx hb d_Main_text_12 rfl (lv_at hl 0 rfl) ?_
    refine r_get (v := .ref (ad 2)) K hw i_Main (sh_Main (Nat.le_trans (Nat.le_of_ble_eq_true rfl) hn)) rfl 6 (by decide) w_604 rfl rfl rfl d_Main_text_13 ?_
    refine lv_aload_n hx hb d_Main_text_16 rfl (lv_at hl 0 rfl) ?_
    refine r_get (v := .ref (ad 22)) K hw i_Main (sh_Main (Nat.le_trans (Nat.le_of_ble_eq_true rfl) hn)) rfl 2 (by decide) w_600 rfl rfl rfl d_Main_text_17 ?_
    refine lv_aload_n hx hb d_Main_text_20 rfl (lv_at hl 0 rfl) ?_
    refine r_get (v := .int (s0.1 20 3)) K hw i_Main (sh_Main (Nat.le_trans (Nat.le_of_ble_eq_true rfl) hn)) rfl 3 (by decide) w_601 rfl rfl rfl d_Main_text_21 ?_
    obtain ⟨g_2, hF⟩ := ifG hF
    refine r_aald (k := (s0.1 20 3).toNatClampNeg) K hw (sh_a22 (Nat.le_trans (Nat.le_of_ble_eq_true rfl) hn)) (rfl : (TYS cA)[2]? = some (cA 2, _)) rfl (inB_vp g_2) d_Main_text_24 ?_
    refine r_putR K hw i_Reader t_Reader t_Reader_ok n_Reader (sh_Reader (Nat.le_trans (Nat.le_of_ble_eq_true rfl) hn)) rfl 1 (by decide) w_310 rfl rfl rfl rfl rfl d_Main_text_25 (fun s_3 f_s_3 H locs hw => ?_)
    replace hF := ltN hF f_s_3
    refine lv_aload_n hx hb d_Main_text_28 rfl (lv_at hl 0 rfl) ?_
    refine r_get (v := .ref (ad 2)) K hw i_Main (sh_Main (Nat.le_trans (Nat.le_of_ble_eq_true rfl) hn)) rfl 6 (by decide) w_604 rfl rfl rfl d_Main_text_29 ?_
    obtain ⟨r_4, s_5, h_s_5, hF⟩ := ob2E hF
    refine r_callVI (As := []) (rest := []) K hw hl.1 (c_Reader_read (l := l) (D := D) (cA := cA) (ad := ad) (s0 := s_3) (Nat.le_trans (Nat.le_of_ble_eq_true rfl) hn)  h_s_5) (sh_Reader (Nat.le_trans (Nat.le_of_ble_eq_true rfl) hn)) rfl (tb_gV w_322 w_323 w_324 w_73 w_325) a_Reader_read ⟨rfl, rfl, Nat.le_of_ble_eq_true rfl, Nat.le_of_ble_eq_true rfl⟩ rfl rfl (Nat.le_of_ble_eq_true rfl) d_Main_text_32 (fun H locs hw => ?_)
    refine lv_istore_n (lv' := [(1, .int r_4), (0, .ref (ad 20))]) hx hb d_Main_text_35 rfl hl (by decide) rfl (fun ls hl => ?_)
    refine lv_aload_n hx hb d_Main_text_36 rfl (lv_at hl 1 rfl) ?_
    refine r_get (v := .ref (ad 0)) K hw i_Main (sh_Main (Nat.le_trans (Nat.le_of_ble_eq_true rfl) hn)) rfl 5 (by decide) w_603 rfl rfl rfl d_Main_text_37 ?_
    obtain ⟨s_6, e_s_6, hF⟩ := ltE hF
    refine r_callVV (As := []) (rest := []) K hw hl.1 (c_Tape_empty (l := l) (D := D) (cA := cA) (ad := ad) (s0 := s_5) (Nat.le_trans (Nat.le_of_ble_eq_true rfl) hn)  e_s_6.symm) (sh_Tape (Nat.le_trans (Nat.le_of_ble_eq_true rfl) hn)) rfl (tb_gV w_492 w_493 w_494 w_64 w_495) a_Tape_empty ⟨rfl, rfl, Nat.le_of_ble_eq_true rfl, Nat.le_of_ble_eq_true rfl⟩ rfl rfl (Nat.le_of_ble_eq_true rfl) d_Main_text_40 (fun H locs hw => ?_)
    refine lv_iload_n hx hb d_Main_text_43 rfl (lv_at hl 0 rfl) ?_
    refine lv_iconst (v := -1) hx hb d_Main_text_44 (by decide) ?_
    refine lv_icmp_eq (tgt := 53) hx hb d_Main_text_45 (by decide) (fun c_7 => ?_) (fun c_7 => ?_)
    · replace hF := ifT hF c_7
      refine lv_aload_n hx hb d_Main_text_53 rfl (lv_at hl 1 rfl) ?_
      refine lv_dup hx hb d_Main_text_54 rfl ?_
      refine r_get (v := .int (s_6.1 20 3)) K hw i_Main (sh_Main (Nat.le_trans (Nat.le_of_ble_eq_true rfl) hn)) rfl 3 (by decide) w_601 rfl rfl rfl d_Main_text_55 ?_
      refine lv_iconst (v := 1) hx hb d_Main_text_58 (by decide) ?_
      refine lv_iadd hx hb d_Main_text_59 ?_
      refine r_putI K hw i_Main t_Main t_Main_ok n_Main (sh_Main (Nat.le_trans (Nat.le_of_ble_eq_true rfl) hn)) rfl 3 (by decide) w_601 rfl rfl rfl rfl rfl d_Main_text_60 (fun s_8 f_s_8 H locs hw => ?_)
      replace hF := ltN hF f_s_8
      refine lv_aload_n hx hb d_Main_text_63 rfl (lv_at hl 1 rfl) ?_
      refine r_get (v := .int (s_8.1 20 3)) K hw i_Main (sh_Main (Nat.le_trans (Nat.le_of_ble_eq_true rfl) hn)) rfl 3 (by decide) w_601 rfl rfl rfl d_Main_text_64 ?_
      refine lv_iconst (v := 1) hx hb d_Main_text_67 (by decide) ?_
      refine lv_isub hx hb d_Main_text_68 ?_
      obtain ⟨hF, hG⟩ := sE2 hF
      subst hF
      subst hG
      exact r_iret K hw d_Main_text_69
    · replace hF := ifF hF c_7
      refine lv_bipush (v := -100) hx hb d_Main_text_48 (by decide) ?_
      refine lv_iload_n hx hb d_Main_text_50 rfl (lv_at hl 0 rfl) ?_
      refine lv_isub hx hb d_Main_text_51 ?_
      obtain ⟨hF, hG⟩ := sE2 hF
      subst hF
      subst hG
      exact r_iret K hw d_Main_text_52
  · replace hF := ifF hF c_1
    refine lv_bipush (v := -4) hx hb d_Main_text_9 (by decide) ?_
    obtain ⟨hF, hG⟩ := sE2 hF
    subst hF
    subst hG
    exact r_iret K hw d_Main_text_11
end S_Main_text
noncomputable abbrev F_Main_text := F_Main_text_0
theorem c_Main_text {l : Launch} {D : va_G} {cA : Nat → ClassId} {ad : Nat → Nat} {s0 τ : St} {nC : Nat} (hn : 23 ≤ nC) {r : Int32}   (hF : F_Main_text s0 = (some (r, τ))) : MI l D cA ad (shC.take nC) y_Main_text (wT y_Main_text b_Main_text 2 (some .int)) rm_Main_text [.ref (ad 20)] s0 r τ := fun sz => m_start (Qc := fun A => QcI D cA ad (shC.take nC) A r τ) (by decide +kernel) w_647 (Nat.le_of_ble_eq_true rfl) (fun p e s m below meth c ls K hl hw => q_Main_text_0 hn K _ _ _ _   hw hl hF)

/-! Main.force(I)I -/
abbrev b_Main_force : ByteArray := prog_1_method_5_code
def y_Main_force : MethodName := ⟨R_Main, "force", "(I)I"⟩
theorem a_Main_force : y_Main_force.cls = R_Main ∧ y_Main_force.cls ≠ "java/lang/invoke/MethodHandle" ∧ y_Main_force.cls ≠ "java/lang/invoke/VarHandle" ∧ (parseMethodDescriptor y_Main_force.desc).map (fun d => d.parameters.length) = some 1 := by decide +kernel
abbrev rm_Main_force : Room := { frames := 1, cells := 0, slots := 0, locals := 22 }
theorem w_651 : Cond.code y_Main_force b_Main_force 3 (some .int) ∈ TB := tb_in 651 (by decide +kernel) (by decide +kernel)
theorem d_Main_force_0 : decode b_Main_force 0 = .ok (.iload_n 1, 1) := by decide +kernel
theorem d_Main_force_1 : decode b_Main_force 1 = .ok (.iconst 0, 1) := by decide +kernel
theorem d_Main_force_2 : decode b_Main_force 2 = .ok (.aload_n 0, 1) := by decide +kernel
theorem d_Main_force_3 : decode b_Main_force 3 = .ok (.getfield 77, 3) := by decide +kernel
theorem d_Main_force_6 : decode b_Main_force 6 = .ok (.iconst 1, 1) := by decide +kernel
theorem d_Main_force_7 : decode b_Main_force 7 = .ok (.isub, 1) := by decide +kernel
theorem d_Main_force_8 : decode b_Main_force 8 = .ok (.invokestatic 108, 3) := by decide +kernel
theorem d_Main_force_11 : decode b_Main_force 11 = .ok (.ifCond .ne 6, 3) := by decide +kernel
theorem d_Main_force_14 : decode b_Main_force 14 = .ok (.bipush (-2), 2) := by decide +kernel
theorem d_Main_force_16 : decode b_Main_force 16 = .ok (.ireturn, 1) := by decide +kernel
theorem d_Main_force_17 : decode b_Main_force 17 = .ok (.aload_n 0, 1) := by decide +kernel
theorem d_Main_force_18 : decode b_Main_force 18 = .ok (.getfield 102, 3) := by decide +kernel
theorem d_Main_force_21 : decode b_Main_force 21 = .ok (.istore_n 2, 1) := by decide +kernel
theorem d_Main_force_22 : decode b_Main_force 22 = .ok (.aload_n 0, 1) := by decide +kernel
theorem d_Main_force_23 : decode b_Main_force 23 = .ok (.iload_n 1, 1) := by decide +kernel
theorem d_Main_force_24 : decode b_Main_force 24 = .ok (.putfield 102, 3) := by decide +kernel
theorem d_Main_force_27 : decode b_Main_force 27 = .ok (.iload_n 2, 1) := by decide +kernel
theorem d_Main_force_28 : decode b_Main_force 28 = .ok (.ireturn, 1) := by decide +kernel
section S_Main_force
variable {p : Program} {l : Launch} {e : Env} {s : State} {m : MethodId} {args : Array Value} {below : List Frame} {meth : Method} {c : Code} {D : va_G} {cA : Nat → ClassId} {ad : Nat → Nat} {nC : Nat} {A : Nat → Prop} {r : Int32} {τ : St}
noncomputable def F_Main_force_0 (s0 : St) (v1 : Int32) : Option (Int32 × St) := (if ¬ (F_Main_isWithin v1 (0 : Int32) ((s0.1 20 3) - (1 : Int32))) = 0 then (lt (up1 s0 20 4 v1) (fun s_2 => (some ((s0.1 20 4), s_2)))) else (some ((-2 : Int32), s0)))
set_option maxHeartbeats 4000000 in
set_option maxRecDepth 100000 in
theorem q_Main_force_0 (hn : 21 ≤ nC) (K : Fx p s m args meth c b_Main_force 3 R_Main (some .int))  : ∀ (H : Heap) (locs : List Loc) (ls : Array Slot) (s0 : St) (v1 : Int32), Wh D cA ad (shC.take nC) A s s0 H locs → lv_has ls 3 [(0, .ref (ad 20)), (1, .int v1)] → F_Main_force_0 s0 v1 = (some (r, τ)) → W p l e rm_Main_force s m args below meth c H locs 0 0 (MQ below (QcI D cA ad (shC.take nC) A r τ) args s 0 0 A) (F0 m 0 ls []) := by
  have hx := K.1.1; have hb := K.1.2.1
  intro H locs ls s0 v1 hw hl hF
  unfold F_Main_force_0 at hF
  refine lv_iload_n hx hb d_Main_force_0 rfl (lv_at hl 1 rfl) ?_
  refine lv_iconst (v := 0) hx hb d_Main_force_1 (by decide) ?_
  refine lv_aload_n hx hb d_Main_force_2 rfl (lv_at hl 0 rfl) ?_
  refine r_get (v := .int (s0.1 20 3)) K hw i_Main (sh_Main (Nat.le_trans (Nat.le_of_ble_eq_true rfl) hn)) rfl 3 (by decide) w_601 rfl rfl rfl d_Main_force_3 ?_
  refine lv_iconst (v := 1) hx hb d_Main_force_6 (by decide) ?_
  refine lv_isub hx hb d_Main_force_7 ?_
  refine r_callSI (As := [.int v1, .int (0 : Int32), .int ((s0.1 20 3) - (1 : Int32))]) (rest := []) K hw hl.1 (c_Main_isWithin (l := l) (D := D) (cA := cA) (ad := ad) (s0 := s0) (Nat.le_trans (Nat.le_of_ble_eq_true rfl) hn)  rfl) (tb_gS w_640 w_347 w_63 w_348) a_Main_isWithin ⟨rfl, rfl, Nat.le_of_ble_eq_true rfl, Nat.le_of_ble_eq_true rfl⟩ rfl rfl (Nat.le_of_ble_eq_true rfl) d_Main_force_8 (fun H locs hw => ?_)
  refine lv_if_ne (tgt := 17) hx hb d_Main_force_11 (by decide) (fun c_1 => ?_) (fun c_1 => ?_)
  · replace hF := ifT hF c_1
    refine lv_aload_n hx hb d_Main_force_17 rfl (lv_at hl 0 rfl) ?_
    refine r_get (v := .int (s0.1 20 4)) K hw i_Main (sh_Main (Nat.le_trans (Nat.le_of_ble_eq_true rfl) hn)) rfl 4 (by decide) w_602 rfl rfl rfl d_Main_force_18 ?_
    refine lv_istore_n (lv' := [(2, .int (s0.1 20 4)), (0, .ref (ad 20)), (1, .int v1)]) hx hb d_Main_force_21 rfl hl (by decide) rfl (fun ls hl => ?_)
    refine lv_aload_n hx hb d_Main_force_22 rfl (lv_at hl 1 rfl) ?_
    refine lv_iload_n hx hb d_Main_force_23 rfl (lv_at hl 2 rfl) ?_
    refine r_putI K hw i_Main t_Main t_Main_ok n_Main (sh_Main (Nat.le_trans (Nat.le_of_ble_eq_true rfl) hn)) rfl 4 (by decide) w_602 rfl rfl rfl rfl rfl d_Main_force_24 (fun s_2 f_s_2 H locs hw => ?_)
    replace hF := ltN hF f_s_2
    refine lv_iload_n hx hb d_Main_force_27 rfl (lv_at hl 0 rfl) ?_
    obtain ⟨hF, hG⟩ := sE2 hF
    subst hF
    subst hG
    exact r_iret K hw d_Main_force_28
  · replace hF := ifN hF c_1
    refine lv_bipush (v := -2) hx hb d_Main_force_14 (by decide) ?_
    obtain ⟨hF, hG⟩ := sE2 hF
    subst hF
    subst hG
    exact r_iret K hw d_Main_force_16
end S_Main_force
noncomputable abbrev F_Main_force := F_Main_force_0
theorem c_Main_force {l : Launch} {D : va_G} {cA : Nat → ClassId} {ad : Nat → Nat} {s0 τ : St} {nC : Nat} (hn : 21 ≤ nC) {r : Int32} {v1 : Int32}  (hF : F_Main_force s0 v1 = (some (r, τ))) : MI l D cA ad (shC.take nC) y_Main_force (wT y_Main_force b_Main_force 3 (some .int)) rm_Main_force [.ref (ad 20), .int v1] s0 r τ := fun sz => m_start (Qc := fun A => QcI D cA ad (shC.take nC) A r τ) (by decide +kernel) w_651 (Nat.le_of_ble_eq_true rfl) (fun p e s m below meth c ls K hl hw => q_Main_force_0 hn K _ _ _ _ _  hw hl hF)

/-! Main.isArm(I)Z -/
abbrev b_Main_isArm : ByteArray := prog_1_method_41_code
def y_Main_isArm : MethodName := ⟨R_Main, "isArm", "(I)Z"⟩
theorem a_Main_isArm : y_Main_isArm.cls = R_Main ∧ y_Main_isArm.cls ≠ "java/lang/invoke/MethodHandle" ∧ y_Main_isArm.cls ≠ "java/lang/invoke/VarHandle" ∧ (parseMethodDescriptor y_Main_isArm.desc).map (fun d => d.parameters.length) = some 1 := by decide +kernel
abbrev rm_Main_isArm : Room := { frames := 1, cells := 0, slots := 0, locals := 22 }
theorem w_659 : Cond.code y_Main_isArm b_Main_isArm 2 (some .boolean) ∈ TB := tb_in 659 (by decide +kernel) (by decide +kernel)
theorem d_Main_isArm_0 : decode b_Main_isArm 0 = .ok (.iload_n 1, 1) := by decide +kernel
theorem d_Main_isArm_1 : decode b_Main_isArm 1 = .ok (.iconst 0, 1) := by decide +kernel
theorem d_Main_isArm_2 : decode b_Main_isArm 2 = .ok (.aload_n 0, 1) := by decide +kernel
theorem d_Main_isArm_3 : decode b_Main_isArm 3 = .ok (.getfield 99, 3) := by decide +kernel
theorem d_Main_isArm_6 : decode b_Main_isArm 6 = .ok (.iconst 1, 1) := by decide +kernel
theorem d_Main_isArm_7 : decode b_Main_isArm 7 = .ok (.isub, 1) := by decide +kernel
theorem d_Main_isArm_8 : decode b_Main_isArm 8 = .ok (.invokestatic 108, 3) := by decide +kernel
theorem d_Main_isArm_11 : decode b_Main_isArm 11 = .ok (.ireturn, 1) := by decide +kernel
section S_Main_isArm
variable {p : Program} {l : Launch} {e : Env} {s : State} {m : MethodId} {args : Array Value} {below : List Frame} {meth : Method} {c : Code} {D : va_G} {cA : Nat → ClassId} {ad : Nat → Nat} {nC : Nat} {A : Nat → Prop} {r : Int32} {τ : St}
noncomputable def F_Main_isArm_0 (s0 : St) (v1 : Int32) : Option Int32 := (if ((F_Main_isWithin v1 (0 : Int32) ((s0.1 20 1) - (1 : Int32))) = 0 ∨ (F_Main_isWithin v1 (0 : Int32) ((s0.1 20 1) - (1 : Int32))) = 1) then (some (F_Main_isWithin v1 (0 : Int32) ((s0.1 20 1) - (1 : Int32)))) else none)
set_option maxHeartbeats 4000000 in
set_option maxRecDepth 100000 in
theorem q_Main_isArm_0 (hn : 21 ≤ nC) (s0 : St) (K : Fx p s m args meth c b_Main_isArm 2 R_Main (some .boolean))  : ∀ (H : Heap) (locs : List Loc) (ls : Array Slot) (v1 : Int32), Wh D cA ad (shC.take nC) A s s0 H locs → lv_has ls 2 [(0, .ref (ad 20)), (1, .int v1)] → F_Main_isArm_0 s0 v1 = (some r) → W p l e rm_Main_isArm s m args below meth c H locs 0 0 (MQ below (QcI D cA ad (shC.take nC) A r s0) args s 0 0 A) (F0 m 0 ls []) := by
  have hx := K.1.1; have hb := K.1.2.1
  intro H locs ls v1 hw hl hF
  unfold F_Main_isArm_0 at hF
  refine lv_iload_n hx hb d_Main_isArm_0 rfl (lv_at hl 1 rfl) ?_
  refine lv_iconst (v := 0) hx hb d_Main_isArm_1 (by decide) ?_
  refine lv_aload_n hx hb d_Main_isArm_2 rfl (lv_at hl 0 rfl) ?_
  refine r_get (v := .int (s0.1 20 1)) K hw i_Main (sh_Main (Nat.le_trans (Nat.le_of_ble_eq_true rfl) hn)) rfl 1 (by decide) w_599 rfl rfl rfl d_Main_isArm_3 ?_
  refine lv_iconst (v := 1) hx hb d_Main_isArm_6 (by decide) ?_
  refine lv_isub hx hb d_Main_isArm_7 ?_
  refine r_callSI (As := [.int v1, .int (0 : Int32), .int ((s0.1 20 1) - (1 : Int32))]) (rest := []) K hw hl.1 (c_Main_isWithin (l := l) (D := D) (cA := cA) (ad := ad) (s0 := s0) (Nat.le_trans (Nat.le_of_ble_eq_true rfl) hn)  rfl) (tb_gS w_640 w_347 w_63 w_348) a_Main_isWithin ⟨rfl, rfl, Nat.le_of_ble_eq_true rfl, Nat.le_of_ble_eq_true rfl⟩ rfl rfl (Nat.le_of_ble_eq_true rfl) d_Main_isArm_8 (fun H locs hw => ?_)
  obtain ⟨g_1, hF⟩ := ifG hF
  replace hF := sE1 hF
  subst hF
  exact r_zret K hw (zN g_1) d_Main_isArm_11
end S_Main_isArm
noncomputable abbrev F_Main_isArm := F_Main_isArm_0
theorem c_Main_isArm {l : Launch} {D : va_G} {cA : Nat → ClassId} {ad : Nat → Nat} {s0 : St} {nC : Nat} (hn : 21 ≤ nC) {r : Int32} {v1 : Int32}  (hF : F_Main_isArm s0 v1 = (some r)) : MI l D cA ad (shC.take nC) y_Main_isArm (wT y_Main_isArm b_Main_isArm 2 (some .boolean)) rm_Main_isArm [.ref (ad 20), .int v1] s0 r s0 := fun sz => m_start (Qc := fun A => QcI D cA ad (shC.take nC) A r s0) (by decide +kernel) w_659 (Nat.le_of_ble_eq_true rfl) (fun p e s m below meth c ls K hl hw => q_Main_isArm_0 hn s0 K _ _ _ _  hw hl hF)

/-! Side.begin(LArm;)V -/
abbrev b_Side_begin : ByteArray := prog_8_method_2_code
def y_Side_begin : MethodName := ⟨R_Side, "begin", "(LArmAgainstArm$Arm;)V"⟩
theorem a_Side_begin : y_Side_begin.cls = R_Side ∧ y_Side_begin.cls ≠ "java/lang/invoke/MethodHandle" ∧ y_Side_begin.cls ≠ "java/lang/invoke/VarHandle" ∧ (parseMethodDescriptor y_Side_begin.desc).map (fun d => d.parameters.length) = some 1 := by decide +kernel
abbrev rm_Side_begin : Room := { frames := 0, cells := 0, slots := 0, locals := 0 }
theorem w_518 : Cond.fieldLink R_Side 17 R_Side "arm" "LArmAgainstArm$Arm;" ∈ TB := tb_in 518 (by decide +kernel) (by decide +kernel)
theorem w_153 : Cond.fieldLink R_Side 21 R_Arm "hold" "I" ∈ TB := tb_in 153 (by decide +kernel) (by decide +kernel)
theorem w_511 : Cond.fieldLink R_Side 27 R_Side "hold" "I" ∈ TB := tb_in 511 (by decide +kernel) (by decide +kernel)
theorem w_156 : Cond.fieldLink R_Side 28 R_Arm "plan" "I" ∈ TB := tb_in 156 (by decide +kernel) (by decide +kernel)
theorem w_515 : Cond.fieldLink R_Side 31 R_Side "plan" "I" ∈ TB := tb_in 515 (by decide +kernel) (by decide +kernel)
theorem w_150 : Cond.fieldLink R_Side 32 R_Arm "late" "I" ∈ TB := tb_in 150 (by decide +kernel) (by decide +kernel)
theorem w_516 : Cond.fieldLink R_Side 35 R_Side "late" "I" ∈ TB := tb_in 516 (by decide +kernel) (by decide +kernel)
theorem w_508 : Cond.fieldLink R_Side 11 R_Side "names" "[I" ∈ TB := tb_in 508 (by decide +kernel) (by decide +kernel)
theorem w_145 : Cond.fieldLink R_Side 36 R_Arm "told" "I" ∈ TB := tb_in 145 (by decide +kernel) (by decide +kernel)
theorem w_148 : Cond.fieldLink R_Side 39 R_Arm "more" "I" ∈ TB := tb_in 148 (by decide +kernel) (by decide +kernel)
theorem w_663 : Cond.code y_Side_begin b_Side_begin 2 none ∈ TB := tb_in 663 (by decide +kernel) (by decide +kernel)
theorem d_Side_begin_0 : decode b_Side_begin 0 = .ok (.aload_n 0, 1) := by decide +kernel
theorem d_Side_begin_1 : decode b_Side_begin 1 = .ok (.aload_n 1, 1) := by decide +kernel
theorem d_Side_begin_2 : decode b_Side_begin 2 = .ok (.putfield 17, 3) := by decide +kernel
theorem d_Side_begin_5 : decode b_Side_begin 5 = .ok (.aload_n 0, 1) := by decide +kernel
theorem d_Side_begin_6 : decode b_Side_begin 6 = .ok (.aload_n 1, 1) := by decide +kernel
theorem d_Side_begin_7 : decode b_Side_begin 7 = .ok (.getfield 21, 3) := by decide +kernel
theorem d_Side_begin_10 : decode b_Side_begin 10 = .ok (.putfield 27, 3) := by decide +kernel
theorem d_Side_begin_13 : decode b_Side_begin 13 = .ok (.aload_n 0, 1) := by decide +kernel
theorem d_Side_begin_14 : decode b_Side_begin 14 = .ok (.aload_n 1, 1) := by decide +kernel
theorem d_Side_begin_15 : decode b_Side_begin 15 = .ok (.getfield 28, 3) := by decide +kernel
theorem d_Side_begin_18 : decode b_Side_begin 18 = .ok (.putfield 31, 3) := by decide +kernel
theorem d_Side_begin_21 : decode b_Side_begin 21 = .ok (.aload_n 0, 1) := by decide +kernel
theorem d_Side_begin_22 : decode b_Side_begin 22 = .ok (.aload_n 1, 1) := by decide +kernel
theorem d_Side_begin_23 : decode b_Side_begin 23 = .ok (.getfield 32, 3) := by decide +kernel
theorem d_Side_begin_26 : decode b_Side_begin 26 = .ok (.putfield 35, 3) := by decide +kernel
theorem d_Side_begin_29 : decode b_Side_begin 29 = .ok (.aload_n 0, 1) := by decide +kernel
theorem d_Side_begin_30 : decode b_Side_begin 30 = .ok (.getfield 11, 3) := by decide +kernel
theorem d_Side_begin_33 : decode b_Side_begin 33 = .ok (.iconst 0, 1) := by decide +kernel
theorem d_Side_begin_34 : decode b_Side_begin 34 = .ok (.aload_n 1, 1) := by decide +kernel
theorem d_Side_begin_35 : decode b_Side_begin 35 = .ok (.getfield 36, 3) := by decide +kernel
theorem d_Side_begin_38 : decode b_Side_begin 38 = .ok (.iastore, 1) := by decide +kernel
theorem d_Side_begin_39 : decode b_Side_begin 39 = .ok (.aload_n 0, 1) := by decide +kernel
theorem d_Side_begin_40 : decode b_Side_begin 40 = .ok (.getfield 11, 3) := by decide +kernel
theorem d_Side_begin_43 : decode b_Side_begin 43 = .ok (.iconst 1, 1) := by decide +kernel
theorem d_Side_begin_44 : decode b_Side_begin 44 = .ok (.aload_n 1, 1) := by decide +kernel
theorem d_Side_begin_45 : decode b_Side_begin 45 = .ok (.getfield 39, 3) := by decide +kernel
theorem d_Side_begin_48 : decode b_Side_begin 48 = .ok (.iastore, 1) := by decide +kernel
theorem d_Side_begin_49 : decode b_Side_begin 49 = .ok (.return_, 1) := by decide +kernel
section S_Side_begin
variable {p : Program} {l : Launch} {e : Env} {s : State} {m : MethodId} {args : Array Value} {below : List Frame} {meth : Method} {c : Code} {D : va_G} {cA : Nat → ClassId} {ad : Nat → Nat} {nC : Nat} {A : Nat → Prop} {τ : St}
noncomputable def F_Side_begin_0 (s0 : St) (v0 : Nat) (v1 : Nat) : St := (lt (up2 s0 v0 4 v1) (fun s_1 => (lt (up1 s_1 v0 1 (s_1.1 v1 4)) (fun s_2 => (lt (up1 s_2 v0 2 (s_2.1 v1 5)) (fun s_3 => (lt (up1 s_3 v0 3 (s_3.1 v1 3)) (fun s_4 => (lt (up1 s_4 (v0 + 1) 0 (s_4.1 v1 1)) (fun s_5 => (lt (up1 s_5 (v0 + 1) 1 (s_5.1 v1 2)) (fun s_6 => s_6))))))))))))
set_option maxHeartbeats 4000000 in
set_option maxRecDepth 100000 in
theorem q_Side_begin_0 (hn : 46 ≤ nC) (K : Fx p s m args meth c b_Side_begin 2 R_Side none)  : ∀ (H : Heap) (locs : List Loc) (ls : Array Slot) (s0 : St) (v0 : Nat) (v1 : Nat) (g_v0 : P_Side v0) (g_v1 : P_Arm v1), Wh D cA ad (shC.take nC) A s s0 H locs → lv_has ls 2 [(0, .ref (ad v0)), (1, .ref (ad v1))] → F_Side_begin_0 s0 v0 v1 = τ → W p l e rm_Side_begin s m args below meth c H locs 0 0 (MQ below (QcV D cA ad (shC.take nC) A τ) args s 0 0 A) (F0 m 0 ls []) := by
  have hx := K.1.1; have hb := K.1.2.1
  intro H locs ls s0 v0 v1 g_v0 g_v1 hw hl hF
  unfold F_Side_begin_0 at hF
  refine lv_aload_n hx hb d_Side_begin_0 rfl (lv_at hl 0 rfl) ?_
  refine lv_aload_n hx hb d_Side_begin_1 rfl (lv_at hl 1 rfl) ?_
  refine r_putR K hw i_Side t_Side t_Side_ok n_Side (sh_Side g_v0 (Nat.le_trans (Nat.le_of_ble_eq_true rfl) hn)) rfl 4 (by decide) w_518 rfl rfl rfl rfl rfl d_Side_begin_2 (fun s_1 f_s_1 H locs hw => ?_)
  replace hF := ltN hF f_s_1
  refine lv_aload_n hx hb d_Side_begin_5 rfl (lv_at hl 0 rfl) ?_
  refine lv_aload_n hx hb d_Side_begin_6 rfl (lv_at hl 1 rfl) ?_
  refine r_get (v := .int (s_1.1 v1 4)) K hw i_Arm (sh_Arm g_v1 (Nat.le_trans (Nat.le_of_ble_eq_true rfl) hn)) rfl 4 (by decide) w_153 rfl rfl rfl d_Side_begin_7 ?_
  refine r_putI K hw i_Side t_Side t_Side_ok n_Side (sh_Side g_v0 (Nat.le_trans (Nat.le_of_ble_eq_true rfl) hn)) rfl 1 (by decide) w_511 rfl rfl rfl rfl rfl d_Side_begin_10 (fun s_2 f_s_2 H locs hw => ?_)
  replace hF := ltN hF f_s_2
  refine lv_aload_n hx hb d_Side_begin_13 rfl (lv_at hl 0 rfl) ?_
  refine lv_aload_n hx hb d_Side_begin_14 rfl (lv_at hl 1 rfl) ?_
  refine r_get (v := .int (s_2.1 v1 5)) K hw i_Arm (sh_Arm g_v1 (Nat.le_trans (Nat.le_of_ble_eq_true rfl) hn)) rfl 5 (by decide) w_156 rfl rfl rfl d_Side_begin_15 ?_
  refine r_putI K hw i_Side t_Side t_Side_ok n_Side (sh_Side g_v0 (Nat.le_trans (Nat.le_of_ble_eq_true rfl) hn)) rfl 2 (by decide) w_515 rfl rfl rfl rfl rfl d_Side_begin_18 (fun s_3 f_s_3 H locs hw => ?_)
  replace hF := ltN hF f_s_3
  refine lv_aload_n hx hb d_Side_begin_21 rfl (lv_at hl 0 rfl) ?_
  refine lv_aload_n hx hb d_Side_begin_22 rfl (lv_at hl 1 rfl) ?_
  refine r_get (v := .int (s_3.1 v1 3)) K hw i_Arm (sh_Arm g_v1 (Nat.le_trans (Nat.le_of_ble_eq_true rfl) hn)) rfl 3 (by decide) w_150 rfl rfl rfl d_Side_begin_23 ?_
  refine r_putI K hw i_Side t_Side t_Side_ok n_Side (sh_Side g_v0 (Nat.le_trans (Nat.le_of_ble_eq_true rfl) hn)) rfl 3 (by decide) w_516 rfl rfl rfl rfl rfl d_Side_begin_26 (fun s_4 f_s_4 H locs hw => ?_)
  replace hF := ltN hF f_s_4
  refine lv_aload_n hx hb d_Side_begin_29 rfl (lv_at hl 0 rfl) ?_
  refine r_get (v := .ref (ad (v0 + 1))) K hw i_Side (sh_Side g_v0 (Nat.le_trans (Nat.le_of_ble_eq_true rfl) hn)) rfl 0 (by decide) w_508 rfl rfl rfl d_Side_begin_30 ?_
  refine lv_iconst (v := 0) hx hb d_Side_begin_33 (by decide) ?_
  refine lv_aload_n hx hb d_Side_begin_34 rfl (lv_at hl 1 rfl) ?_
  refine r_get (v := .int (s_4.1 v1 1)) K hw i_Arm (sh_Arm g_v1 (Nat.le_trans (Nat.le_of_ble_eq_true rfl) hn)) rfl 1 (by decide) w_145 rfl rfl rfl d_Side_begin_35 ?_
  refine r_iast (k := 0) K hw (sh_namesOf g_v0 (Nat.le_trans (Nat.le_of_ble_eq_true rfl) hn)) (by decide) (inB_vp (by decide)) d_Side_begin_38 (fun s_5 f_s_5 H locs hw => ?_)
  replace hF := ltN hF f_s_5
  refine lv_aload_n hx hb d_Side_begin_39 rfl (lv_at hl 0 rfl) ?_
  refine r_get (v := .ref (ad (v0 + 1))) K hw i_Side (sh_Side g_v0 (Nat.le_trans (Nat.le_of_ble_eq_true rfl) hn)) rfl 0 (by decide) w_508 rfl rfl rfl d_Side_begin_40 ?_
  refine lv_iconst (v := 1) hx hb d_Side_begin_43 (by decide) ?_
  refine lv_aload_n hx hb d_Side_begin_44 rfl (lv_at hl 1 rfl) ?_
  refine r_get (v := .int (s_5.1 v1 2)) K hw i_Arm (sh_Arm g_v1 (Nat.le_trans (Nat.le_of_ble_eq_true rfl) hn)) rfl 2 (by decide) w_148 rfl rfl rfl d_Side_begin_45 ?_
  refine r_iast (k := 1) K hw (sh_namesOf g_v0 (Nat.le_trans (Nat.le_of_ble_eq_true rfl) hn)) (by decide) (inB_vp (by decide)) d_Side_begin_48 (fun s_6 f_s_6 H locs hw => ?_)
  replace hF := ltN hF f_s_6
  subst hF
  exact r_vret K hw d_Side_begin_49
end S_Side_begin
noncomputable abbrev F_Side_begin := F_Side_begin_0
theorem c_Side_begin {l : Launch} {D : va_G} {cA : Nat → ClassId} {ad : Nat → Nat} {s0 τ : St} {nC : Nat} (hn : 46 ≤ nC) {v0 : Nat} {v1 : Nat} (g_v0 : P_Side v0) (g_v1 : P_Arm v1) (hF : F_Side_begin s0 v0 v1 = τ) : MV l D cA ad (shC.take nC) y_Side_begin (wT y_Side_begin b_Side_begin 2 none) rm_Side_begin [.ref (ad v0), .ref (ad v1)] s0 τ := fun sz => m_start (Qc := fun A => QcV D cA ad (shC.take nC) A τ) (by decide +kernel) w_663 (Nat.le_of_ble_eq_true rfl) (fun p e s m below meth c ls K hl hw => q_Side_begin_0 hn K _ _ _ _ _ _ g_v0 g_v1 hw hl hF)

/-! Side.looks(III)V -/
abbrev b_Side_looks : ByteArray := prog_8_method_3_code
def y_Side_looks : MethodName := ⟨R_Side, "looks", "(III)V"⟩
theorem a_Side_looks : y_Side_looks.cls = R_Side ∧ y_Side_looks.cls ≠ "java/lang/invoke/MethodHandle" ∧ y_Side_looks.cls ≠ "java/lang/invoke/VarHandle" ∧ (parseMethodDescriptor y_Side_looks.desc).map (fun d => d.parameters.length) = some 3 := by decide +kernel
abbrev rm_Side_looks : Room := { frames := 0, cells := 0, slots := 0, locals := 0 }
theorem w_667 : Cond.code y_Side_looks b_Side_looks 4 none ∈ TB := tb_in 667 (by decide +kernel) (by decide +kernel)
theorem d_Side_looks_0 : decode b_Side_looks 0 = .ok (.aload_n 0, 1) := by decide +kernel
theorem d_Side_looks_1 : decode b_Side_looks 1 = .ok (.getfield 11, 3) := by decide +kernel
theorem d_Side_looks_4 : decode b_Side_looks 4 = .ok (.iconst 2, 1) := by decide +kernel
theorem d_Side_looks_5 : decode b_Side_looks 5 = .ok (.aload_n 0, 1) := by decide +kernel
theorem d_Side_looks_6 : decode b_Side_looks 6 = .ok (.getfield 27, 3) := by decide +kernel
theorem d_Side_looks_9 : decode b_Side_looks 9 = .ok (.iastore, 1) := by decide +kernel
theorem d_Side_looks_10 : decode b_Side_looks 10 = .ok (.aload_n 0, 1) := by decide +kernel
theorem d_Side_looks_11 : decode b_Side_looks 11 = .ok (.getfield 11, 3) := by decide +kernel
theorem d_Side_looks_14 : decode b_Side_looks 14 = .ok (.iconst 3, 1) := by decide +kernel
theorem d_Side_looks_15 : decode b_Side_looks 15 = .ok (.iload_n 1, 1) := by decide +kernel
theorem d_Side_looks_16 : decode b_Side_looks 16 = .ok (.iastore, 1) := by decide +kernel
theorem d_Side_looks_17 : decode b_Side_looks 17 = .ok (.aload_n 0, 1) := by decide +kernel
theorem d_Side_looks_18 : decode b_Side_looks 18 = .ok (.getfield 11, 3) := by decide +kernel
theorem d_Side_looks_21 : decode b_Side_looks 21 = .ok (.iconst 4, 1) := by decide +kernel
theorem d_Side_looks_22 : decode b_Side_looks 22 = .ok (.iload_n 2, 1) := by decide +kernel
theorem d_Side_looks_23 : decode b_Side_looks 23 = .ok (.iastore, 1) := by decide +kernel
theorem d_Side_looks_24 : decode b_Side_looks 24 = .ok (.aload_n 0, 1) := by decide +kernel
theorem d_Side_looks_25 : decode b_Side_looks 25 = .ok (.getfield 11, 3) := by decide +kernel
theorem d_Side_looks_28 : decode b_Side_looks 28 = .ok (.iconst 5, 1) := by decide +kernel
theorem d_Side_looks_29 : decode b_Side_looks 29 = .ok (.iload_n 3, 1) := by decide +kernel
theorem d_Side_looks_30 : decode b_Side_looks 30 = .ok (.iastore, 1) := by decide +kernel
theorem d_Side_looks_31 : decode b_Side_looks 31 = .ok (.return_, 1) := by decide +kernel
section S_Side_looks
variable {p : Program} {l : Launch} {e : Env} {s : State} {m : MethodId} {args : Array Value} {below : List Frame} {meth : Method} {c : Code} {D : va_G} {cA : Nat → ClassId} {ad : Nat → Nat} {nC : Nat} {A : Nat → Prop} {τ : St}
noncomputable def F_Side_looks_0 (s0 : St) (v0 : Nat) (v1 : Int32) (v2 : Int32) (v3 : Int32) : St := (lt (up1 s0 (v0 + 1) 2 (s0.1 v0 1)) (fun s_1 => (lt (up1 s_1 (v0 + 1) 3 v1) (fun s_2 => (lt (up1 s_2 (v0 + 1) 4 v2) (fun s_3 => (lt (up1 s_3 (v0 + 1) 5 v3) (fun s_4 => s_4))))))))
set_option maxHeartbeats 4000000 in
set_option maxRecDepth 100000 in
theorem q_Side_looks_0 (hn : 46 ≤ nC) (K : Fx p s m args meth c b_Side_looks 4 R_Side none)  : ∀ (H : Heap) (locs : List Loc) (ls : Array Slot) (s0 : St) (v0 : Nat) (v1 : Int32) (v2 : Int32) (v3 : Int32) (g_v0 : P_Side v0), Wh D cA ad (shC.take nC) A s s0 H locs → lv_has ls 4 [(0, .ref (ad v0)), (1, .int v1), (2, .int v2), (3, .int v3)] → F_Side_looks_0 s0 v0 v1 v2 v3 = τ → W p l e rm_Side_looks s m args below meth c H locs 0 0 (MQ below (QcV D cA ad (shC.take nC) A τ) args s 0 0 A) (F0 m 0 ls []) := by
  have hx := K.1.1; have hb := K.1.2.1
  intro H locs ls s0 v0 v1 v2 v3 g_v0 hw hl hF
  unfold F_Side_looks_0 at hF
  refine lv_aload_n hx hb d_Side_looks_0 rfl (lv_at hl 0 rfl) ?_
  refine r_get (v := .ref (ad (v0 + 1))) K hw i_Side (sh_Side g_v0 (Nat.le_trans (Nat.le_of_ble_eq_true rfl) hn)) rfl 0 (by decide) w_508 rfl rfl rfl d_Side_looks_1 ?_
  refine lv_iconst (v := 2) hx hb d_Side_looks_4 (by decide) ?_
  refine lv_aload_n hx hb d_Side_looks_5 rfl (lv_at hl 0 rfl) ?_
  refine r_get (v := .int (s0.1 v0 1)) K hw i_Side (sh_Side g_v0 (Nat.le_trans (Nat.le_of_ble_eq_true rfl) hn)) rfl 1 (by decide) w_511 rfl rfl rfl d_Side_looks_6 ?_
  refine r_iast (k := 2) K hw (sh_namesOf g_v0 (Nat.le_trans (Nat.le_of_ble_eq_true rfl) hn)) (by decide) (inB_vp (by decide)) d_Side_looks_9 (fun s_1 f_s_1 H locs hw => ?_)
  replace hF := ltN hF f_s_1
  refine lv_aload_n hx hb d_Side_looks_10 rfl (lv_at hl 0 rfl) ?_
  refine r_get (v := .ref (ad (v0 + 1))) K hw i_Side (sh_Side g_v0 (Nat.le_trans (Nat.le_of_ble_eq_true rfl) hn)) rfl 0 (by decide) w_508 rfl rfl rfl d_Side_looks_11 ?_
  refine lv_iconst (v := 3) hx hb d_Side_looks_14 (by decide) ?_
  refine lv_iload_n hx hb d_Side_looks_15 rfl (lv_at hl 1 rfl) ?_
  refine r_iast (k := 3) K hw (sh_namesOf g_v0 (Nat.le_trans (Nat.le_of_ble_eq_true rfl) hn)) (by decide) (inB_vp (by decide)) d_Side_looks_16 (fun s_2 f_s_2 H locs hw => ?_)
  replace hF := ltN hF f_s_2
  refine lv_aload_n hx hb d_Side_looks_17 rfl (lv_at hl 0 rfl) ?_
  refine r_get (v := .ref (ad (v0 + 1))) K hw i_Side (sh_Side g_v0 (Nat.le_trans (Nat.le_of_ble_eq_true rfl) hn)) rfl 0 (by decide) w_508 rfl rfl rfl d_Side_looks_18 ?_
  refine lv_iconst (v := 4) hx hb d_Side_looks_21 (by decide) ?_
  refine lv_iload_n hx hb d_Side_looks_22 rfl (lv_at hl 2 rfl) ?_
  refine r_iast (k := 4) K hw (sh_namesOf g_v0 (Nat.le_trans (Nat.le_of_ble_eq_true rfl) hn)) (by decide) (inB_vp (by decide)) d_Side_looks_23 (fun s_3 f_s_3 H locs hw => ?_)
  replace hF := ltN hF f_s_3
  refine lv_aload_n hx hb d_Side_looks_24 rfl (lv_at hl 0 rfl) ?_
  refine r_get (v := .ref (ad (v0 + 1))) K hw i_Side (sh_Side g_v0 (Nat.le_trans (Nat.le_of_ble_eq_true rfl) hn)) rfl 0 (by decide) w_508 rfl rfl rfl d_Side_looks_25 ?_
  refine lv_iconst (v := 5) hx hb d_Side_looks_28 (by decide) ?_
  refine lv_iload_n hx hb d_Side_looks_29 rfl (lv_at hl 3 rfl) ?_
  refine r_iast (k := 5) K hw (sh_namesOf g_v0 (Nat.le_trans (Nat.le_of_ble_eq_true rfl) hn)) (by decide) (inB_vp (by decide)) d_Side_looks_30 (fun s_4 f_s_4 H locs hw => ?_)
  replace hF := ltN hF f_s_4
  subst hF
  exact r_vret K hw d_Side_looks_31
end S_Side_looks
noncomputable abbrev F_Side_looks := F_Side_looks_0
theorem c_Side_looks {l : Launch} {D : va_G} {cA : Nat → ClassId} {ad : Nat → Nat} {s0 τ : St} {nC : Nat} (hn : 46 ≤ nC) {v0 : Nat} {v1 : Int32} {v2 : Int32} {v3 : Int32} (g_v0 : P_Side v0) (hF : F_Side_looks s0 v0 v1 v2 v3 = τ) : MV l D cA ad (shC.take nC) y_Side_looks (wT y_Side_looks b_Side_looks 4 none) rm_Side_looks [.ref (ad v0), .int v1, .int v2, .int v3] s0 τ := fun sz => m_start (Qc := fun A => QcV D cA ad (shC.take nC) A τ) (by decide +kernel) w_667 (Nat.le_of_ble_eq_true rfl) (fun p e s m below meth c ls K hl hw => q_Side_looks_0 hn K _ _ _ _ _ _ _ _ g_v0 hw hl hF)

/-! Main.bounded(III)I -/
abbrev b_Main_bounded : ByteArray := prog_1_method_36_code
def y_Main_bounded : MethodName := ⟨R_Main, "bounded", "(III)I"⟩
theorem a_Main_bounded : y_Main_bounded.cls = R_Main ∧ y_Main_bounded.cls ≠ "java/lang/invoke/MethodHandle" ∧ y_Main_bounded.cls ≠ "java/lang/invoke/VarHandle" ∧ (parseMethodDescriptor y_Main_bounded.desc).map (fun d => d.parameters.length) = some 3 := by decide +kernel
abbrev rm_Main_bounded : Room := { frames := 0, cells := 0, slots := 0, locals := 0 }
theorem w_684 : Cond.code y_Main_bounded b_Main_bounded 3 (some .int) ∈ TB := tb_in 684 (by decide +kernel) (by decide +kernel)
theorem d_Main_bounded_0 : decode b_Main_bounded 0 = .ok (.iload_n 0, 1) := by decide +kernel
theorem d_Main_bounded_1 : decode b_Main_bounded 1 = .ok (.iload_n 1, 1) := by decide +kernel
theorem d_Main_bounded_2 : decode b_Main_bounded 2 = .ok (.if_icmp .ge 5, 3) := by decide +kernel
theorem d_Main_bounded_5 : decode b_Main_bounded 5 = .ok (.iload_n 1, 1) := by decide +kernel
theorem d_Main_bounded_6 : decode b_Main_bounded 6 = .ok (.ireturn, 1) := by decide +kernel
theorem d_Main_bounded_7 : decode b_Main_bounded 7 = .ok (.iload_n 0, 1) := by decide +kernel
theorem d_Main_bounded_8 : decode b_Main_bounded 8 = .ok (.iload_n 2, 1) := by decide +kernel
theorem d_Main_bounded_9 : decode b_Main_bounded 9 = .ok (.if_icmp .le 7, 3) := by decide +kernel
theorem d_Main_bounded_12 : decode b_Main_bounded 12 = .ok (.iload_n 2, 1) := by decide +kernel
theorem d_Main_bounded_13 : decode b_Main_bounded 13 = .ok (.goto 4, 3) := by decide +kernel
theorem d_Main_bounded_16 : decode b_Main_bounded 16 = .ok (.iload_n 0, 1) := by decide +kernel
theorem d_Main_bounded_17 : decode b_Main_bounded 17 = .ok (.ireturn, 1) := by decide +kernel
section S_Main_bounded
variable {p : Program} {l : Launch} {e : Env} {s : State} {m : MethodId} {args : Array Value} {below : List Frame} {meth : Method} {c : Code} {D : va_G} {cA : Nat → ClassId} {ad : Nat → Nat} {nC : Nat} {A : Nat → Prop} {r : Int32} {τ : St}
noncomputable def F_Main_bounded_0 (v0 : Int32) (v1 : Int32) (v2 : Int32) : Int32 := (if v1 ≤ v0 then (if v0 ≤ v2 then v0 else v2) else v1)
set_option maxHeartbeats 4000000 in
set_option maxRecDepth 100000 in
theorem q_Main_bounded_0 (hn : 0 ≤ nC) (s0 : St) (K : Fx p s m args meth c b_Main_bounded 3 R_Main (some .int))  : ∀ (H : Heap) (locs : List Loc) (ls : Array Slot) (v0 : Int32) (v1 : Int32) (v2 : Int32), Wh D cA ad (shC.take nC) A s s0 H locs → lv_has ls 3 [(0, .int v0), (1, .int v1), (2, .int v2)] → F_Main_bounded_0 v0 v1 v2 = r → W p l e rm_Main_bounded s m args below meth c H locs 0 0 (MQ below (QcI D cA ad (shC.take nC) A r s0) args s 0 0 A) (F0 m 0 ls []) := by
  have hx := K.1.1; have hb := K.1.2.1
  intro H locs ls v0 v1 v2 hw hl hF
  unfold F_Main_bounded_0 at hF
  refine lv_iload_n hx hb d_Main_bounded_0 rfl (lv_at hl 0 rfl) ?_
  refine lv_iload_n hx hb d_Main_bounded_1 rfl (lv_at hl 1 rfl) ?_
  refine lv_icmp_ge (tgt := 7) hx hb d_Main_bounded_2 (by decide) (fun c_1 => ?_) (fun c_1 => ?_)
  · replace hF := ifT hF c_1
    refine lv_iload_n hx hb d_Main_bounded_7 rfl (lv_at hl 0 rfl) ?_
    refine lv_iload_n hx hb d_Main_bounded_8 rfl (lv_at hl 2 rfl) ?_
    refine lv_icmp_le (tgt := 16) hx hb d_Main_bounded_9 (by decide) (fun c_2 => ?_) (fun c_2 => ?_)
    · replace hF := ifT hF c_2
      refine lv_iload_n hx hb d_Main_bounded_16 rfl (lv_at hl 0 rfl) ?_
      subst hF
      exact r_iret K hw d_Main_bounded_17
    · replace hF := ifF hF c_2
      refine lv_iload_n hx hb d_Main_bounded_12 rfl (lv_at hl 2 rfl) ?_
      refine lv_goto (tgt := 17) hx hb d_Main_bounded_13 (by decide) ?_
      subst hF
      exact r_iret K hw d_Main_bounded_17
  · replace hF := ifF hF c_1
    refine lv_iload_n hx hb d_Main_bounded_5 rfl (lv_at hl 1 rfl) ?_
    subst hF
    exact r_iret K hw d_Main_bounded_6
end S_Main_bounded
noncomputable abbrev F_Main_bounded := F_Main_bounded_0
theorem c_Main_bounded {l : Launch} {D : va_G} {cA : Nat → ClassId} {ad : Nat → Nat} {s0 : St} {nC : Nat} (hn : 0 ≤ nC) {r : Int32} {v0 : Int32} {v1 : Int32} {v2 : Int32}  (hF : F_Main_bounded v0 v1 v2 = r) : MI l D cA ad (shC.take nC) y_Main_bounded (wT y_Main_bounded b_Main_bounded 3 (some .int)) rm_Main_bounded [.int v0, .int v1, .int v2] s0 r s0 := fun sz => m_start (Qc := fun A => QcI D cA ad (shC.take nC) A r s0) (by decide +kernel) w_684 (Nat.le_of_ble_eq_true rfl) (fun p e s m below meth c ls K hl hw => q_Main_bounded_0 hn s0 K _ _ _ _ _ _  hw hl hF)

/-! Text.ofOne(II)I -/
abbrev b_Text_ofOne : ByteArray := prog_10_method_7_code
def y_Text_ofOne : MethodName := ⟨R_Text, "ofOne", "(II)I"⟩
theorem a_Text_ofOne : y_Text_ofOne.cls = R_Text ∧ y_Text_ofOne.cls ≠ "java/lang/invoke/MethodHandle" ∧ y_Text_ofOne.cls ≠ "java/lang/invoke/VarHandle" ∧ (parseMethodDescriptor y_Text_ofOne.desc).map (fun d => d.parameters.length) = some 2 := by decide +kernel
abbrev rm_Text_ofOne : Room := { frames := 0, cells := 0, slots := 0, locals := 0 }
theorem w_678 : Cond.code y_Text_ofOne b_Text_ofOne 2 (some .int) ∈ TB := tb_in 678 (by decide +kernel) (by decide +kernel)
theorem d_Text_ofOne_0 : decode b_Text_ofOne 0 = .ok (.iload_n 0, 1) := by decide +kernel
theorem d_Text_ofOne_1 : decode b_Text_ofOne 1 = .ok (.bipush (-11), 2) := by decide +kernel
theorem d_Text_ofOne_3 : decode b_Text_ofOne 3 = .ok (.if_icmp .ne 6, 3) := by decide +kernel
theorem d_Text_ofOne_6 : decode b_Text_ofOne 6 = .ok (.iload_n 1, 1) := by decide +kernel
theorem d_Text_ofOne_7 : decode b_Text_ofOne 7 = .ok (.ineg, 1) := by decide +kernel
theorem d_Text_ofOne_8 : decode b_Text_ofOne 8 = .ok (.ireturn, 1) := by decide +kernel
theorem d_Text_ofOne_9 : decode b_Text_ofOne 9 = .ok (.iload_n 1, 1) := by decide +kernel
theorem d_Text_ofOne_10 : decode b_Text_ofOne 10 = .ok (.ifCond .ne 7, 3) := by decide +kernel
theorem d_Text_ofOne_13 : decode b_Text_ofOne 13 = .ok (.iconst 1, 1) := by decide +kernel
theorem d_Text_ofOne_14 : decode b_Text_ofOne 14 = .ok (.goto 4, 3) := by decide +kernel
theorem d_Text_ofOne_17 : decode b_Text_ofOne 17 = .ok (.iconst 0, 1) := by decide +kernel
theorem d_Text_ofOne_18 : decode b_Text_ofOne 18 = .ok (.ireturn, 1) := by decide +kernel
section S_Text_ofOne
variable {p : Program} {l : Launch} {e : Env} {s : State} {m : MethodId} {args : Array Value} {below : List Frame} {meth : Method} {c : Code} {D : va_G} {cA : Nat → ClassId} {ad : Nat → Nat} {nC : Nat} {A : Nat → Prop} {r : Int32} {τ : St}
noncomputable def F_Text_ofOne_0 (v0 : Int32) (v1 : Int32) : Int32 := (if ¬ v0 = (-11 : Int32) then (if ¬ v1 = 0 then (0 : Int32) else (1 : Int32)) else (-v1))
set_option maxHeartbeats 4000000 in
set_option maxRecDepth 100000 in
theorem q_Text_ofOne_0 (hn : 0 ≤ nC) (s0 : St) (K : Fx p s m args meth c b_Text_ofOne 2 R_Text (some .int))  : ∀ (H : Heap) (locs : List Loc) (ls : Array Slot) (v0 : Int32) (v1 : Int32), Wh D cA ad (shC.take nC) A s s0 H locs → lv_has ls 2 [(0, .int v0), (1, .int v1)] → F_Text_ofOne_0 v0 v1 = r → W p l e rm_Text_ofOne s m args below meth c H locs 0 0 (MQ below (QcI D cA ad (shC.take nC) A r s0) args s 0 0 A) (F0 m 0 ls []) := by
  have hx := K.1.1; have hb := K.1.2.1
  intro H locs ls v0 v1 hw hl hF
  unfold F_Text_ofOne_0 at hF
  refine lv_iload_n hx hb d_Text_ofOne_0 rfl (lv_at hl 0 rfl) ?_
  refine lv_bipush (v := -11) hx hb d_Text_ofOne_1 (by decide) ?_
  refine lv_icmp_ne (tgt := 9) hx hb d_Text_ofOne_3 (by decide) (fun c_1 => ?_) (fun c_1 => ?_)
  · replace hF := ifT hF c_1
    refine lv_iload_n hx hb d_Text_ofOne_9 rfl (lv_at hl 1 rfl) ?_
    refine lv_if_ne (tgt := 17) hx hb d_Text_ofOne_10 (by decide) (fun c_2 => ?_) (fun c_2 => ?_)
    · replace hF := ifT hF c_2
      refine lv_iconst (v := 0) hx hb d_Text_ofOne_17 (by decide) ?_
      subst hF
      exact r_iret K hw d_Text_ofOne_18
    · replace hF := ifN hF c_2
      refine lv_iconst (v := 1) hx hb d_Text_ofOne_13 (by decide) ?_
      refine lv_goto (tgt := 18) hx hb d_Text_ofOne_14 (by decide) ?_
      subst hF
      exact r_iret K hw d_Text_ofOne_18
  · replace hF := ifN hF c_1
    refine lv_iload_n hx hb d_Text_ofOne_6 rfl (lv_at hl 1 rfl) ?_
    refine lv_ineg hx hb d_Text_ofOne_7 ?_
    subst hF
    exact r_iret K hw d_Text_ofOne_8
end S_Text_ofOne
noncomputable abbrev F_Text_ofOne := F_Text_ofOne_0
theorem c_Text_ofOne {l : Launch} {D : va_G} {cA : Nat → ClassId} {ad : Nat → Nat} {s0 : St} {nC : Nat} (hn : 0 ≤ nC) {r : Int32} {v0 : Int32} {v1 : Int32}  (hF : F_Text_ofOne v0 v1 = r) : MI l D cA ad (shC.take nC) y_Text_ofOne (wT y_Text_ofOne b_Text_ofOne 2 (some .int)) rm_Text_ofOne [.int v0, .int v1] s0 r s0 := fun sz => m_start (Qc := fun A => QcI D cA ad (shC.take nC) A r s0) (by decide +kernel) w_678 (Nat.le_of_ble_eq_true rfl) (fun p e s m below meth c ls K hl hw => q_Text_ofOne_0 hn s0 K _ _ _ _ _  hw hl hF)

/-! Text.ofTwo(III)I -/
abbrev b_Text_ofTwo : ByteArray := prog_10_method_8_code
def y_Text_ofTwo : MethodName := ⟨R_Text, "ofTwo", "(III)I"⟩
theorem a_Text_ofTwo : y_Text_ofTwo.cls = R_Text ∧ y_Text_ofTwo.cls ≠ "java/lang/invoke/MethodHandle" ∧ y_Text_ofTwo.cls ≠ "java/lang/invoke/VarHandle" ∧ (parseMethodDescriptor y_Text_ofTwo.desc).map (fun d => d.parameters.length) = some 3 := by decide +kernel
abbrev rm_Text_ofTwo : Room := { frames := 0, cells := 0, slots := 0, locals := 0 }
theorem w_681 : Cond.code y_Text_ofTwo b_Text_ofTwo 3 (some .int) ∈ TB := tb_in 681 (by decide +kernel) (by decide +kernel)
theorem d_Text_ofTwo_0 : decode b_Text_ofTwo 0 = .ok (.iload_n 0, 1) := by decide +kernel
theorem d_Text_ofTwo_1 : decode b_Text_ofTwo 1 = .ok (.tableswitch 87 (-26) (-21) #[73, 62, 51, 47, 43, 39], 39) := by decide +kernel
theorem d_Text_ofTwo_40 : decode b_Text_ofTwo 40 = .ok (.iload_n 1, 1) := by decide +kernel
theorem d_Text_ofTwo_41 : decode b_Text_ofTwo 41 = .ok (.iload_n 2, 1) := by decide +kernel
theorem d_Text_ofTwo_42 : decode b_Text_ofTwo 42 = .ok (.iadd, 1) := by decide +kernel
theorem d_Text_ofTwo_43 : decode b_Text_ofTwo 43 = .ok (.ireturn, 1) := by decide +kernel
theorem d_Text_ofTwo_44 : decode b_Text_ofTwo 44 = .ok (.iload_n 1, 1) := by decide +kernel
theorem d_Text_ofTwo_45 : decode b_Text_ofTwo 45 = .ok (.iload_n 2, 1) := by decide +kernel
theorem d_Text_ofTwo_46 : decode b_Text_ofTwo 46 = .ok (.isub, 1) := by decide +kernel
theorem d_Text_ofTwo_47 : decode b_Text_ofTwo 47 = .ok (.ireturn, 1) := by decide +kernel
theorem d_Text_ofTwo_48 : decode b_Text_ofTwo 48 = .ok (.iload_n 1, 1) := by decide +kernel
theorem d_Text_ofTwo_49 : decode b_Text_ofTwo 49 = .ok (.iload_n 2, 1) := by decide +kernel
theorem d_Text_ofTwo_50 : decode b_Text_ofTwo 50 = .ok (.imul, 1) := by decide +kernel
theorem d_Text_ofTwo_51 : decode b_Text_ofTwo 51 = .ok (.ireturn, 1) := by decide +kernel
theorem d_Text_ofTwo_52 : decode b_Text_ofTwo 52 = .ok (.iload_n 1, 1) := by decide +kernel
theorem d_Text_ofTwo_53 : decode b_Text_ofTwo 53 = .ok (.iload_n 2, 1) := by decide +kernel
theorem d_Text_ofTwo_54 : decode b_Text_ofTwo 54 = .ok (.if_icmp .ge 7, 3) := by decide +kernel
theorem d_Text_ofTwo_57 : decode b_Text_ofTwo 57 = .ok (.iconst 1, 1) := by decide +kernel
theorem d_Text_ofTwo_58 : decode b_Text_ofTwo 58 = .ok (.goto 4, 3) := by decide +kernel
theorem d_Text_ofTwo_61 : decode b_Text_ofTwo 61 = .ok (.iconst 0, 1) := by decide +kernel
theorem d_Text_ofTwo_62 : decode b_Text_ofTwo 62 = .ok (.ireturn, 1) := by decide +kernel
theorem d_Text_ofTwo_63 : decode b_Text_ofTwo 63 = .ok (.iload_n 1, 1) := by decide +kernel
theorem d_Text_ofTwo_64 : decode b_Text_ofTwo 64 = .ok (.iload_n 2, 1) := by decide +kernel
theorem d_Text_ofTwo_65 : decode b_Text_ofTwo 65 = .ok (.if_icmp .ne 7, 3) := by decide +kernel
theorem d_Text_ofTwo_68 : decode b_Text_ofTwo 68 = .ok (.iconst 1, 1) := by decide +kernel
theorem d_Text_ofTwo_69 : decode b_Text_ofTwo 69 = .ok (.goto 4, 3) := by decide +kernel
theorem d_Text_ofTwo_72 : decode b_Text_ofTwo 72 = .ok (.iconst 0, 1) := by decide +kernel
theorem d_Text_ofTwo_73 : decode b_Text_ofTwo 73 = .ok (.ireturn, 1) := by decide +kernel
theorem d_Text_ofTwo_74 : decode b_Text_ofTwo 74 = .ok (.iload_n 1, 1) := by decide +kernel
theorem d_Text_ofTwo_75 : decode b_Text_ofTwo 75 = .ok (.ifCond .eq 11, 3) := by decide +kernel
theorem d_Text_ofTwo_78 : decode b_Text_ofTwo 78 = .ok (.iload_n 2, 1) := by decide +kernel
theorem d_Text_ofTwo_79 : decode b_Text_ofTwo 79 = .ok (.ifCond .eq 7, 3) := by decide +kernel
theorem d_Text_ofTwo_82 : decode b_Text_ofTwo 82 = .ok (.iconst 1, 1) := by decide +kernel
theorem d_Text_ofTwo_83 : decode b_Text_ofTwo 83 = .ok (.goto 4, 3) := by decide +kernel
theorem d_Text_ofTwo_86 : decode b_Text_ofTwo 86 = .ok (.iconst 0, 1) := by decide +kernel
theorem d_Text_ofTwo_87 : decode b_Text_ofTwo 87 = .ok (.ireturn, 1) := by decide +kernel
theorem d_Text_ofTwo_88 : decode b_Text_ofTwo 88 = .ok (.iload_n 1, 1) := by decide +kernel
theorem d_Text_ofTwo_89 : decode b_Text_ofTwo 89 = .ok (.ifCond .ne 7, 3) := by decide +kernel
theorem d_Text_ofTwo_92 : decode b_Text_ofTwo 92 = .ok (.iload_n 2, 1) := by decide +kernel
theorem d_Text_ofTwo_93 : decode b_Text_ofTwo 93 = .ok (.ifCond .eq 7, 3) := by decide +kernel
theorem d_Text_ofTwo_96 : decode b_Text_ofTwo 96 = .ok (.iconst 1, 1) := by decide +kernel
theorem d_Text_ofTwo_97 : decode b_Text_ofTwo 97 = .ok (.goto 4, 3) := by decide +kernel
theorem d_Text_ofTwo_100 : decode b_Text_ofTwo 100 = .ok (.iconst 0, 1) := by decide +kernel
theorem d_Text_ofTwo_101 : decode b_Text_ofTwo 101 = .ok (.ireturn, 1) := by decide +kernel
section S_Text_ofTwo
variable {p : Program} {l : Launch} {e : Env} {s : State} {m : MethodId} {args : Array Value} {below : List Frame} {meth : Method} {c : Code} {D : va_G} {cA : Nat → ClassId} {ad : Nat → Nat} {nC : Nat} {A : Nat → Prop} {r : Int32} {τ : St}
noncomputable def F_Text_ofTwo_0 (v0 : Int32) (v1 : Int32) (v2 : Int32) : Int32 := (if v0 = -26 then (if v1 = 0 then (0 : Int32) else (if v2 = 0 then (0 : Int32) else (1 : Int32))) else (if v0 = -25 then (if ¬ v1 = v2 then (0 : Int32) else (1 : Int32)) else (if v0 = -24 then (if v2 ≤ v1 then (0 : Int32) else (1 : Int32)) else (if v0 = -23 then (v1 * v2) else (if v0 = -22 then (v1 - v2) else (if v0 = -21 then (v1 + v2) else (if ¬ v1 = 0 then (1 : Int32) else (if v2 = 0 then (0 : Int32) else (1 : Int32)))))))))
set_option maxHeartbeats 4000000 in
set_option maxRecDepth 100000 in
theorem q_Text_ofTwo_0 (hn : 0 ≤ nC) (s0 : St) (K : Fx p s m args meth c b_Text_ofTwo 3 R_Text (some .int))  : ∀ (H : Heap) (locs : List Loc) (ls : Array Slot) (v0 : Int32) (v1 : Int32) (v2 : Int32), Wh D cA ad (shC.take nC) A s s0 H locs → lv_has ls 3 [(0, .int v0), (1, .int v1), (2, .int v2)] → F_Text_ofTwo_0 v0 v1 v2 = r → W p l e rm_Text_ofTwo s m args below meth c H locs 0 0 (MQ below (QcI D cA ad (shC.take nC) A r s0) args s 0 0 A) (F0 m 0 ls []) := by
  have hx := K.1.1; have hb := K.1.2.1
  intro H locs ls v0 v1 v2 hw hl hF
  unfold F_Text_ofTwo_0 at hF
  refine lv_iload_n hx hb d_Text_ofTwo_0 rfl (lv_at hl 0 rfl) ?_
  by_cases c_1 : v0 = -26
  · replace hF := ifT hF c_1
    refine lv_tableIn (tgt := 74) hx hb d_Text_ofTwo_1 (by rw [c_1]; decide) (by rw [c_1]; decide) (by rw [c_1]; rfl) (by decide) ?_
    refine lv_iload_n hx hb d_Text_ofTwo_74 rfl (lv_at hl 1 rfl) ?_
    refine lv_if_eq (tgt := 86) hx hb d_Text_ofTwo_75 (by decide) (fun c_2 => ?_) (fun c_2 => ?_)
    · replace hF := ifT hF c_2
      refine lv_iconst (v := 0) hx hb d_Text_ofTwo_86 (by decide) ?_
      subst hF
      exact r_iret K hw d_Text_ofTwo_87
    · replace hF := ifF hF c_2
      refine lv_iload_n hx hb d_Text_ofTwo_78 rfl (lv_at hl 2 rfl) ?_
      refine lv_if_eq (tgt := 86) hx hb d_Text_ofTwo_79 (by decide) (fun c_3 => ?_) (fun c_3 => ?_)
      · replace hF := ifT hF c_3
        refine lv_iconst (v := 0) hx hb d_Text_ofTwo_86 (by decide) ?_
        subst hF
        exact r_iret K hw d_Text_ofTwo_87
      · replace hF := ifF hF c_3
        refine lv_iconst (v := 1) hx hb d_Text_ofTwo_82 (by decide) ?_
        refine lv_goto (tgt := 87) hx hb d_Text_ofTwo_83 (by decide) ?_
        subst hF
        exact r_iret K hw d_Text_ofTwo_87
  replace hF := ifF hF c_1
  by_cases c_4 : v0 = -25
  · replace hF := ifT hF c_4
    refine lv_tableIn (tgt := 63) hx hb d_Text_ofTwo_1 (by rw [c_4]; decide) (by rw [c_4]; decide) (by rw [c_4]; rfl) (by decide) ?_
    refine lv_iload_n hx hb d_Text_ofTwo_63 rfl (lv_at hl 1 rfl) ?_
    refine lv_iload_n hx hb d_Text_ofTwo_64 rfl (lv_at hl 2 rfl) ?_
    refine lv_icmp_ne (tgt := 72) hx hb d_Text_ofTwo_65 (by decide) (fun c_5 => ?_) (fun c_5 => ?_)
    · replace hF := ifT hF c_5
      refine lv_iconst (v := 0) hx hb d_Text_ofTwo_72 (by decide) ?_
      subst hF
      exact r_iret K hw d_Text_ofTwo_73
    · replace hF := ifN hF c_5
      refine lv_iconst (v := 1) hx hb d_Text_ofTwo_68 (by decide) ?_
      refine lv_goto (tgt := 73) hx hb d_Text_ofTwo_69 (by decide) ?_
      subst hF
      exact r_iret K hw d_Text_ofTwo_73
  replace hF := ifF hF c_4
  by_cases c_6 : v0 = -24
  · replace hF := ifT hF c_6
    refine lv_tableIn (tgt := 52) hx hb d_Text_ofTwo_1 (by rw [c_6]; decide) (by rw [c_6]; decide) (by rw [c_6]; rfl) (by decide) ?_
    refine lv_iload_n hx hb d_Text_ofTwo_52 rfl (lv_at hl 1 rfl) ?_
    refine lv_iload_n hx hb d_Text_ofTwo_53 rfl (lv_at hl 2 rfl) ?_
    refine lv_icmp_ge (tgt := 61) hx hb d_Text_ofTwo_54 (by decide) (fun c_7 => ?_) (fun c_7 => ?_)
    · replace hF := ifT hF c_7
      refine lv_iconst (v := 0) hx hb d_Text_ofTwo_61 (by decide) ?_
      subst hF
      exact r_iret K hw d_Text_ofTwo_62
    · replace hF := ifF hF c_7
      refine lv_iconst (v := 1) hx hb d_Text_ofTwo_57 (by decide) ?_
      refine lv_goto (tgt := 62) hx hb d_Text_ofTwo_58 (by decide) ?_
      subst hF
      exact r_iret K hw d_Text_ofTwo_62
  replace hF := ifF hF c_6
  by_cases c_8 : v0 = -23
  · replace hF := ifT hF c_8
    refine lv_tableIn (tgt := 48) hx hb d_Text_ofTwo_1 (by rw [c_8]; decide) (by rw [c_8]; decide) (by rw [c_8]; rfl) (by decide) ?_
    refine lv_iload_n hx hb d_Text_ofTwo_48 rfl (lv_at hl 1 rfl) ?_
    refine lv_iload_n hx hb d_Text_ofTwo_49 rfl (lv_at hl 2 rfl) ?_
    refine lv_imul hx hb d_Text_ofTwo_50 ?_
    subst hF
    exact r_iret K hw d_Text_ofTwo_51
  replace hF := ifF hF c_8
  by_cases c_9 : v0 = -22
  · replace hF := ifT hF c_9
    refine lv_tableIn (tgt := 44) hx hb d_Text_ofTwo_1 (by rw [c_9]; decide) (by rw [c_9]; decide) (by rw [c_9]; rfl) (by decide) ?_
    refine lv_iload_n hx hb d_Text_ofTwo_44 rfl (lv_at hl 1 rfl) ?_
    refine lv_iload_n hx hb d_Text_ofTwo_45 rfl (lv_at hl 2 rfl) ?_
    refine lv_isub hx hb d_Text_ofTwo_46 ?_
    subst hF
    exact r_iret K hw d_Text_ofTwo_47
  replace hF := ifF hF c_9
  by_cases c_10 : v0 = -21
  · replace hF := ifT hF c_10
    refine lv_tableIn (tgt := 40) hx hb d_Text_ofTwo_1 (by rw [c_10]; decide) (by rw [c_10]; decide) (by rw [c_10]; rfl) (by decide) ?_
    refine lv_iload_n hx hb d_Text_ofTwo_40 rfl (lv_at hl 1 rfl) ?_
    refine lv_iload_n hx hb d_Text_ofTwo_41 rfl (lv_at hl 2 rfl) ?_
    refine lv_iadd hx hb d_Text_ofTwo_42 ?_
    subst hF
    exact r_iret K hw d_Text_ofTwo_43
  replace hF := ifF hF c_10
  have nc_1 : ¬ (v0).toInt = -26 := lv_neT c_1 rfl
  have nc_4 : ¬ (v0).toInt = -25 := lv_neT c_4 rfl
  have nc_6 : ¬ (v0).toInt = -24 := lv_neT c_6 rfl
  have nc_8 : ¬ (v0).toInt = -23 := lv_neT c_8 rfl
  have nc_9 : ¬ (v0).toInt = -22 := lv_neT c_9 rfl
  have nc_10 : ¬ (v0).toInt = -21 := lv_neT c_10 rfl
  refine lv_tableOut (tgt := 88) hx hb d_Text_ofTwo_1 (by omega) (by decide) ?_
  refine lv_iload_n hx hb d_Text_ofTwo_88 rfl (lv_at hl 1 rfl) ?_
  refine lv_if_ne (tgt := 96) hx hb d_Text_ofTwo_89 (by decide) (fun c_11 => ?_) (fun c_11 => ?_)
  · replace hF := ifT hF c_11
    refine lv_iconst (v := 1) hx hb d_Text_ofTwo_96 (by decide) ?_
    refine lv_goto (tgt := 101) hx hb d_Text_ofTwo_97 (by decide) ?_
    subst hF
    exact r_iret K hw d_Text_ofTwo_101
  · replace hF := ifN hF c_11
    refine lv_iload_n hx hb d_Text_ofTwo_92 rfl (lv_at hl 2 rfl) ?_
    refine lv_if_eq (tgt := 100) hx hb d_Text_ofTwo_93 (by decide) (fun c_12 => ?_) (fun c_12 => ?_)
    · replace hF := ifT hF c_12
      refine lv_iconst (v := 0) hx hb d_Text_ofTwo_100 (by decide) ?_
      subst hF
      exact r_iret K hw d_Text_ofTwo_101
    · replace hF := ifF hF c_12
      refine lv_iconst (v := 1) hx hb d_Text_ofTwo_96 (by decide) ?_
      refine lv_goto (tgt := 101) hx hb d_Text_ofTwo_97 (by decide) ?_
      subst hF
      exact r_iret K hw d_Text_ofTwo_101
end S_Text_ofTwo
noncomputable abbrev F_Text_ofTwo := F_Text_ofTwo_0
theorem c_Text_ofTwo {l : Launch} {D : va_G} {cA : Nat → ClassId} {ad : Nat → Nat} {s0 : St} {nC : Nat} (hn : 0 ≤ nC) {r : Int32} {v0 : Int32} {v1 : Int32} {v2 : Int32}  (hF : F_Text_ofTwo v0 v1 v2 = r) : MI l D cA ad (shC.take nC) y_Text_ofTwo (wT y_Text_ofTwo b_Text_ofTwo 3 (some .int)) rm_Text_ofTwo [.int v0, .int v1, .int v2] s0 r s0 := fun sz => m_start (Qc := fun A => QcI D cA ad (shC.take nC) A r s0) (by decide +kernel) w_681 (Nat.le_of_ble_eq_true rfl) (fun p e s m below meth c ls K hl hw => q_Text_ofTwo_0 hn s0 K _ _ _ _ _ _  hw hl hF)
