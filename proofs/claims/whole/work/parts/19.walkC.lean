/-! Main.firstOtherwise(LSheet;)I -/
abbrev b_Main_firstOtherwise : ByteArray := prog_1_method_52_code
def y_Main_firstOtherwise : MethodName := ⟨R_Main, "firstOtherwise", "(LArmAgainstArm$Sheet;)I"⟩
theorem a_Main_firstOtherwise : y_Main_firstOtherwise.cls = R_Main ∧ y_Main_firstOtherwise.cls ≠ "java/lang/invoke/MethodHandle" ∧ y_Main_firstOtherwise.cls ≠ "java/lang/invoke/VarHandle" ∧ (parseMethodDescriptor y_Main_firstOtherwise.desc).map (fun d => d.parameters.length) = some 1 := by decide +kernel
abbrev rm_Main_firstOtherwise : Room := { frames := 5, cells := 0, slots := 0, locals := 116 }
theorem w_194 : Cond.fieldLink R_Main 309 R_Sheet "size" "I" ∈ TB := tb_in 194 (by decide +kernel) (by decide +kernel)
theorem w_881 : Cond.methodLink R_Main 299 y_Sheet_at ∈ TB := tb_in 881 (by decide +kernel) (by decide +kernel)
theorem w_882 : Cond.instanceMethod y_Sheet_at ∈ TB := tb_in 882 (by decide +kernel) (by decide +kernel)
theorem w_883 : Cond.selects R_Sheet y_Sheet_at y_Sheet_at ∈ TB := tb_in 883 (by decide +kernel) (by decide +kernel)
theorem w_880 : Cond.code y_Main_firstOtherwise b_Main_firstOtherwise 3 (some .int) ∈ TB := tb_in 880 (by decide +kernel) (by decide +kernel)
theorem d_Main_firstOtherwise_0 : decode b_Main_firstOtherwise 0 = .ok (.iconst 0, 1) := by decide +kernel
theorem d_Main_firstOtherwise_1 : decode b_Main_firstOtherwise 1 = .ok (.istore_n 2, 1) := by decide +kernel
theorem d_Main_firstOtherwise_2 : decode b_Main_firstOtherwise 2 = .ok (.iload_n 2, 1) := by decide +kernel
theorem d_Main_firstOtherwise_3 : decode b_Main_firstOtherwise 3 = .ok (.aload_n 1, 1) := by decide +kernel
theorem d_Main_firstOtherwise_4 : decode b_Main_firstOtherwise 4 = .ok (.getfield 309, 3) := by decide +kernel
theorem d_Main_firstOtherwise_7 : decode b_Main_firstOtherwise 7 = .ok (.if_icmp .ge 38, 3) := by decide +kernel
theorem d_Main_firstOtherwise_10 : decode b_Main_firstOtherwise 10 = .ok (.aload_n 0, 1) := by decide +kernel
theorem d_Main_firstOtherwise_11 : decode b_Main_firstOtherwise 11 = .ok (.getfield 86, 3) := by decide +kernel
theorem d_Main_firstOtherwise_14 : decode b_Main_firstOtherwise 14 = .ok (.iconst 5, 1) := by decide +kernel
theorem d_Main_firstOtherwise_15 : decode b_Main_firstOtherwise 15 = .ok (.iload_n 2, 1) := by decide +kernel
theorem d_Main_firstOtherwise_16 : decode b_Main_firstOtherwise 16 = .ok (.iconst 1, 1) := by decide +kernel
theorem d_Main_firstOtherwise_17 : decode b_Main_firstOtherwise 17 = .ok (.iadd, 1) := by decide +kernel
theorem d_Main_firstOtherwise_18 : decode b_Main_firstOtherwise 18 = .ok (.imul, 1) := by decide +kernel
theorem d_Main_firstOtherwise_19 : decode b_Main_firstOtherwise 19 = .ok (.invokevirtual 182, 3) := by decide +kernel
theorem d_Main_firstOtherwise_22 : decode b_Main_firstOtherwise 22 = .ok (.aload_n 0, 1) := by decide +kernel
theorem d_Main_firstOtherwise_23 : decode b_Main_firstOtherwise 23 = .ok (.getfield 86, 3) := by decide +kernel
theorem d_Main_firstOtherwise_26 : decode b_Main_firstOtherwise 26 = .ok (.getfield 185, 3) := by decide +kernel
theorem d_Main_firstOtherwise_29 : decode b_Main_firstOtherwise 29 = .ok (.aload_n 1, 1) := by decide +kernel
theorem d_Main_firstOtherwise_30 : decode b_Main_firstOtherwise 30 = .ok (.iload_n 2, 1) := by decide +kernel
theorem d_Main_firstOtherwise_31 : decode b_Main_firstOtherwise 31 = .ok (.invokevirtual 299, 3) := by decide +kernel
theorem d_Main_firstOtherwise_34 : decode b_Main_firstOtherwise 34 = .ok (.if_icmp .eq 5, 3) := by decide +kernel
theorem d_Main_firstOtherwise_37 : decode b_Main_firstOtherwise 37 = .ok (.iload_n 2, 1) := by decide +kernel
theorem d_Main_firstOtherwise_38 : decode b_Main_firstOtherwise 38 = .ok (.ireturn, 1) := by decide +kernel
theorem d_Main_firstOtherwise_39 : decode b_Main_firstOtherwise 39 = .ok (.iinc 2 1, 3) := by decide +kernel
theorem d_Main_firstOtherwise_42 : decode b_Main_firstOtherwise 42 = .ok (.goto (-40), 3) := by decide +kernel
theorem d_Main_firstOtherwise_45 : decode b_Main_firstOtherwise 45 = .ok (.iconst (-1), 1) := by decide +kernel
theorem d_Main_firstOtherwise_46 : decode b_Main_firstOtherwise 46 = .ok (.ireturn, 1) := by decide +kernel
section S_Main_firstOtherwise
variable {p : Program} {l : Launch} {e : Env} {s : State} {m : MethodId} {args : Array Value} {below : List Frame} {meth : Method} {c : Code} {D : va_G} {cA : Nat → ClassId} {ad : Nat → Nat} {nC : Nat} {A : Nat → Prop} {r : Int32} {τ : St}
noncomputable def F_Main_firstOtherwise_2 : Nat → St → Nat → Int32 → Option (Int32 × St)
  | 0, _, _, _ => none
  | n + 1, s0, v1, v2 => (if (s0.1 v1 2) ≤ v2 then (some ((-1 : Int32), s0)) else (ob1 (F_Bout_playTo s0 ((5 : Int32) * (v2 + (1 : Int32)))) (fun s_2 => (ob1 (F_Sheet_at s_2 v1 v2) (fun r_3 => (if (s_2.1 41 3) = r_3 then (F_Main_firstOtherwise_2 n s_2 v1 (v2 + 1)) else (some (v2, s_2))))))))
set_option maxHeartbeats 4000000 in
set_option maxRecDepth 100000 in
theorem q_Main_firstOtherwise_2 (hn : 46 ≤ nC) (K : Fx p s m args meth c b_Main_firstOtherwise 3 R_Main (some .int))  : ∀ (n : Nat), ∀ (H : Heap) (locs : List Loc) (ls : Array Slot) (s0 : St) (v1 : Nat) (v2 : Int32) (g_v1 : P_Sheet v1), Wh D cA ad (shC.take nC) A s s0 H locs → lv_has ls 3 [(0, .ref (ad 20)), (1, .ref (ad v1)), (2, .int v2)] → F_Main_firstOtherwise_2 n s0 v1 v2 = (some (r, τ)) → W p l e rm_Main_firstOtherwise s m args below meth c H locs 0 0 (MQ below (QcI D cA ad (shC.take nC) A r τ) args s 0 0 A) (F0 m 2 ls []) := by
  have hx := K.1.1; have hb := K.1.2.1
  intro n
  induction n with
  | zero =>
    intro H locs ls s0 v1 v2 g_v1 hw hl hF
    exact absurd hF (by rw [F_Main_firstOtherwise_2]; exact nofun)
  | succ n ih =>
    intro H locs ls s0 v1 v2 g_v1 hw hl hF
    rw [F_Main_firstOtherwise_2] at hF
    refine lv_iload_n hx hb d_Main_firstOtherwise_2 rfl (lv_at hl 2 rfl) ?_
    refine lv_aload_n hx hb d_Main_firstOtherwise_3 rfl (lv_at hl 1 rfl) ?_
    refine r_get (v := .int (s0.1 v1 2)) K hw i_Sheet (sh_Sheet g_v1 (Nat.le_trans (Nat.le_of_ble_eq_true rfl) hn)) rfl 2 (by decide) w_194 rfl rfl rfl d_Main_firstOtherwise_4 ?_
    refine lv_icmp_ge (tgt := 45) hx hb d_Main_firstOtherwise_7 (by decide) (fun c_1 => ?_) (fun c_1 => ?_)
    · replace hF := ifT hF c_1
      refine lv_iconst (v := -1) hx hb d_Main_firstOtherwise_45 (by decide) ?_
      obtain ⟨hF, hG⟩ := sE2 hF
      subst hF
      subst hG
      exact r_iret K hw d_Main_firstOtherwise_46
    · replace hF := ifF hF c_1
      refine lv_aload_n hx hb d_Main_firstOtherwise_10 rfl (lv_at hl 0 rfl) ?_
      refine r_get (v := .ref (ad 41)) K hw i_Main (sh_Main (Nat.le_trans (Nat.le_of_ble_eq_true rfl) hn)) rfl 7 (by decide) w_605 rfl rfl rfl d_Main_firstOtherwise_11 ?_
      refine lv_iconst (v := 5) hx hb d_Main_firstOtherwise_14 (by decide) ?_
      refine lv_iload_n hx hb d_Main_firstOtherwise_15 rfl (lv_at hl 2 rfl) ?_
      refine lv_iconst (v := 1) hx hb d_Main_firstOtherwise_16 (by decide) ?_
      refine lv_iadd hx hb d_Main_firstOtherwise_17 ?_
      refine lv_imul hx hb d_Main_firstOtherwise_18 ?_
      obtain ⟨s_2, h_s_2, hF⟩ := ob1E hF
      refine r_callVV (As := [.int ((5 : Int32) * (v2 + (1 : Int32)))]) (rest := []) K hw hl.1 (c_Bout_playTo (l := l) (D := D) (cA := cA) (ad := ad) (s0 := s0) (Nat.le_trans (Nat.le_of_ble_eq_true rfl) hn)  h_s_2) (sh_Bout (Nat.le_trans (Nat.le_of_ble_eq_true rfl) hn)) rfl (tb_gV w_737 w_738 w_739 w_77 w_740) a_Bout_playTo ⟨rfl, rfl, Nat.le_of_ble_eq_true rfl, Nat.le_of_ble_eq_true rfl⟩ rfl rfl (Nat.le_of_ble_eq_true rfl) d_Main_firstOtherwise_19 (fun H locs hw => ?_)
      refine lv_aload_n hx hb d_Main_firstOtherwise_22 rfl (lv_at hl 0 rfl) ?_
      refine r_get (v := .ref (ad 41)) K hw i_Main (sh_Main (Nat.le_trans (Nat.le_of_ble_eq_true rfl) hn)) rfl 7 (by decide) w_605 rfl rfl rfl d_Main_firstOtherwise_23 ?_
      refine r_get (v := .int (s_2.1 41 3)) K hw i_Bout (sh_Bout (Nat.le_trans (Nat.le_of_ble_eq_true rfl) hn)) rfl 3 (by decide) w_540 rfl rfl rfl d_Main_firstOtherwise_26 ?_
      refine lv_aload_n hx hb d_Main_firstOtherwise_29 rfl (lv_at hl 1 rfl) ?_
      refine lv_iload_n hx hb d_Main_firstOtherwise_30 rfl (lv_at hl 2 rfl) ?_
      obtain ⟨r_3, h_r_3, hF⟩ := ob1E hF
      refine r_callVI (As := [.int v2]) (rest := [.int (s_2.1 41 3)]) K hw hl.1 (c_Sheet_at (l := l) (D := D) (cA := cA) (ad := ad) (s0 := s_2) (Nat.le_trans (Nat.le_of_ble_eq_true rfl) hn) g_v1 h_r_3) (sh_Sheet g_v1 (Nat.le_trans (Nat.le_of_ble_eq_true rfl) hn)) rfl (tb_gV w_881 w_882 w_883 w_67 w_884) a_Sheet_at ⟨rfl, rfl, Nat.le_of_ble_eq_true rfl, Nat.le_of_ble_eq_true rfl⟩ rfl rfl (Nat.le_of_ble_eq_true rfl) d_Main_firstOtherwise_31 (fun H locs hw => ?_)
      refine lv_icmp_eq (tgt := 39) hx hb d_Main_firstOtherwise_34 (by decide) (fun c_4 => ?_) (fun c_4 => ?_)
      · replace hF := ifT hF c_4
        refine lv_iinc (v := (v2 + 1)) (lv' := [(2, .int (v2 + 1)), (0, .ref (ad 20)), (1, .ref (ad v1))]) hx hb d_Main_firstOtherwise_39 hl (k := 2) rfl rfl (by decide) rfl (fun ls hl => ?_)
        refine lv_goto (tgt := 2) hx hb d_Main_firstOtherwise_42 (by decide) ?_
        exact ih _ _ _ _ _ _ g_v1 hw (lv_sub hl [1, 2, 0] rfl) hF
      · replace hF := ifF hF c_4
        refine lv_iload_n hx hb d_Main_firstOtherwise_37 rfl (lv_at hl 2 rfl) ?_
        obtain ⟨hF, hG⟩ := sE2 hF
        subst hF
        subst hG
        exact r_iret K hw d_Main_firstOtherwise_38
noncomputable def F_Main_firstOtherwise_0 (s0 : St) (v1 : Nat) : Option (Int32 × St) := (F_Main_firstOtherwise_2 FU s0 v1 (0 : Int32))
set_option maxHeartbeats 4000000 in
set_option maxRecDepth 100000 in
theorem q_Main_firstOtherwise_0 (hn : 46 ≤ nC) (K : Fx p s m args meth c b_Main_firstOtherwise 3 R_Main (some .int))  : ∀ (H : Heap) (locs : List Loc) (ls : Array Slot) (s0 : St) (v1 : Nat) (g_v1 : P_Sheet v1), Wh D cA ad (shC.take nC) A s s0 H locs → lv_has ls 3 [(0, .ref (ad 20)), (1, .ref (ad v1))] → F_Main_firstOtherwise_0 s0 v1 = (some (r, τ)) → W p l e rm_Main_firstOtherwise s m args below meth c H locs 0 0 (MQ below (QcI D cA ad (shC.take nC) A r τ) args s 0 0 A) (F0 m 0 ls []) := by
  have hx := K.1.1; have hb := K.1.2.1
  intro H locs ls s0 v1 g_v1 hw hl hF
  unfold F_Main_firstOtherwise_0 at hF
  refine lv_iconst (v := 0) hx hb d_Main_firstOtherwise_0 (by decide) ?_
  refine lv_istore_n (lv' := [(2, .int (0 : Int32)), (0, .ref (ad 20)), (1, .ref (ad v1))]) hx hb d_Main_firstOtherwise_1 rfl hl (by decide) rfl (fun ls hl => ?_)
  exact q_Main_firstOtherwise_2 hn K FU _ _ _ _ _ _ g_v1 hw (lv_sub hl [1, 2, 0] rfl) hF
end S_Main_firstOtherwise
noncomputable abbrev F_Main_firstOtherwise := F_Main_firstOtherwise_0
theorem c_Main_firstOtherwise {l : Launch} {D : va_G} {cA : Nat → ClassId} {ad : Nat → Nat} {s0 τ : St} {nC : Nat} (hn : 46 ≤ nC) {r : Int32} {v1 : Nat} (g_v1 : P_Sheet v1) (hF : F_Main_firstOtherwise s0 v1 = (some (r, τ))) : MI l D cA ad (shC.take nC) y_Main_firstOtherwise (wT y_Main_firstOtherwise b_Main_firstOtherwise 3 (some .int)) rm_Main_firstOtherwise [.ref (ad 20), .ref (ad v1)] s0 r τ := fun sz => m_start (Qc := fun A => QcI D cA ad (shC.take nC) A r τ) (by decide +kernel) w_880 (Nat.le_of_ble_eq_true rfl) (fun p e s m below meth c ls K hl hw => q_Main_firstOtherwise_0 hn K _ _ _ _ _ g_v1 hw hl hF)

/-! Main.isSheet(I)Z -/
abbrev b_Main_isSheet : ByteArray := prog_1_method_44_code
def y_Main_isSheet : MethodName := ⟨R_Main, "isSheet", "(I)Z"⟩
theorem a_Main_isSheet : y_Main_isSheet.cls = R_Main ∧ y_Main_isSheet.cls ≠ "java/lang/invoke/MethodHandle" ∧ y_Main_isSheet.cls ≠ "java/lang/invoke/VarHandle" ∧ (parseMethodDescriptor y_Main_isSheet.desc).map (fun d => d.parameters.length) = some 1 := by decide +kernel
abbrev rm_Main_isSheet : Room := { frames := 1, cells := 0, slots := 0, locals := 22 }
theorem w_876 : Cond.code y_Main_isSheet b_Main_isSheet 1 (some .boolean) ∈ TB := tb_in 876 (by decide +kernel) (by decide +kernel)
theorem d_Main_isSheet_0 : decode b_Main_isSheet 0 = .ok (.iload_n 0, 1) := by decide +kernel
theorem d_Main_isSheet_1 : decode b_Main_isSheet 1 = .ok (.iconst 0, 1) := by decide +kernel
theorem d_Main_isSheet_2 : decode b_Main_isSheet 2 = .ok (.iconst 3, 1) := by decide +kernel
theorem d_Main_isSheet_3 : decode b_Main_isSheet 3 = .ok (.invokestatic 108, 3) := by decide +kernel
theorem d_Main_isSheet_6 : decode b_Main_isSheet 6 = .ok (.ireturn, 1) := by decide +kernel
section S_Main_isSheet
variable {p : Program} {l : Launch} {e : Env} {s : State} {m : MethodId} {args : Array Value} {below : List Frame} {meth : Method} {c : Code} {D : va_G} {cA : Nat → ClassId} {ad : Nat → Nat} {nC : Nat} {A : Nat → Prop} {r : Int32} {τ : St}
noncomputable def F_Main_isSheet_0 (v0 : Int32) : Option Int32 := (if ((F_Main_isWithin v0 (0 : Int32) (3 : Int32)) = 0 ∨ (F_Main_isWithin v0 (0 : Int32) (3 : Int32)) = 1) then (some (F_Main_isWithin v0 (0 : Int32) (3 : Int32))) else none)
set_option maxHeartbeats 4000000 in
set_option maxRecDepth 100000 in
theorem q_Main_isSheet_0 (hn : 0 ≤ nC) (s0 : St) (K : Fx p s m args meth c b_Main_isSheet 1 R_Main (some .boolean))  : ∀ (H : Heap) (locs : List Loc) (ls : Array Slot) (v0 : Int32), Wh D cA ad (shC.take nC) A s s0 H locs → lv_has ls 1 [(0, .int v0)] → F_Main_isSheet_0 v0 = (some r) → W p l e rm_Main_isSheet s m args below meth c H locs 0 0 (MQ below (QcI D cA ad (shC.take nC) A r s0) args s 0 0 A) (F0 m 0 ls []) := by
  have hx := K.1.1; have hb := K.1.2.1
  intro H locs ls v0 hw hl hF
  unfold F_Main_isSheet_0 at hF
  refine lv_iload_n hx hb d_Main_isSheet_0 rfl (lv_at hl 0 rfl) ?_
  refine lv_iconst (v := 0) hx hb d_Main_isSheet_1 (by decide) ?_
  refine lv_iconst (v := 3) hx hb d_Main_isSheet_2 (by decide) ?_
  refine r_callSI (As := [.int v0, .int (0 : Int32), .int (3 : Int32)]) (rest := []) K hw hl.1 (c_Main_isWithin (l := l) (D := D) (cA := cA) (ad := ad) (s0 := s0) (Nat.le_trans (Nat.le_of_ble_eq_true rfl) hn)  rfl) (tb_gS w_640 w_347 w_63 w_348) a_Main_isWithin ⟨rfl, rfl, Nat.le_of_ble_eq_true rfl, Nat.le_of_ble_eq_true rfl⟩ rfl rfl (Nat.le_of_ble_eq_true rfl) d_Main_isSheet_3 (fun H locs hw => ?_)
  obtain ⟨g_1, hF⟩ := ifG hF
  replace hF := sE1 hF
  subst hF
  exact r_zret K hw (zN g_1) d_Main_isSheet_6
end S_Main_isSheet
noncomputable abbrev F_Main_isSheet := F_Main_isSheet_0
theorem c_Main_isSheet {l : Launch} {D : va_G} {cA : Nat → ClassId} {ad : Nat → Nat} {s0 : St} {nC : Nat} (hn : 0 ≤ nC) {r : Int32} {v0 : Int32}  (hF : F_Main_isSheet v0 = (some r)) : MI l D cA ad (shC.take nC) y_Main_isSheet (wT y_Main_isSheet b_Main_isSheet 1 (some .boolean)) rm_Main_isSheet [.int v0] s0 r s0 := fun sz => m_start (Qc := fun A => QcI D cA ad (shC.take nC) A r s0) (by decide +kernel) w_876 (Nat.le_of_ble_eq_true rfl) (fun p e s m below meth c ls K hl hw => q_Main_isSheet_0 hn s0 K _ _ _ _  hw hl hF)

/-! Main.refusalOfTold(I)I -/
abbrev b_Main_refusalOfTold : ByteArray := prog_1_method_51_code
def y_Main_refusalOfTold : MethodName := ⟨R_Main, "refusalOfTold", "(I)I"⟩
theorem a_Main_refusalOfTold : y_Main_refusalOfTold.cls = R_Main ∧ y_Main_refusalOfTold.cls ≠ "java/lang/invoke/MethodHandle" ∧ y_Main_refusalOfTold.cls ≠ "java/lang/invoke/VarHandle" ∧ (parseMethodDescriptor y_Main_refusalOfTold.desc).map (fun d => d.parameters.length) = some 1 := by decide +kernel
abbrev rm_Main_refusalOfTold : Room := { frames := 2, cells := 0, slots := 0, locals := 42 }
theorem w_874 : Cond.methodLink R_Main 255 y_Main_isSheet ∈ TB := tb_in 874 (by decide +kernel) (by decide +kernel)
theorem w_875 : Cond.static y_Main_isSheet ∈ TB := tb_in 875 (by decide +kernel) (by decide +kernel)
theorem w_607 : Cond.fieldLink R_Main 30 R_Main "sheets" "[LArmAgainstArm$Sheet;" ∈ TB := tb_in 607 (by decide +kernel) (by decide +kernel)
theorem w_192 : Cond.fieldLink R_Main 281 R_Sheet "sort" "I" ∈ TB := tb_in 192 (by decide +kernel) (by decide +kernel)
theorem w_873 : Cond.code y_Main_refusalOfTold b_Main_refusalOfTold 2 (some .int) ∈ TB := tb_in 873 (by decide +kernel) (by decide +kernel)
theorem d_Main_refusalOfTold_0 : decode b_Main_refusalOfTold 0 = .ok (.iload_n 1, 1) := by decide +kernel
theorem d_Main_refusalOfTold_1 : decode b_Main_refusalOfTold 1 = .ok (.invokestatic 255, 3) := by decide +kernel
theorem d_Main_refusalOfTold_4 : decode b_Main_refusalOfTold 4 = .ok (.ifCond .ne 6, 3) := by decide +kernel
theorem d_Main_refusalOfTold_7 : decode b_Main_refusalOfTold 7 = .ok (.bipush (-2), 2) := by decide +kernel
theorem d_Main_refusalOfTold_9 : decode b_Main_refusalOfTold 9 = .ok (.ireturn, 1) := by decide +kernel
theorem d_Main_refusalOfTold_10 : decode b_Main_refusalOfTold 10 = .ok (.aload_n 0, 1) := by decide +kernel
theorem d_Main_refusalOfTold_11 : decode b_Main_refusalOfTold 11 = .ok (.getfield 30, 3) := by decide +kernel
theorem d_Main_refusalOfTold_14 : decode b_Main_refusalOfTold 14 = .ok (.iload_n 1, 1) := by decide +kernel
theorem d_Main_refusalOfTold_15 : decode b_Main_refusalOfTold 15 = .ok (.aaload, 1) := by decide +kernel
theorem d_Main_refusalOfTold_16 : decode b_Main_refusalOfTold 16 = .ok (.getfield 281, 3) := by decide +kernel
theorem d_Main_refusalOfTold_19 : decode b_Main_refusalOfTold 19 = .ok (.iconst (-1), 1) := by decide +kernel
theorem d_Main_refusalOfTold_20 : decode b_Main_refusalOfTold 20 = .ok (.if_icmp .ne 6, 3) := by decide +kernel
theorem d_Main_refusalOfTold_23 : decode b_Main_refusalOfTold 23 = .ok (.bipush (-11), 2) := by decide +kernel
theorem d_Main_refusalOfTold_25 : decode b_Main_refusalOfTold 25 = .ok (.ireturn, 1) := by decide +kernel
theorem d_Main_refusalOfTold_26 : decode b_Main_refusalOfTold 26 = .ok (.aload_n 0, 1) := by decide +kernel
theorem d_Main_refusalOfTold_27 : decode b_Main_refusalOfTold 27 = .ok (.getfield 30, 3) := by decide +kernel
theorem d_Main_refusalOfTold_30 : decode b_Main_refusalOfTold 30 = .ok (.iload_n 1, 1) := by decide +kernel
theorem d_Main_refusalOfTold_31 : decode b_Main_refusalOfTold 31 = .ok (.aaload, 1) := by decide +kernel
theorem d_Main_refusalOfTold_32 : decode b_Main_refusalOfTold 32 = .ok (.getfield 309, 3) := by decide +kernel
theorem d_Main_refusalOfTold_35 : decode b_Main_refusalOfTold 35 = .ok (.bipush 8, 2) := by decide +kernel
theorem d_Main_refusalOfTold_37 : decode b_Main_refusalOfTold 37 = .ok (.if_icmp .le 8, 3) := by decide +kernel
theorem d_Main_refusalOfTold_40 : decode b_Main_refusalOfTold 40 = .ok (.bipush (-2), 2) := by decide +kernel
theorem d_Main_refusalOfTold_42 : decode b_Main_refusalOfTold 42 = .ok (.goto 4, 3) := by decide +kernel
theorem d_Main_refusalOfTold_45 : decode b_Main_refusalOfTold 45 = .ok (.iconst 0, 1) := by decide +kernel
theorem d_Main_refusalOfTold_46 : decode b_Main_refusalOfTold 46 = .ok (.ireturn, 1) := by decide +kernel
section S_Main_refusalOfTold
variable {p : Program} {l : Launch} {e : Env} {s : State} {m : MethodId} {args : Array Value} {below : List Frame} {meth : Method} {c : Code} {D : va_G} {cA : Nat → ClassId} {ad : Nat → Nat} {nC : Nat} {A : Nat → Prop} {r : Int32} {τ : St}
noncomputable def F_Main_refusalOfTold_0 (s0 : St) (v1 : Int32) : Option Int32 := (ob1 (F_Main_isSheet v1) (fun r_1 => (if ¬ r_1 = 0 then (if inB v1 4 = true then (if ¬ (s0.1 (33 + v1.toNatClampNeg) 1) = (-1 : Int32) then (if inB v1 4 = true then (if (s0.1 (33 + v1.toNatClampNeg) 2) ≤ (8 : Int32) then (some (0 : Int32)) else (some (-2 : Int32))) else none) else (some (-11 : Int32))) else none) else (some (-2 : Int32)))))
set_option maxHeartbeats 4000000 in
set_option maxRecDepth 100000 in
theorem q_Main_refusalOfTold_0 (hn : 37 ≤ nC) (s0 : St) (K : Fx p s m args meth c b_Main_refusalOfTold 2 R_Main (some .int))  : ∀ (H : Heap) (locs : List Loc) (ls : Array Slot) (v1 : Int32), Wh D cA ad (shC.take nC) A s s0 H locs → lv_has ls 2 [(0, .ref (ad 20)), (1, .int v1)] → F_Main_refusalOfTold_0 s0 v1 = (some r) → W p l e rm_Main_refusalOfTold s m args below meth c H locs 0 0 (MQ below (QcI D cA ad (shC.take nC) A r s0) args s 0 0 A) (F0 m 0 ls []) := by
  have hx := K.1.1; have hb := K.1.2.1
  intro H locs ls v1 hw hl hF
  unfold F_Main_refusalOfTold_0 at hF
  refine lv_iload_n hx hb d_Main_refusalOfTold_0 rfl (lv_at hl 1 rfl) ?_
  obtain ⟨r_1, h_r_1, hF⟩ := ob1E hF
  refine r_callSI (As := [.int v1]) (rest := []) K hw hl.1 (c_Main_isSheet (l := l) (D := D) (cA := cA) (ad := ad) (s0 := s0) (Nat.le_trans (Nat.le_of_ble_eq_true rfl) hn)  h_r_1) (tb_gS w_874 w_875 w_63 w_876) a_Main_isSheet ⟨rfl, rfl, Nat.le_of_ble_eq_true rfl, Nat.le_of_ble_eq_true rfl⟩ rfl rfl (Nat.le_of_ble_eq_true rfl) d_Main_refusalOfTold_1 (fun H locs hw => ?_)
  refine lv_if_ne (tgt := 10) hx hb d_Main_refusalOfTold_4 (by decide) (fun c_2 => ?_) (fun c_2 => ?_)
  · replace hF := ifT hF c_2
    refine lv_aload_n hx hb d_Main_refusalOfTold_10 rfl (lv_at hl 0 rfl) ?_
    refine r_get (v := .ref (ad 23)) K hw i_Main (sh_Main (Nat.le_trans (Nat.le_of_ble_eq_true rfl) hn)) rfl 9 (by decide) w_607 rfl rfl rfl d_Main_refusalOfTold_11 ?_
    refine lv_iload_n hx hb d_Main_refusalOfTold_14 rfl (lv_at hl 1 rfl) ?_
    obtain ⟨g_3, hF⟩ := ifG hF
    refine r_aald (k := v1.toNatClampNeg) K hw (sh_a23 (Nat.le_trans (Nat.le_of_ble_eq_true rfl) hn)) (rfl : (TYS cA)[3]? = some (cA 3, _)) rfl (inB_vp g_3) d_Main_refusalOfTold_15 ?_
    refine r_get (v := .int (s0.1 (33 + v1.toNatClampNeg) 1)) K hw i_Sheet (sh_Sheet (P_Sheet_of g_3) (Nat.le_trans (Nat.le_of_ble_eq_true rfl) hn)) rfl 1 (by decide) w_192 rfl rfl rfl d_Main_refusalOfTold_16 ?_
    refine lv_iconst (v := -1) hx hb d_Main_refusalOfTold_19 (by decide) ?_
    refine lv_icmp_ne (tgt := 26) hx hb d_Main_refusalOfTold_20 (by decide) (fun c_4 => ?_) (fun c_4 => ?_)
    · replace hF := ifT hF c_4
      refine lv_aload_n hx hb d_Main_refusalOfTold_26 rfl (lv_at hl 0 rfl) ?_
      refine r_get (v := .ref (ad 23)) K hw i_Main (sh_Main (Nat.le_trans (Nat.le_of_ble_eq_true rfl) hn)) rfl 9 (by decide) w_607 rfl rfl rfl d_Main_refusalOfTold_27 ?_
      refine lv_iload_n hx hb d_Main_refusalOfTold_30 rfl (lv_at hl 1 rfl) ?_
      obtain ⟨g_5, hF⟩ := ifG hF
      refine r_aald (k := v1.toNatClampNeg) K hw (sh_a23 (Nat.le_trans (Nat.le_of_ble_eq_true rfl) hn)) (rfl : (TYS cA)[3]? = some (cA 3, _)) rfl (inB_vp g_5) d_Main_refusalOfTold_31 ?_
      refine r_get (v := .int (s0.1 (33 + v1.toNatClampNeg) 2)) K hw i_Sheet (sh_Sheet (P_Sheet_of g_5) (Nat.le_trans (Nat.le_of_ble_eq_true rfl) hn)) rfl 2 (by decide) w_194 rfl rfl rfl d_Main_refusalOfTold_32 ?_
      refine lv_bipush (v := 8) hx hb d_Main_refusalOfTold_35 (by decide) ?_
      refine lv_icmp_le (tgt := 45) hx hb d_Main_refusalOfTold_37 (by decide) (fun c_6 => ?_) (fun c_6 => ?_)
      · replace hF := ifT hF c_6
        refine lv_iconst (v := 0) hx hb d_Main_refusalOfTold_45 (by decide) ?_
        replace hF := sE1 hF
        subst hF
        exact r_iret K hw d_Main_refusalOfTold_46
      · replace hF := ifF hF c_6
        refine lv_bipush (v := -2) hx hb d_Main_refusalOfTold_40 (by decide) ?_
        refine lv_goto (tgt := 46) hx hb d_Main_refusalOfTold_42 (by decide) ?_
        replace hF := sE1 hF
        subst hF
        exact r_iret K hw d_Main_refusalOfTold_46
    · replace hF := ifN hF c_4
      refine lv_bipush (v := -11) hx hb d_Main_refusalOfTold_23 (by decide) ?_
      replace hF := sE1 hF
      subst hF
      exact r_iret K hw d_Main_refusalOfTold_25
  · replace hF := ifN hF c_2
    refine lv_bipush (v := -2) hx hb d_Main_refusalOfTold_7 (by decide) ?_
    replace hF := sE1 hF
    subst hF
    exact r_iret K hw d_Main_refusalOfTold_9
end S_Main_refusalOfTold
noncomputable abbrev F_Main_refusalOfTold := F_Main_refusalOfTold_0
theorem c_Main_refusalOfTold {l : Launch} {D : va_G} {cA : Nat → ClassId} {ad : Nat → Nat} {s0 : St} {nC : Nat} (hn : 37 ≤ nC) {r : Int32} {v1 : Int32}  (hF : F_Main_refusalOfTold s0 v1 = (some r)) : MI l D cA ad (shC.take nC) y_Main_refusalOfTold (wT y_Main_refusalOfTold b_Main_refusalOfTold 2 (some .int)) rm_Main_refusalOfTold [.ref (ad 20), .int v1] s0 r s0 := fun sz => m_start (Qc := fun A => QcI D cA ad (shC.take nC) A r s0) (by decide +kernel) w_873 (Nat.le_of_ble_eq_true rfl) (fun p e s m below meth c ls K hl hw => q_Main_refusalOfTold_0 hn s0 K _ _ _ _  hw hl hF)

/-! Main.judge(III)I -/
abbrev b_Main_judge : ByteArray := prog_1_method_21_code
def y_Main_judge : MethodName := ⟨R_Main, "judge", "(III)I"⟩
theorem a_Main_judge : y_Main_judge.cls = R_Main ∧ y_Main_judge.cls ≠ "java/lang/invoke/MethodHandle" ∧ y_Main_judge.cls ≠ "java/lang/invoke/VarHandle" ∧ (parseMethodDescriptor y_Main_judge.desc).map (fun d => d.parameters.length) = some 3 := by decide +kernel
abbrev rm_Main_judge : Room := { frames := 6, cells := 0, slots := 0, locals := 138 }
theorem w_870 : Cond.methodLink R_Main 245 y_Main_refusalOfTold ∈ TB := tb_in 870 (by decide +kernel) (by decide +kernel)
theorem w_872 : Cond.instanceMethod y_Main_refusalOfTold ∈ TB := tb_in 872 (by decide +kernel) (by decide +kernel)
theorem w_27 : Cond.selects R_Main y_Main_refusalOfTold y_Main_refusalOfTold ∈ TB := tb_in 27 (by decide +kernel) (by decide +kernel)
theorem w_877 : Cond.methodLink R_Main 248 y_Main_firstOtherwise ∈ TB := tb_in 877 (by decide +kernel) (by decide +kernel)
theorem w_879 : Cond.instanceMethod y_Main_firstOtherwise ∈ TB := tb_in 879 (by decide +kernel) (by decide +kernel)
theorem w_28 : Cond.selects R_Main y_Main_firstOtherwise y_Main_firstOtherwise ∈ TB := tb_in 28 (by decide +kernel) (by decide +kernel)
theorem w_869 : Cond.code y_Main_judge b_Main_judge 5 (some .int) ∈ TB := tb_in 869 (by decide +kernel) (by decide +kernel)
theorem d_Main_judge_0 : decode b_Main_judge 0 = .ok (.aload_n 0, 1) := by decide +kernel
theorem d_Main_judge_1 : decode b_Main_judge 1 = .ok (.iload_n 1, 1) := by decide +kernel
theorem d_Main_judge_2 : decode b_Main_judge 2 = .ok (.invokevirtual 245, 3) := by decide +kernel
theorem d_Main_judge_5 : decode b_Main_judge 5 = .ok (.istore 4, 2) := by decide +kernel
theorem d_Main_judge_7 : decode b_Main_judge 7 = .ok (.iload 4, 2) := by decide +kernel
theorem d_Main_judge_9 : decode b_Main_judge 9 = .ok (.ifCond .eq 6, 3) := by decide +kernel
theorem d_Main_judge_12 : decode b_Main_judge 12 = .ok (.iload 4, 2) := by decide +kernel
theorem d_Main_judge_14 : decode b_Main_judge 14 = .ok (.ireturn, 1) := by decide +kernel
theorem d_Main_judge_15 : decode b_Main_judge 15 = .ok (.aload_n 0, 1) := by decide +kernel
theorem d_Main_judge_16 : decode b_Main_judge 16 = .ok (.iload_n 2, 1) := by decide +kernel
theorem d_Main_judge_17 : decode b_Main_judge 17 = .ok (.iload_n 3, 1) := by decide +kernel
theorem d_Main_judge_18 : decode b_Main_judge 18 = .ok (.invokevirtual 194, 3) := by decide +kernel
theorem d_Main_judge_21 : decode b_Main_judge 21 = .ok (.ifCond .ne 6, 3) := by decide +kernel
theorem d_Main_judge_24 : decode b_Main_judge 24 = .ok (.bipush (-5), 2) := by decide +kernel
theorem d_Main_judge_26 : decode b_Main_judge 26 = .ok (.ireturn, 1) := by decide +kernel
theorem d_Main_judge_27 : decode b_Main_judge 27 = .ok (.aload_n 0, 1) := by decide +kernel
theorem d_Main_judge_28 : decode b_Main_judge 28 = .ok (.iload_n 2, 1) := by decide +kernel
theorem d_Main_judge_29 : decode b_Main_judge 29 = .ok (.iload_n 3, 1) := by decide +kernel
theorem d_Main_judge_30 : decode b_Main_judge 30 = .ok (.invokevirtual 174, 3) := by decide +kernel
theorem d_Main_judge_33 : decode b_Main_judge 33 = .ok (.aload_n 0, 1) := by decide +kernel
theorem d_Main_judge_34 : decode b_Main_judge 34 = .ok (.aload_n 0, 1) := by decide +kernel
theorem d_Main_judge_35 : decode b_Main_judge 35 = .ok (.getfield 30, 3) := by decide +kernel
theorem d_Main_judge_38 : decode b_Main_judge 38 = .ok (.iload_n 1, 1) := by decide +kernel
theorem d_Main_judge_39 : decode b_Main_judge 39 = .ok (.aaload, 1) := by decide +kernel
theorem d_Main_judge_40 : decode b_Main_judge 40 = .ok (.invokevirtual 248, 3) := by decide +kernel
theorem d_Main_judge_43 : decode b_Main_judge 43 = .ok (.ireturn, 1) := by decide +kernel
section S_Main_judge
variable {p : Program} {l : Launch} {e : Env} {s : State} {m : MethodId} {args : Array Value} {below : List Frame} {meth : Method} {c : Code} {D : va_G} {cA : Nat → ClassId} {ad : Nat → Nat} {nC : Nat} {A : Nat → Prop} {r : Int32} {τ : St}
noncomputable def F_Main_judge_0 (s0 : St) (v1 : Int32) (v2 : Int32) (v3 : Int32) : Option (Int32 × St) := (ob1 (F_Main_refusalOfTold s0 v1) (fun r_1 => (if r_1 = 0 then (ob1 (F_Main_areTwo s0 v2 v3) (fun r_3 => (if ¬ r_3 = 0 then (ob1 (F_Main_opn s0 v2 v3) (fun s_5 => (if inB v1 4 = true then (ob2 (F_Main_firstOtherwise s_5 (33 + v1.toNatClampNeg)) (fun r_7 s_8 => (some (r_7, s_8)))) else none))) else (some ((-5 : Int32), s0))))) else (some (r_1, s0)))))
set_option maxHeartbeats 4000000 in
set_option maxRecDepth 100000 in
theorem q_Main_judge_0 (hn : 46 ≤ nC) (K : Fx p s m args meth c b_Main_judge 5 R_Main (some .int))  : ∀ (H : Heap) (locs : List Loc) (ls : Array Slot) (s0 : St) (v1 : Int32) (v2 : Int32) (v3 : Int32), Wh D cA ad (shC.take nC) A s s0 H locs → lv_has ls 5 [(0, .ref (ad 20)), (1, .int v1), (2, .int v2), (3, .int v3)] → F_Main_judge_0 s0 v1 v2 v3 = (some (r, τ)) → W p l e rm_Main_judge s m args below meth c H locs 0 0 (MQ below (QcI D cA ad (shC.take nC) A r τ) args s 0 0 A) (F0 m 0 ls []) := by
  have hx := K.1.1; have hb := K.1.2.1
  intro H locs ls s0 v1 v2 v3 hw hl hF
  unfold F_Main_judge_0 at hF
  refine lv_aload_n hx hb d_Main_judge_0 rfl (lv_at hl 0 rfl) ?_
  refine lv_iload_n hx hb d_Main_judge_1 rfl (lv_at hl 1 rfl) ?_
  obtain ⟨r_1, h_r_1, hF⟩ := ob1E hF
  refine r_callVI (As := [.int v1]) (rest := []) K hw hl.1 (c_Main_refusalOfTold (l := l) (D := D) (cA := cA) (ad := ad) (s0 := s0) (Nat.le_trans (Nat.le_of_ble_eq_true rfl) hn)  h_r_1) (sh_Main (Nat.le_trans (Nat.le_of_ble_eq_true rfl) hn)) rfl (tb_gV w_870 w_872 w_27 w_63 w_873) a_Main_refusalOfTold ⟨rfl, rfl, Nat.le_of_ble_eq_true rfl, Nat.le_of_ble_eq_true rfl⟩ rfl rfl (Nat.le_of_ble_eq_true rfl) d_Main_judge_2 (fun H locs hw => ?_)
  refine lv_istore (lv' := [(4, .int r_1), (0, .ref (ad 20)), (1, .int v1), (2, .int v2), (3, .int v3)]) hx hb d_Main_judge_5 hl (by decide) rfl (fun ls hl => ?_)
  refine lv_iload hx hb d_Main_judge_7 (lv_at hl 0 rfl) ?_
  refine lv_if_eq (tgt := 15) hx hb d_Main_judge_9 (by decide) (fun c_2 => ?_) (fun c_2 => ?_)
  · replace hF := ifT hF c_2
    refine lv_aload_n hx hb d_Main_judge_15 rfl (lv_at hl 1 rfl) ?_
    refine lv_iload_n hx hb d_Main_judge_16 rfl (lv_at hl 3 rfl) ?_
    refine lv_iload_n hx hb d_Main_judge_17 rfl (lv_at hl 4 rfl) ?_
    obtain ⟨r_3, h_r_3, hF⟩ := ob1E hF
    refine r_callVI (As := [.int v2, .int v3]) (rest := []) K hw hl.1 (c_Main_areTwo (l := l) (D := D) (cA := cA) (ad := ad) (s0 := s0) (Nat.le_trans (Nat.le_of_ble_eq_true rfl) hn)  h_r_3) (sh_Main (Nat.le_trans (Nat.le_of_ble_eq_true rfl) hn)) rfl (tb_gV w_724 w_726 w_17 w_63 w_727) a_Main_areTwo ⟨rfl, rfl, Nat.le_of_ble_eq_true rfl, Nat.le_of_ble_eq_true rfl⟩ rfl rfl (Nat.le_of_ble_eq_true rfl) d_Main_judge_18 (fun H locs hw => ?_)
    refine lv_if_ne (tgt := 27) hx hb d_Main_judge_21 (by decide) (fun c_4 => ?_) (fun c_4 => ?_)
    · replace hF := ifT hF c_4
      refine lv_aload_n hx hb d_Main_judge_27 rfl (lv_at hl 1 rfl) ?_
      refine lv_iload_n hx hb d_Main_judge_28 rfl (lv_at hl 3 rfl) ?_
      refine lv_iload_n hx hb d_Main_judge_29 rfl (lv_at hl 4 rfl) ?_
      obtain ⟨s_5, h_s_5, hF⟩ := ob1E hF
      refine r_callVV (As := [.int v2, .int v3]) (rest := []) K hw hl.1 (c_Main_opn (l := l) (D := D) (cA := cA) (ad := ad) (s0 := s0) (Nat.le_trans (Nat.le_of_ble_eq_true rfl) hn)  h_s_5) (sh_Main (Nat.le_trans (Nat.le_of_ble_eq_true rfl) hn)) rfl (tb_gV w_728 w_730 w_18 w_63 w_731) a_Main_opn ⟨rfl, rfl, Nat.le_of_ble_eq_true rfl, Nat.le_of_ble_eq_true rfl⟩ rfl rfl (Nat.le_of_ble_eq_true rfl) d_Main_judge_30 (fun H locs hw => ?_)
      refine lv_aload_n hx hb d_Main_judge_33 rfl (lv_at hl 1 rfl) ?_
      refine lv_aload_n hx hb d_Main_judge_34 rfl (lv_at hl 1 rfl) ?_
      refine r_get (v := .ref (ad 23)) K hw i_Main (sh_Main (Nat.le_trans (Nat.le_of_ble_eq_true rfl) hn)) rfl 9 (by decide) w_607 rfl rfl rfl d_Main_judge_35 ?_
      refine lv_iload_n hx hb d_Main_judge_38 rfl (lv_at hl 2 rfl) ?_
      obtain ⟨g_6, hF⟩ := ifG hF
      refine r_aald (k := v1.toNatClampNeg) K hw (sh_a23 (Nat.le_trans (Nat.le_of_ble_eq_true rfl) hn)) (rfl : (TYS cA)[3]? = some (cA 3, _)) rfl (inB_vp g_6) d_Main_judge_39 ?_
      obtain ⟨r_7, s_8, h_s_8, hF⟩ := ob2E hF
      refine r_callVI (As := [.ref (ad (33 + v1.toNatClampNeg))]) (rest := []) K hw hl.1 (c_Main_firstOtherwise (l := l) (D := D) (cA := cA) (ad := ad) (s0 := s_5) (Nat.le_trans (Nat.le_of_ble_eq_true rfl) hn) (P_Sheet_of g_6) h_s_8) (sh_Main (Nat.le_trans (Nat.le_of_ble_eq_true rfl) hn)) rfl (tb_gV w_877 w_879 w_28 w_63 w_880) a_Main_firstOtherwise ⟨rfl, rfl, Nat.le_of_ble_eq_true rfl, Nat.le_of_ble_eq_true rfl⟩ rfl rfl (Nat.le_of_ble_eq_true rfl) d_Main_judge_40 (fun H locs hw => ?_)
      obtain ⟨hF, hG⟩ := sE2 hF
      subst hF
      subst hG
      exact r_iret K hw d_Main_judge_43
    · replace hF := ifN hF c_4
      refine lv_bipush (v := -5) hx hb d_Main_judge_24 (by decide) ?_
      obtain ⟨hF, hG⟩ := sE2 hF
      subst hF
      subst hG
      exact r_iret K hw d_Main_judge_26
  · replace hF := ifF hF c_2
    refine lv_iload hx hb d_Main_judge_12 (lv_at hl 0 rfl) ?_
    obtain ⟨hF, hG⟩ := sE2 hF
    subst hF
    subst hG
    exact r_iret K hw d_Main_judge_14
end S_Main_judge
noncomputable abbrev F_Main_judge := F_Main_judge_0
theorem c_Main_judge {l : Launch} {D : va_G} {cA : Nat → ClassId} {ad : Nat → Nat} {s0 τ : St} {nC : Nat} (hn : 46 ≤ nC) {r : Int32} {v1 : Int32} {v2 : Int32} {v3 : Int32}  (hF : F_Main_judge s0 v1 v2 v3 = (some (r, τ))) : MI l D cA ad (shC.take nC) y_Main_judge (wT y_Main_judge b_Main_judge 5 (some .int)) rm_Main_judge [.ref (ad 20), .int v1, .int v2, .int v3] s0 r τ := fun sz => m_start (Qc := fun A => QcI D cA ad (shC.take nC) A r τ) (by decide +kernel) w_869 (Nat.le_of_ble_eq_true rfl) (fun p e s m below meth c ls K hl hw => q_Main_judge_0 hn K _ _ _ _ _ _ _  hw hl hF)

/-! Main.left(III)I -/
abbrev b_Main_left : ByteArray := prog_1_method_22_code
def y_Main_left : MethodName := ⟨R_Main, "left", "(III)I"⟩
theorem a_Main_left : y_Main_left.cls = R_Main ∧ y_Main_left.cls ≠ "java/lang/invoke/MethodHandle" ∧ y_Main_left.cls ≠ "java/lang/invoke/VarHandle" ∧ (parseMethodDescriptor y_Main_left.desc).map (fun d => d.parameters.length) = some 3 := by decide +kernel
abbrev rm_Main_left : Room := { frames := 6, cells := 0, slots := 0, locals := 138 }
theorem w_893 : Cond.code y_Main_left b_Main_left 7 (some .int) ∈ TB := tb_in 893 (by decide +kernel) (by decide +kernel)
theorem d_Main_left_0 : decode b_Main_left 0 = .ok (.aload_n 0, 1) := by decide +kernel
theorem d_Main_left_1 : decode b_Main_left 1 = .ok (.iload_n 1, 1) := by decide +kernel
theorem d_Main_left_2 : decode b_Main_left 2 = .ok (.invokevirtual 245, 3) := by decide +kernel
theorem d_Main_left_5 : decode b_Main_left 5 = .ok (.istore 4, 2) := by decide +kernel
theorem d_Main_left_7 : decode b_Main_left 7 = .ok (.iload 4, 2) := by decide +kernel
theorem d_Main_left_9 : decode b_Main_left 9 = .ok (.ifCond .eq 6, 3) := by decide +kernel
theorem d_Main_left_12 : decode b_Main_left 12 = .ok (.iload 4, 2) := by decide +kernel
theorem d_Main_left_14 : decode b_Main_left 14 = .ok (.ireturn, 1) := by decide +kernel
theorem d_Main_left_15 : decode b_Main_left 15 = .ok (.aload_n 0, 1) := by decide +kernel
theorem d_Main_left_16 : decode b_Main_left 16 = .ok (.iload_n 2, 1) := by decide +kernel
theorem d_Main_left_17 : decode b_Main_left 17 = .ok (.iload_n 3, 1) := by decide +kernel
theorem d_Main_left_18 : decode b_Main_left 18 = .ok (.invokevirtual 194, 3) := by decide +kernel
theorem d_Main_left_21 : decode b_Main_left 21 = .ok (.ifCond .ne 6, 3) := by decide +kernel
theorem d_Main_left_24 : decode b_Main_left 24 = .ok (.bipush (-5), 2) := by decide +kernel
theorem d_Main_left_26 : decode b_Main_left 26 = .ok (.ireturn, 1) := by decide +kernel
theorem d_Main_left_27 : decode b_Main_left 27 = .ok (.iconst 0, 1) := by decide +kernel
theorem d_Main_left_28 : decode b_Main_left 28 = .ok (.istore 5, 2) := by decide +kernel
theorem d_Main_left_30 : decode b_Main_left 30 = .ok (.iconst 0, 1) := by decide +kernel
theorem d_Main_left_31 : decode b_Main_left 31 = .ok (.istore 6, 2) := by decide +kernel
theorem d_Main_left_33 : decode b_Main_left 33 = .ok (.iload 6, 2) := by decide +kernel
theorem d_Main_left_35 : decode b_Main_left 35 = .ok (.bipush 24, 2) := by decide +kernel
theorem d_Main_left_37 : decode b_Main_left 37 = .ok (.if_icmp .gt 50, 3) := by decide +kernel
theorem d_Main_left_40 : decode b_Main_left 40 = .ok (.aload_n 0, 1) := by decide +kernel
theorem d_Main_left_41 : decode b_Main_left 41 = .ok (.iload_n 2, 1) := by decide +kernel
theorem d_Main_left_42 : decode b_Main_left 42 = .ok (.iload_n 3, 1) := by decide +kernel
theorem d_Main_left_43 : decode b_Main_left 43 = .ok (.invokevirtual 174, 3) := by decide +kernel
theorem d_Main_left_46 : decode b_Main_left 46 = .ok (.aload_n 0, 1) := by decide +kernel
theorem d_Main_left_47 : decode b_Main_left 47 = .ok (.getfield 86, 3) := by decide +kernel
theorem d_Main_left_50 : decode b_Main_left 50 = .ok (.getfield 188, 3) := by decide +kernel
theorem d_Main_left_53 : decode b_Main_left 53 = .ok (.iload 6, 2) := by decide +kernel
theorem d_Main_left_55 : decode b_Main_left 55 = .ok (.putfield 133, 3) := by decide +kernel
theorem d_Main_left_58 : decode b_Main_left 58 = .ok (.aload_n 0, 1) := by decide +kernel
theorem d_Main_left_59 : decode b_Main_left 59 = .ok (.aload_n 0, 1) := by decide +kernel
theorem d_Main_left_60 : decode b_Main_left 60 = .ok (.getfield 30, 3) := by decide +kernel
theorem d_Main_left_63 : decode b_Main_left 63 = .ok (.iload_n 1, 1) := by decide +kernel
theorem d_Main_left_64 : decode b_Main_left 64 = .ok (.aaload, 1) := by decide +kernel
theorem d_Main_left_65 : decode b_Main_left 65 = .ok (.invokevirtual 248, 3) := by decide +kernel
theorem d_Main_left_68 : decode b_Main_left 68 = .ok (.iconst (-1), 1) := by decide +kernel
theorem d_Main_left_69 : decode b_Main_left 69 = .ok (.if_icmp .ne 12, 3) := by decide +kernel
theorem d_Main_left_72 : decode b_Main_left 72 = .ok (.iload 5, 2) := by decide +kernel
theorem d_Main_left_74 : decode b_Main_left 74 = .ok (.iconst 1, 1) := by decide +kernel
theorem d_Main_left_75 : decode b_Main_left 75 = .ok (.iload 6, 2) := by decide +kernel
theorem d_Main_left_77 : decode b_Main_left 77 = .ok (.ishl, 1) := by decide +kernel
theorem d_Main_left_78 : decode b_Main_left 78 = .ok (.ior, 1) := by decide +kernel
theorem d_Main_left_79 : decode b_Main_left 79 = .ok (.istore 5, 2) := by decide +kernel
theorem d_Main_left_81 : decode b_Main_left 81 = .ok (.iinc 6 1, 3) := by decide +kernel
theorem d_Main_left_84 : decode b_Main_left 84 = .ok (.goto (-51), 3) := by decide +kernel
theorem d_Main_left_87 : decode b_Main_left 87 = .ok (.iload 5, 2) := by decide +kernel
theorem d_Main_left_89 : decode b_Main_left 89 = .ok (.ireturn, 1) := by decide +kernel
section S_Main_left
variable {p : Program} {l : Launch} {e : Env} {s : State} {m : MethodId} {args : Array Value} {below : List Frame} {meth : Method} {c : Code} {D : va_G} {cA : Nat → ClassId} {ad : Nat → Nat} {nC : Nat} {A : Nat → Prop} {r : Int32} {τ : St}
noncomputable def F_Main_left_81 (k19 : (St → Int32 → Int32 → Int32 → Int32 → Int32 → Option (Int32 × St))) (s0 : St) (v1 : Int32) (v2 : Int32) (v3 : Int32) (v5 : Int32) (v6 : Int32) : Option (Int32 × St) := (k19 s0 v1 v2 v3 v5 (v6 + 1))
set_option maxHeartbeats 4000000 in
set_option maxRecDepth 100000 in
theorem q_Main_left_81 (hn : 46 ≤ nC) (K : Fx p s m args meth c b_Main_left 7 R_Main (some .int)) (k19 : (St → Int32 → Int32 → Int32 → Int32 → Int32 → Option (Int32 × St))) (hk19 : ∀ (H : Heap) (locs : List Loc) (ls : Array Slot) (s0 : St) (v1 : Int32) (v2 : Int32) (v3 : Int32) (v5 : Int32) (v6 : Int32), Wh D cA ad (shC.take nC) A s s0 H locs → lv_has ls 7 [(0, .ref (ad 20)), (1, .int v1), (2, .int v2), (3, .int v3), (5, .int v5), (6, .int v6)] → k19 s0 v1 v2 v3 v5 v6 = (some (r, τ)) → W p l e rm_Main_left s m args below meth c H locs 0 0 (MQ below (QcI D cA ad (shC.take nC) A r τ) args s 0 0 A) (F0 m 33 ls [])) : ∀ (H : Heap) (locs : List Loc) (ls : Array Slot) (s0 : St) (v1 : Int32) (v2 : Int32) (v3 : Int32) (v5 : Int32) (v6 : Int32), Wh D cA ad (shC.take nC) A s s0 H locs → lv_has ls 7 [(0, .ref (ad 20)), (1, .int v1), (2, .int v2), (3, .int v3), (5, .int v5), (6, .int v6)] → F_Main_left_81 k19 s0 v1 v2 v3 v5 v6 = (some (r, τ)) → W p l e rm_Main_left s m args below meth c H locs 0 0 (MQ below (QcI D cA ad (shC.take nC) A r τ) args s 0 0 A) (F0 m 81 ls []) := by
  have hx := K.1.1; have hb := K.1.2.1
  intro H locs ls s0 v1 v2 v3 v5 v6 hw hl hF
  unfold F_Main_left_81 at hF
  refine lv_iinc (v := (v6 + 1)) (lv' := [(6, .int (v6 + 1)), (0, .ref (ad 20)), (1, .int v1), (2, .int v2), (3, .int v3), (5, .int v5)]) hx hb d_Main_left_81 hl (k := 5) rfl rfl (by decide) rfl (fun ls hl => ?_)
  refine lv_goto (tgt := 33) hx hb d_Main_left_84 (by decide) ?_
  exact hk19 _ _ _ _ _ _ _ _ _  hw (lv_sub hl [1, 2, 3, 4, 5, 0] rfl) hF
noncomputable def F_Main_left_33 : Nat → St → Int32 → Int32 → Int32 → Int32 → Int32 → Option (Int32 × St)
  | 0, _, _, _, _, _, _ => none
  | n + 1, s0, v1, v2, v3, v5, v6 => (if (24 : Int32) < v6 then (some (v5, s0)) else (ob1 (F_Main_opn s0 v2 v3) (fun s_6 => (lt (up1 s_6 44 1 v6) (fun s_7 => (if inB v1 4 = true then (ob2 (F_Main_firstOtherwise s_7 (33 + v1.toNatClampNeg)) (fun r_9 s_10 => (if ¬ r_9 = (-1 : Int32) then (F_Main_left_81 (fun z0 zv1 zv2 zv3 zv5 zv6 => F_Main_left_33 n z0 zv1 zv2 zv3 zv5 zv6) s_10 v1 v2 v3 v5 v6) else (F_Main_left_81 (fun z0 zv1 zv2 zv3 zv5 zv6 => F_Main_left_33 n z0 zv1 zv2 zv3 zv5 zv6) s_10 v1 v2 v3 (v5 ||| (jshl (1 : Int32) v6)) v6)))) else none))))))
set_option maxHeartbeats 4000000 in
set_option maxRecDepth 100000 in
theorem q_Main_left_33 (hn : 46 ≤ nC) (K : Fx p s m args meth c b_Main_left 7 R_Main (some .int))  : ∀ (n : Nat), ∀ (H : Heap) (locs : List Loc) (ls : Array Slot) (s0 : St) (v1 : Int32) (v2 : Int32) (v3 : Int32) (v5 : Int32) (v6 : Int32), Wh D cA ad (shC.take nC) A s s0 H locs → lv_has ls 7 [(0, .ref (ad 20)), (1, .int v1), (2, .int v2), (3, .int v3), (5, .int v5), (6, .int v6)] → F_Main_left_33 n s0 v1 v2 v3 v5 v6 = (some (r, τ)) → W p l e rm_Main_left s m args below meth c H locs 0 0 (MQ below (QcI D cA ad (shC.take nC) A r τ) args s 0 0 A) (F0 m 33 ls []) := by
  have hx := K.1.1; have hb := K.1.2.1
  intro n
  induction n with
  | zero =>
    intro H locs ls s0 v1 v2 v3 v5 v6 hw hl hF
    exact absurd hF (by rw [F_Main_left_33]; exact nofun)
  | succ n ih =>
    intro H locs ls s0 v1 v2 v3 v5 v6 hw hl hF
    rw [F_Main_left_33] at hF
    refine lv_iload hx hb d_Main_left_33 (lv_at hl 5 rfl) ?_
    refine lv_bipush (v := 24) hx hb d_Main_left_35 (by decide) ?_
    refine lv_icmp_gt (tgt := 87) hx hb d_Main_left_37 (by decide) (fun c_5 => ?_) (fun c_5 => ?_)
    · replace hF := ifT hF c_5
      refine lv_iload hx hb d_Main_left_87 (lv_at hl 4 rfl) ?_
      obtain ⟨hF, hG⟩ := sE2 hF
      subst hF
      subst hG
      exact r_iret K hw d_Main_left_89
    · replace hF := ifF hF c_5
      refine lv_aload_n hx hb d_Main_left_40 rfl (lv_at hl 0 rfl) ?_
      refine lv_iload_n hx hb d_Main_left_41 rfl (lv_at hl 2 rfl) ?_
      refine lv_iload_n hx hb d_Main_left_42 rfl (lv_at hl 3 rfl) ?_
      obtain ⟨s_6, h_s_6, hF⟩ := ob1E hF
      refine r_callVV (As := [.int v2, .int v3]) (rest := []) K hw hl.1 (c_Main_opn (l := l) (D := D) (cA := cA) (ad := ad) (s0 := s0) (Nat.le_trans (Nat.le_of_ble_eq_true rfl) hn)  h_s_6) (sh_Main (Nat.le_trans (Nat.le_of_ble_eq_true rfl) hn)) rfl (tb_gV w_728 w_730 w_18 w_63 w_731) a_Main_opn ⟨rfl, rfl, Nat.le_of_ble_eq_true rfl, Nat.le_of_ble_eq_true rfl⟩ rfl rfl (Nat.le_of_ble_eq_true rfl) d_Main_left_43 (fun H locs hw => ?_)
      refine lv_aload_n hx hb d_Main_left_46 rfl (lv_at hl 0 rfl) ?_
      refine r_get (v := .ref (ad 41)) K hw i_Main (sh_Main (Nat.le_trans (Nat.le_of_ble_eq_true rfl) hn)) rfl 7 (by decide) w_605 rfl rfl rfl d_Main_left_47 ?_
      refine r_get (v := .ref (ad 44)) K hw i_Bout (sh_Bout (Nat.le_trans (Nat.le_of_ble_eq_true rfl) hn)) rfl 1 (by decide) w_535 rfl rfl rfl d_Main_left_50 ?_
      refine lv_iload hx hb d_Main_left_53 (lv_at hl 5 rfl) ?_
      refine r_putI K hw i_Side t_Side t_Side_ok n_Side (sh_Side (by decide) (Nat.le_trans (Nat.le_of_ble_eq_true rfl) hn)) rfl 1 (by decide) w_513 rfl rfl rfl rfl rfl d_Main_left_55 (fun s_7 f_s_7 H locs hw => ?_)
      replace hF := ltN hF f_s_7
      refine lv_aload_n hx hb d_Main_left_58 rfl (lv_at hl 0 rfl) ?_
      refine lv_aload_n hx hb d_Main_left_59 rfl (lv_at hl 0 rfl) ?_
      refine r_get (v := .ref (ad 23)) K hw i_Main (sh_Main (Nat.le_trans (Nat.le_of_ble_eq_true rfl) hn)) rfl 9 (by decide) w_607 rfl rfl rfl d_Main_left_60 ?_
      refine lv_iload_n hx hb d_Main_left_63 rfl (lv_at hl 1 rfl) ?_
      obtain ⟨g_8, hF⟩ := ifG hF
      refine r_aald (k := v1.toNatClampNeg) K hw (sh_a23 (Nat.le_trans (Nat.le_of_ble_eq_true rfl) hn)) (rfl : (TYS cA)[3]? = some (cA 3, _)) rfl (inB_vp g_8) d_Main_left_64 ?_
      obtain ⟨r_9, s_10, h_s_10, hF⟩ := ob2E hF
      refine r_callVI (As := [.ref (ad (33 + v1.toNatClampNeg))]) (rest := []) K hw hl.1 (c_Main_firstOtherwise (l := l) (D := D) (cA := cA) (ad := ad) (s0 := s_7) (Nat.le_trans (Nat.le_of_ble_eq_true rfl) hn) (P_Sheet_of g_8) h_s_10) (sh_Main (Nat.le_trans (Nat.le_of_ble_eq_true rfl) hn)) rfl (tb_gV w_877 w_879 w_28 w_63 w_880) a_Main_firstOtherwise ⟨rfl, rfl, Nat.le_of_ble_eq_true rfl, Nat.le_of_ble_eq_true rfl⟩ rfl rfl (Nat.le_of_ble_eq_true rfl) d_Main_left_65 (fun H locs hw => ?_)
      refine lv_iconst (v := -1) hx hb d_Main_left_68 (by decide) ?_
      refine lv_icmp_ne (tgt := 81) hx hb d_Main_left_69 (by decide) (fun c_11 => ?_) (fun c_11 => ?_)
      · replace hF := ifT hF c_11
        exact q_Main_left_81 hn K (fun z0 zv1 zv2 zv3 zv5 zv6 => F_Main_left_33 n z0 zv1 zv2 zv3 zv5 zv6) ih _ _ _ _ _ _ _ _ _  hw (lv_sub hl [0, 1, 2, 3, 4, 5] rfl) hF
      · replace hF := ifN hF c_11
        refine lv_iload hx hb d_Main_left_72 (lv_at hl 4 rfl) ?_
        refine lv_iconst (v := 1) hx hb d_Main_left_74 (by decide) ?_
        refine lv_iload hx hb d_Main_left_75 (lv_at hl 5 rfl) ?_
        refine lv_ishl hx hb d_Main_left_77 ?_
        refine lv_ior hx hb d_Main_left_78 ?_
        refine lv_istore (lv' := [(5, .int (v5 ||| (jshl (1 : Int32) v6))), (0, .ref (ad 20)), (1, .int v1), (2, .int v2), (3, .int v3), (6, .int v6)]) hx hb d_Main_left_79 hl (by decide) rfl (fun ls hl => ?_)
        exact q_Main_left_81 hn K (fun z0 zv1 zv2 zv3 zv5 zv6 => F_Main_left_33 n z0 zv1 zv2 zv3 zv5 zv6) ih _ _ _ _ _ _ _ _ _  hw (lv_sub hl [1, 2, 3, 4, 0, 5] rfl) hF
noncomputable def F_Main_left_0 (s0 : St) (v1 : Int32) (v2 : Int32) (v3 : Int32) : Option (Int32 × St) := (ob1 (F_Main_refusalOfTold s0 v1) (fun r_1 => (if r_1 = 0 then (ob1 (F_Main_areTwo s0 v2 v3) (fun r_3 => (if ¬ r_3 = 0 then (F_Main_left_33 FU s0 v1 v2 v3 (0 : Int32) (0 : Int32)) else (some ((-5 : Int32), s0))))) else (some (r_1, s0)))))
set_option maxHeartbeats 4000000 in
set_option maxRecDepth 100000 in
theorem q_Main_left_0 (hn : 46 ≤ nC) (K : Fx p s m args meth c b_Main_left 7 R_Main (some .int))  : ∀ (H : Heap) (locs : List Loc) (ls : Array Slot) (s0 : St) (v1 : Int32) (v2 : Int32) (v3 : Int32), Wh D cA ad (shC.take nC) A s s0 H locs → lv_has ls 7 [(0, .ref (ad 20)), (1, .int v1), (2, .int v2), (3, .int v3)] → F_Main_left_0 s0 v1 v2 v3 = (some (r, τ)) → W p l e rm_Main_left s m args below meth c H locs 0 0 (MQ below (QcI D cA ad (shC.take nC) A r τ) args s 0 0 A) (F0 m 0 ls []) := by
  have hx := K.1.1; have hb := K.1.2.1
  intro H locs ls s0 v1 v2 v3 hw hl hF
  unfold F_Main_left_0 at hF
  refine lv_aload_n hx hb d_Main_left_0 rfl (lv_at hl 0 rfl) ?_
  refine lv_iload_n hx hb d_Main_left_1 rfl (lv_at hl 1 rfl) ?_
  obtain ⟨r_1, h_r_1, hF⟩ := ob1E hF
  refine r_callVI (As := [.int v1]) (rest := []) K hw hl.1 (c_Main_refusalOfTold (l := l) (D := D) (cA := cA) (ad := ad) (s0 := s0) (Nat.le_trans (Nat.le_of_ble_eq_true rfl) hn)  h_r_1) (sh_Main (Nat.le_trans (Nat.le_of_ble_eq_true rfl) hn)) rfl (tb_gV w_870 w_872 w_27 w_63 w_873) a_Main_refusalOfTold ⟨rfl, rfl, Nat.le_of_ble_eq_true rfl, Nat.le_of_ble_eq_true rfl⟩ rfl rfl (Nat.le_of_ble_eq_true rfl) d_Main_left_2 (fun H locs hw => ?_)
  refine lv_istore (lv' := [(4, .int r_1), (0, .ref (ad 20)), (1, .int v1), (2, .int v2), (3, .int v3)]) hx hb d_Main_left_5 hl (by decide) rfl (fun ls hl => ?_)
  refine lv_iload hx hb d_Main_left_7 (lv_at hl 0 rfl) ?_
  refine lv_if_eq (tgt := 15) hx hb d_Main_left_9 (by decide) (fun c_2 => ?_) (fun c_2 => ?_)
  · replace hF := ifT hF c_2
    refine lv_aload_n hx hb d_Main_left_15 rfl (lv_at hl 1 rfl) ?_
    refine lv_iload_n hx hb d_Main_left_16 rfl (lv_at hl 3 rfl) ?_
    refine lv_iload_n hx hb d_Main_left_17 rfl (lv_at hl 4 rfl) ?_
    obtain ⟨r_3, h_r_3, hF⟩ := ob1E hF
    refine r_callVI (As := [.int v2, .int v3]) (rest := []) K hw hl.1 (c_Main_areTwo (l := l) (D := D) (cA := cA) (ad := ad) (s0 := s0) (Nat.le_trans (Nat.le_of_ble_eq_true rfl) hn)  h_r_3) (sh_Main (Nat.le_trans (Nat.le_of_ble_eq_true rfl) hn)) rfl (tb_gV w_724 w_726 w_17 w_63 w_727) a_Main_areTwo ⟨rfl, rfl, Nat.le_of_ble_eq_true rfl, Nat.le_of_ble_eq_true rfl⟩ rfl rfl (Nat.le_of_ble_eq_true rfl) d_Main_left_18 (fun H locs hw => ?_)
    refine lv_if_ne (tgt := 27) hx hb d_Main_left_21 (by decide) (fun c_4 => ?_) (fun c_4 => ?_)
    · replace hF := ifT hF c_4
      refine lv_iconst (v := 0) hx hb d_Main_left_27 (by decide) ?_
      refine lv_istore (lv' := [(5, .int (0 : Int32)), (4, .int r_1), (0, .ref (ad 20)), (1, .int v1), (2, .int v2), (3, .int v3)]) hx hb d_Main_left_28 hl (by decide) rfl (fun ls hl => ?_)
      refine lv_iconst (v := 0) hx hb d_Main_left_30 (by decide) ?_
      refine lv_istore (lv' := [(6, .int (0 : Int32)), (5, .int (0 : Int32)), (4, .int r_1), (0, .ref (ad 20)), (1, .int v1), (2, .int v2), (3, .int v3)]) hx hb d_Main_left_31 hl (by decide) rfl (fun ls hl => ?_)
      exact q_Main_left_33 hn K FU _ _ _ _ _ _ _ _ _  hw (lv_sub hl [3, 4, 5, 6, 1, 0] rfl) hF
    · replace hF := ifN hF c_4
      refine lv_bipush (v := -5) hx hb d_Main_left_24 (by decide) ?_
      obtain ⟨hF, hG⟩ := sE2 hF
      subst hF
      subst hG
      exact r_iret K hw d_Main_left_26
  · replace hF := ifF hF c_2
    refine lv_iload hx hb d_Main_left_12 (lv_at hl 0 rfl) ?_
    obtain ⟨hF, hG⟩ := sE2 hF
    subst hF
    subst hG
    exact r_iret K hw d_Main_left_14
end S_Main_left
noncomputable abbrev F_Main_left := F_Main_left_0
theorem c_Main_left {l : Launch} {D : va_G} {cA : Nat → ClassId} {ad : Nat → Nat} {s0 τ : St} {nC : Nat} (hn : 46 ≤ nC) {r : Int32} {v1 : Int32} {v2 : Int32} {v3 : Int32}  (hF : F_Main_left s0 v1 v2 v3 = (some (r, τ))) : MI l D cA ad (shC.take nC) y_Main_left (wT y_Main_left b_Main_left 7 (some .int)) rm_Main_left [.ref (ad 20), .int v1, .int v2, .int v3] s0 r τ := fun sz => m_start (Qc := fun A => QcI D cA ad (shC.take nC) A r τ) (by decide +kernel) w_893 (Nat.le_of_ble_eq_true rfl) (fun p e s m below meth c ls K hl hw => q_Main_left_0 hn K _ _ _ _ _ _ _  hw hl hF)

/-! Main.whom(II)I -/
abbrev b_Main_whom : ByteArray := prog_1_method_23_code
def y_Main_whom : MethodName := ⟨R_Main, "whom", "(II)I"⟩
theorem a_Main_whom : y_Main_whom.cls = R_Main ∧ y_Main_whom.cls ≠ "java/lang/invoke/MethodHandle" ∧ y_Main_whom.cls ≠ "java/lang/invoke/VarHandle" ∧ (parseMethodDescriptor y_Main_whom.desc).map (fun d => d.parameters.length) = some 2 := by decide +kernel
abbrev rm_Main_whom : Room := { frames := 6, cells := 0, slots := 0, locals := 138 }
theorem w_897 : Cond.code y_Main_whom b_Main_whom 6 (some .int) ∈ TB := tb_in 897 (by decide +kernel) (by decide +kernel)
theorem d_Main_whom_0 : decode b_Main_whom 0 = .ok (.aload_n 0, 1) := by decide +kernel
theorem d_Main_whom_1 : decode b_Main_whom 1 = .ok (.iload_n 1, 1) := by decide +kernel
theorem d_Main_whom_2 : decode b_Main_whom 2 = .ok (.invokevirtual 245, 3) := by decide +kernel
theorem d_Main_whom_5 : decode b_Main_whom 5 = .ok (.istore_n 3, 1) := by decide +kernel
theorem d_Main_whom_6 : decode b_Main_whom 6 = .ok (.iload_n 3, 1) := by decide +kernel
theorem d_Main_whom_7 : decode b_Main_whom 7 = .ok (.ifCond .eq 5, 3) := by decide +kernel
theorem d_Main_whom_10 : decode b_Main_whom 10 = .ok (.iload_n 3, 1) := by decide +kernel
theorem d_Main_whom_11 : decode b_Main_whom 11 = .ok (.ireturn, 1) := by decide +kernel
theorem d_Main_whom_12 : decode b_Main_whom 12 = .ok (.aload_n 0, 1) := by decide +kernel
theorem d_Main_whom_13 : decode b_Main_whom 13 = .ok (.iload_n 2, 1) := by decide +kernel
theorem d_Main_whom_14 : decode b_Main_whom 14 = .ok (.invokevirtual 120, 3) := by decide +kernel
theorem d_Main_whom_17 : decode b_Main_whom 17 = .ok (.ifCond .ne 6, 3) := by decide +kernel
theorem d_Main_whom_20 : decode b_Main_whom 20 = .ok (.bipush (-5), 2) := by decide +kernel
theorem d_Main_whom_22 : decode b_Main_whom 22 = .ok (.ireturn, 1) := by decide +kernel
theorem d_Main_whom_23 : decode b_Main_whom 23 = .ok (.iconst 0, 1) := by decide +kernel
theorem d_Main_whom_24 : decode b_Main_whom 24 = .ok (.istore 4, 2) := by decide +kernel
theorem d_Main_whom_26 : decode b_Main_whom 26 = .ok (.iconst 0, 1) := by decide +kernel
theorem d_Main_whom_27 : decode b_Main_whom 27 = .ok (.istore 5, 2) := by decide +kernel
theorem d_Main_whom_29 : decode b_Main_whom 29 = .ok (.iload 5, 2) := by decide +kernel
theorem d_Main_whom_31 : decode b_Main_whom 31 = .ok (.aload_n 0, 1) := by decide +kernel
theorem d_Main_whom_32 : decode b_Main_whom 32 = .ok (.getfield 99, 3) := by decide +kernel
theorem d_Main_whom_35 : decode b_Main_whom 35 = .ok (.if_icmp .ge 48, 3) := by decide +kernel
theorem d_Main_whom_38 : decode b_Main_whom 38 = .ok (.iload 5, 2) := by decide +kernel
theorem d_Main_whom_40 : decode b_Main_whom 40 = .ok (.iload_n 2, 1) := by decide +kernel
theorem d_Main_whom_41 : decode b_Main_whom 41 = .ok (.if_icmp .ne 6, 3) := by decide +kernel
theorem d_Main_whom_44 : decode b_Main_whom 44 = .ok (.goto 33, 3) := by decide +kernel
theorem d_Main_whom_47 : decode b_Main_whom 47 = .ok (.aload_n 0, 1) := by decide +kernel
theorem d_Main_whom_48 : decode b_Main_whom 48 = .ok (.iload_n 2, 1) := by decide +kernel
theorem d_Main_whom_49 : decode b_Main_whom 49 = .ok (.iload 5, 2) := by decide +kernel
theorem d_Main_whom_51 : decode b_Main_whom 51 = .ok (.invokevirtual 174, 3) := by decide +kernel
theorem d_Main_whom_54 : decode b_Main_whom 54 = .ok (.aload_n 0, 1) := by decide +kernel
theorem d_Main_whom_55 : decode b_Main_whom 55 = .ok (.aload_n 0, 1) := by decide +kernel
theorem d_Main_whom_56 : decode b_Main_whom 56 = .ok (.getfield 30, 3) := by decide +kernel
theorem d_Main_whom_59 : decode b_Main_whom 59 = .ok (.iload_n 1, 1) := by decide +kernel
theorem d_Main_whom_60 : decode b_Main_whom 60 = .ok (.aaload, 1) := by decide +kernel
theorem d_Main_whom_61 : decode b_Main_whom 61 = .ok (.invokevirtual 248, 3) := by decide +kernel
theorem d_Main_whom_64 : decode b_Main_whom 64 = .ok (.iconst (-1), 1) := by decide +kernel
theorem d_Main_whom_65 : decode b_Main_whom 65 = .ok (.if_icmp .ne 12, 3) := by decide +kernel
theorem d_Main_whom_68 : decode b_Main_whom 68 = .ok (.iload 4, 2) := by decide +kernel
theorem d_Main_whom_70 : decode b_Main_whom 70 = .ok (.iconst 1, 1) := by decide +kernel
theorem d_Main_whom_71 : decode b_Main_whom 71 = .ok (.iload 5, 2) := by decide +kernel
theorem d_Main_whom_73 : decode b_Main_whom 73 = .ok (.ishl, 1) := by decide +kernel
theorem d_Main_whom_74 : decode b_Main_whom 74 = .ok (.ior, 1) := by decide +kernel
theorem d_Main_whom_75 : decode b_Main_whom 75 = .ok (.istore 4, 2) := by decide +kernel
theorem d_Main_whom_77 : decode b_Main_whom 77 = .ok (.iinc 5 1, 3) := by decide +kernel
theorem d_Main_whom_80 : decode b_Main_whom 80 = .ok (.goto (-51), 3) := by decide +kernel
theorem d_Main_whom_83 : decode b_Main_whom 83 = .ok (.iload 4, 2) := by decide +kernel
theorem d_Main_whom_85 : decode b_Main_whom 85 = .ok (.ireturn, 1) := by decide +kernel
section S_Main_whom
variable {p : Program} {l : Launch} {e : Env} {s : State} {m : MethodId} {args : Array Value} {below : List Frame} {meth : Method} {c : Code} {D : va_G} {cA : Nat → ClassId} {ad : Nat → Nat} {nC : Nat} {A : Nat → Prop} {r : Int32} {τ : St}
noncomputable def F_Main_whom_77 (k18 : (St → Int32 → Int32 → Int32 → Int32 → Option (Int32 × St))) (s0 : St) (v1 : Int32) (v2 : Int32) (v4 : Int32) (v5 : Int32) : Option (Int32 × St) := (k18 s0 v1 v2 v4 (v5 + 1))
set_option maxHeartbeats 4000000 in
set_option maxRecDepth 100000 in
theorem q_Main_whom_77 (hn : 46 ≤ nC) (K : Fx p s m args meth c b_Main_whom 6 R_Main (some .int)) (k18 : (St → Int32 → Int32 → Int32 → Int32 → Option (Int32 × St))) (hk18 : ∀ (H : Heap) (locs : List Loc) (ls : Array Slot) (s0 : St) (v1 : Int32) (v2 : Int32) (v4 : Int32) (v5 : Int32), Wh D cA ad (shC.take nC) A s s0 H locs → lv_has ls 6 [(0, .ref (ad 20)), (1, .int v1), (2, .int v2), (4, .int v4), (5, .int v5)] → k18 s0 v1 v2 v4 v5 = (some (r, τ)) → W p l e rm_Main_whom s m args below meth c H locs 0 0 (MQ below (QcI D cA ad (shC.take nC) A r τ) args s 0 0 A) (F0 m 29 ls [])) : ∀ (H : Heap) (locs : List Loc) (ls : Array Slot) (s0 : St) (v1 : Int32) (v2 : Int32) (v4 : Int32) (v5 : Int32), Wh D cA ad (shC.take nC) A s s0 H locs → lv_has ls 6 [(0, .ref (ad 20)), (1, .int v1), (2, .int v2), (4, .int v4), (5, .int v5)] → F_Main_whom_77 k18 s0 v1 v2 v4 v5 = (some (r, τ)) → W p l e rm_Main_whom s m args below meth c H locs 0 0 (MQ below (QcI D cA ad (shC.take nC) A r τ) args s 0 0 A) (F0 m 77 ls []) := by
  have hx := K.1.1; have hb := K.1.2.1
  intro H locs ls s0 v1 v2 v4 v5 hw hl hF
  unfold F_Main_whom_77 at hF
  refine lv_iinc (v := (v5 + 1)) (lv' := [(5, .int (v5 + 1)), (0, .ref (ad 20)), (1, .int v1), (2, .int v2), (4, .int v4)]) hx hb d_Main_whom_77 hl (k := 4) rfl rfl (by decide) rfl (fun ls hl => ?_)
  refine lv_goto (tgt := 29) hx hb d_Main_whom_80 (by decide) ?_
  exact hk18 _ _ _ _ _ _ _ _  hw (lv_sub hl [1, 2, 3, 4, 0] rfl) hF
noncomputable def F_Main_whom_29 : Nat → St → Int32 → Int32 → Int32 → Int32 → Option (Int32 × St)
  | 0, _, _, _, _, _ => none
  | n + 1, s0, v1, v2, v4, v5 => (if (s0.1 20 1) ≤ v5 then (some (v4, s0)) else (if ¬ v5 = v2 then (ob1 (F_Main_opn s0 v2 v5) (fun s_7 => (if inB v1 4 = true then (ob2 (F_Main_firstOtherwise s_7 (33 + v1.toNatClampNeg)) (fun r_9 s_10 => (if ¬ r_9 = (-1 : Int32) then (F_Main_whom_77 (fun z0 zv1 zv2 zv4 zv5 => F_Main_whom_29 n z0 zv1 zv2 zv4 zv5) s_10 v1 v2 v4 v5) else (F_Main_whom_77 (fun z0 zv1 zv2 zv4 zv5 => F_Main_whom_29 n z0 zv1 zv2 zv4 zv5) s_10 v1 v2 (v4 ||| (jshl (1 : Int32) v5)) v5)))) else none))) else (F_Main_whom_77 (fun z0 zv1 zv2 zv4 zv5 => F_Main_whom_29 n z0 zv1 zv2 zv4 zv5) s0 v1 v2 v4 v5)))
set_option maxHeartbeats 4000000 in
set_option maxRecDepth 100000 in
theorem q_Main_whom_29 (hn : 46 ≤ nC) (K : Fx p s m args meth c b_Main_whom 6 R_Main (some .int))  : ∀ (n : Nat), ∀ (H : Heap) (locs : List Loc) (ls : Array Slot) (s0 : St) (v1 : Int32) (v2 : Int32) (v4 : Int32) (v5 : Int32), Wh D cA ad (shC.take nC) A s s0 H locs → lv_has ls 6 [(0, .ref (ad 20)), (1, .int v1), (2, .int v2), (4, .int v4), (5, .int v5)] → F_Main_whom_29 n s0 v1 v2 v4 v5 = (some (r, τ)) → W p l e rm_Main_whom s m args below meth c H locs 0 0 (MQ below (QcI D cA ad (shC.take nC) A r τ) args s 0 0 A) (F0 m 29 ls []) := by
  have hx := K.1.1; have hb := K.1.2.1
  intro n
  induction n with
  | zero =>
    intro H locs ls s0 v1 v2 v4 v5 hw hl hF
    exact absurd hF (by rw [F_Main_whom_29]; exact nofun)
  | succ n ih =>
    intro H locs ls s0 v1 v2 v4 v5 hw hl hF
    rw [F_Main_whom_29] at hF
    refine lv_iload hx hb d_Main_whom_29 (lv_at hl 4 rfl) ?_
    refine lv_aload_n hx hb d_Main_whom_31 rfl (lv_at hl 0 rfl) ?_
    refine r_get (v := .int (s0.1 20 1)) K hw i_Main (sh_Main (Nat.le_trans (Nat.le_of_ble_eq_true rfl) hn)) rfl 1 (by decide) w_599 rfl rfl rfl d_Main_whom_32 ?_
    refine lv_icmp_ge (tgt := 83) hx hb d_Main_whom_35 (by decide) (fun c_5 => ?_) (fun c_5 => ?_)
    · replace hF := ifT hF c_5
      refine lv_iload hx hb d_Main_whom_83 (lv_at hl 3 rfl) ?_
      obtain ⟨hF, hG⟩ := sE2 hF
      subst hF
      subst hG
      exact r_iret K hw d_Main_whom_85
    · replace hF := ifF hF c_5
      refine lv_iload hx hb d_Main_whom_38 (lv_at hl 4 rfl) ?_
      refine lv_iload_n hx hb d_Main_whom_40 rfl (lv_at hl 2 rfl) ?_
      refine lv_icmp_ne (tgt := 47) hx hb d_Main_whom_41 (by decide) (fun c_6 => ?_) (fun c_6 => ?_)
      · replace hF := ifT hF c_6
        refine lv_aload_n hx hb d_Main_whom_47 rfl (lv_at hl 0 rfl) ?_
        refine lv_iload_n hx hb d_Main_whom_48 rfl (lv_at hl 2 rfl) ?_
        refine lv_iload hx hb d_Main_whom_49 (lv_at hl 4 rfl) ?_
        obtain ⟨s_7, h_s_7, hF⟩ := ob1E hF
        refine r_callVV (As := [.int v2, .int v5]) (rest := []) K hw hl.1 (c_Main_opn (l := l) (D := D) (cA := cA) (ad := ad) (s0 := s0) (Nat.le_trans (Nat.le_of_ble_eq_true rfl) hn)  h_s_7) (sh_Main (Nat.le_trans (Nat.le_of_ble_eq_true rfl) hn)) rfl (tb_gV w_728 w_730 w_18 w_63 w_731) a_Main_opn ⟨rfl, rfl, Nat.le_of_ble_eq_true rfl, Nat.le_of_ble_eq_true rfl⟩ rfl rfl (Nat.le_of_ble_eq_true rfl) d_Main_whom_51 (fun H locs hw => ?_)
        refine lv_aload_n hx hb d_Main_whom_54 rfl (lv_at hl 0 rfl) ?_
        refine lv_aload_n hx hb d_Main_whom_55 rfl (lv_at hl 0 rfl) ?_
        refine r_get (v := .ref (ad 23)) K hw i_Main (sh_Main (Nat.le_trans (Nat.le_of_ble_eq_true rfl) hn)) rfl 9 (by decide) w_607 rfl rfl rfl d_Main_whom_56 ?_
        refine lv_iload_n hx hb d_Main_whom_59 rfl (lv_at hl 1 rfl) ?_
        obtain ⟨g_8, hF⟩ := ifG hF
        refine r_aald (k := v1.toNatClampNeg) K hw (sh_a23 (Nat.le_trans (Nat.le_of_ble_eq_true rfl) hn)) (rfl : (TYS cA)[3]? = some (cA 3, _)) rfl (inB_vp g_8) d_Main_whom_60 ?_
        obtain ⟨r_9, s_10, h_s_10, hF⟩ := ob2E hF
        refine r_callVI (As := [.ref (ad (33 + v1.toNatClampNeg))]) (rest := []) K hw hl.1 (c_Main_firstOtherwise (l := l) (D := D) (cA := cA) (ad := ad) (s0 := s_7) (Nat.le_trans (Nat.le_of_ble_eq_true rfl) hn) (P_Sheet_of g_8) h_s_10) (sh_Main (Nat.le_trans (Nat.le_of_ble_eq_true rfl) hn)) rfl (tb_gV w_877 w_879 w_28 w_63 w_880) a_Main_firstOtherwise ⟨rfl, rfl, Nat.le_of_ble_eq_true rfl, Nat.le_of_ble_eq_true rfl⟩ rfl rfl (Nat.le_of_ble_eq_true rfl) d_Main_whom_61 (fun H locs hw => ?_)
        refine lv_iconst (v := -1) hx hb d_Main_whom_64 (by decide) ?_
        refine lv_icmp_ne (tgt := 77) hx hb d_Main_whom_65 (by decide) (fun c_11 => ?_) (fun c_11 => ?_)
        · replace hF := ifT hF c_11
          exact q_Main_whom_77 hn K (fun z0 zv1 zv2 zv4 zv5 => F_Main_whom_29 n z0 zv1 zv2 zv4 zv5) ih _ _ _ _ _ _ _ _  hw (lv_sub hl [0, 1, 2, 3, 4] rfl) hF
        · replace hF := ifN hF c_11
          refine lv_iload hx hb d_Main_whom_68 (lv_at hl 3 rfl) ?_
          refine lv_iconst (v := 1) hx hb d_Main_whom_70 (by decide) ?_
          refine lv_iload hx hb d_Main_whom_71 (lv_at hl 4 rfl) ?_
          refine lv_ishl hx hb d_Main_whom_73 ?_
          refine lv_ior hx hb d_Main_whom_74 ?_
          refine lv_istore (lv' := [(4, .int (v4 ||| (jshl (1 : Int32) v5))), (0, .ref (ad 20)), (1, .int v1), (2, .int v2), (5, .int v5)]) hx hb d_Main_whom_75 hl (by decide) rfl (fun ls hl => ?_)
          exact q_Main_whom_77 hn K (fun z0 zv1 zv2 zv4 zv5 => F_Main_whom_29 n z0 zv1 zv2 zv4 zv5) ih _ _ _ _ _ _ _ _  hw (lv_sub hl [1, 2, 3, 0, 4] rfl) hF
      · replace hF := ifN hF c_6
        refine lv_goto (tgt := 77) hx hb d_Main_whom_44 (by decide) ?_
        exact q_Main_whom_77 hn K (fun z0 zv1 zv2 zv4 zv5 => F_Main_whom_29 n z0 zv1 zv2 zv4 zv5) ih _ _ _ _ _ _ _ _  hw (lv_sub hl [0, 1, 2, 3, 4] rfl) hF
noncomputable def F_Main_whom_0 (s0 : St) (v1 : Int32) (v2 : Int32) : Option (Int32 × St) := (ob1 (F_Main_refusalOfTold s0 v1) (fun r_1 => (if r_1 = 0 then (ob1 (F_Main_isArm s0 v2) (fun r_3 => (if ¬ r_3 = 0 then (F_Main_whom_29 FU s0 v1 v2 (0 : Int32) (0 : Int32)) else (some ((-5 : Int32), s0))))) else (some (r_1, s0)))))
set_option maxHeartbeats 4000000 in
set_option maxRecDepth 100000 in
theorem q_Main_whom_0 (hn : 46 ≤ nC) (K : Fx p s m args meth c b_Main_whom 6 R_Main (some .int))  : ∀ (H : Heap) (locs : List Loc) (ls : Array Slot) (s0 : St) (v1 : Int32) (v2 : Int32), Wh D cA ad (shC.take nC) A s s0 H locs → lv_has ls 6 [(0, .ref (ad 20)), (1, .int v1), (2, .int v2)] → F_Main_whom_0 s0 v1 v2 = (some (r, τ)) → W p l e rm_Main_whom s m args below meth c H locs 0 0 (MQ below (QcI D cA ad (shC.take nC) A r τ) args s 0 0 A) (F0 m 0 ls []) := by
  have hx := K.1.1; have hb := K.1.2.1
  intro H locs ls s0 v1 v2 hw hl hF
  unfold F_Main_whom_0 at hF
  refine lv_aload_n hx hb d_Main_whom_0 rfl (lv_at hl 0 rfl) ?_
  refine lv_iload_n hx hb d_Main_whom_1 rfl (lv_at hl 1 rfl) ?_
  obtain ⟨r_1, h_r_1, hF⟩ := ob1E hF
  refine r_callVI (As := [.int v1]) (rest := []) K hw hl.1 (c_Main_refusalOfTold (l := l) (D := D) (cA := cA) (ad := ad) (s0 := s0) (Nat.le_trans (Nat.le_of_ble_eq_true rfl) hn)  h_r_1) (sh_Main (Nat.le_trans (Nat.le_of_ble_eq_true rfl) hn)) rfl (tb_gV w_870 w_872 w_27 w_63 w_873) a_Main_refusalOfTold ⟨rfl, rfl, Nat.le_of_ble_eq_true rfl, Nat.le_of_ble_eq_true rfl⟩ rfl rfl (Nat.le_of_ble_eq_true rfl) d_Main_whom_2 (fun H locs hw => ?_)
  refine lv_istore_n (lv' := [(3, .int r_1), (0, .ref (ad 20)), (1, .int v1), (2, .int v2)]) hx hb d_Main_whom_5 rfl hl (by decide) rfl (fun ls hl => ?_)
  refine lv_iload_n hx hb d_Main_whom_6 rfl (lv_at hl 0 rfl) ?_
  refine lv_if_eq (tgt := 12) hx hb d_Main_whom_7 (by decide) (fun c_2 => ?_) (fun c_2 => ?_)
  · replace hF := ifT hF c_2
    refine lv_aload_n hx hb d_Main_whom_12 rfl (lv_at hl 1 rfl) ?_
    refine lv_iload_n hx hb d_Main_whom_13 rfl (lv_at hl 3 rfl) ?_
    obtain ⟨r_3, h_r_3, hF⟩ := ob1E hF
    refine r_callVI (As := [.int v2]) (rest := []) K hw hl.1 (c_Main_isArm (l := l) (D := D) (cA := cA) (ad := ad) (s0 := s0) (Nat.le_trans (Nat.le_of_ble_eq_true rfl) hn)  h_r_3) (sh_Main (Nat.le_trans (Nat.le_of_ble_eq_true rfl) hn)) rfl (tb_gV w_656 w_658 w_13 w_63 w_659) a_Main_isArm ⟨rfl, rfl, Nat.le_of_ble_eq_true rfl, Nat.le_of_ble_eq_true rfl⟩ rfl rfl (Nat.le_of_ble_eq_true rfl) d_Main_whom_14 (fun H locs hw => ?_)
    refine lv_if_ne (tgt := 23) hx hb d_Main_whom_17 (by decide) (fun c_4 => ?_) (fun c_4 => ?_)
    · replace hF := ifT hF c_4
      refine lv_iconst (v := 0) hx hb d_Main_whom_23 (by decide) ?_
      refine lv_istore (lv' := [(4, .int (0 : Int32)), (3, .int r_1), (0, .ref (ad 20)), (1, .int v1), (2, .int v2)]) hx hb d_Main_whom_24 hl (by decide) rfl (fun ls hl => ?_)
      refine lv_iconst (v := 0) hx hb d_Main_whom_26 (by decide) ?_
      refine lv_istore (lv' := [(5, .int (0 : Int32)), (4, .int (0 : Int32)), (3, .int r_1), (0, .ref (ad 20)), (1, .int v1), (2, .int v2)]) hx hb d_Main_whom_27 hl (by decide) rfl (fun ls hl => ?_)
      exact q_Main_whom_29 hn K FU _ _ _ _ _ _ _ _  hw (lv_sub hl [3, 4, 5, 1, 0] rfl) hF
    · replace hF := ifN hF c_4
      refine lv_bipush (v := -5) hx hb d_Main_whom_20 (by decide) ?_
      obtain ⟨hF, hG⟩ := sE2 hF
      subst hF
      subst hG
      exact r_iret K hw d_Main_whom_22
  · replace hF := ifF hF c_2
    refine lv_iload_n hx hb d_Main_whom_10 rfl (lv_at hl 0 rfl) ?_
    obtain ⟨hF, hG⟩ := sE2 hF
    subst hF
    subst hG
    exact r_iret K hw d_Main_whom_11
end S_Main_whom
noncomputable abbrev F_Main_whom := F_Main_whom_0
theorem c_Main_whom {l : Launch} {D : va_G} {cA : Nat → ClassId} {ad : Nat → Nat} {s0 τ : St} {nC : Nat} (hn : 46 ≤ nC) {r : Int32} {v1 : Int32} {v2 : Int32}  (hF : F_Main_whom s0 v1 v2 = (some (r, τ))) : MI l D cA ad (shC.take nC) y_Main_whom (wT y_Main_whom b_Main_whom 6 (some .int)) rm_Main_whom [.ref (ad 20), .int v1, .int v2] s0 r τ := fun sz => m_start (Qc := fun A => QcI D cA ad (shC.take nC) A r τ) (by decide +kernel) w_897 (Nat.le_of_ble_eq_true rfl) (fun p e s m below meth c ls K hl hw => q_Main_whom_0 hn K _ _ _ _ _ _  hw hl hF)

/-! Main.laws(III)I -/
abbrev b_Main_laws : ByteArray := prog_1_method_24_code
def y_Main_laws : MethodName := ⟨R_Main, "laws", "(III)I"⟩
theorem a_Main_laws : y_Main_laws.cls = R_Main ∧ y_Main_laws.cls ≠ "java/lang/invoke/MethodHandle" ∧ y_Main_laws.cls ≠ "java/lang/invoke/VarHandle" ∧ (parseMethodDescriptor y_Main_laws.desc).map (fun d => d.parameters.length) = some 3 := by decide +kernel
abbrev rm_Main_laws : Room := { frames := 6, cells := 0, slots := 0, locals := 138 }
theorem w_537 : Cond.fieldLink R_Main 252 R_Bout "law" "LArmAgainstArm$Text;" ∈ TB := tb_in 537 (by decide +kernel) (by decide +kernel)
theorem w_901 : Cond.code y_Main_laws b_Main_laws 7 (some .int) ∈ TB := tb_in 901 (by decide +kernel) (by decide +kernel)
theorem d_Main_laws_0 : decode b_Main_laws 0 = .ok (.aload_n 0, 1) := by decide +kernel
theorem d_Main_laws_1 : decode b_Main_laws 1 = .ok (.iload_n 1, 1) := by decide +kernel
theorem d_Main_laws_2 : decode b_Main_laws 2 = .ok (.invokevirtual 245, 3) := by decide +kernel
theorem d_Main_laws_5 : decode b_Main_laws 5 = .ok (.istore 4, 2) := by decide +kernel
theorem d_Main_laws_7 : decode b_Main_laws 7 = .ok (.iload 4, 2) := by decide +kernel
theorem d_Main_laws_9 : decode b_Main_laws 9 = .ok (.ifCond .eq 6, 3) := by decide +kernel
theorem d_Main_laws_12 : decode b_Main_laws 12 = .ok (.iload 4, 2) := by decide +kernel
theorem d_Main_laws_14 : decode b_Main_laws 14 = .ok (.ireturn, 1) := by decide +kernel
theorem d_Main_laws_15 : decode b_Main_laws 15 = .ok (.aload_n 0, 1) := by decide +kernel
theorem d_Main_laws_16 : decode b_Main_laws 16 = .ok (.iload_n 2, 1) := by decide +kernel
theorem d_Main_laws_17 : decode b_Main_laws 17 = .ok (.iload_n 3, 1) := by decide +kernel
theorem d_Main_laws_18 : decode b_Main_laws 18 = .ok (.invokevirtual 194, 3) := by decide +kernel
theorem d_Main_laws_21 : decode b_Main_laws 21 = .ok (.ifCond .ne 6, 3) := by decide +kernel
theorem d_Main_laws_24 : decode b_Main_laws 24 = .ok (.bipush (-5), 2) := by decide +kernel
theorem d_Main_laws_26 : decode b_Main_laws 26 = .ok (.ireturn, 1) := by decide +kernel
theorem d_Main_laws_27 : decode b_Main_laws 27 = .ok (.iconst 0, 1) := by decide +kernel
theorem d_Main_laws_28 : decode b_Main_laws 28 = .ok (.istore 5, 2) := by decide +kernel
theorem d_Main_laws_30 : decode b_Main_laws 30 = .ok (.iconst 0, 1) := by decide +kernel
theorem d_Main_laws_31 : decode b_Main_laws 31 = .ok (.istore 6, 2) := by decide +kernel
theorem d_Main_laws_33 : decode b_Main_laws 33 = .ok (.iload 6, 2) := by decide +kernel
theorem d_Main_laws_35 : decode b_Main_laws 35 = .ok (.aload_n 0, 1) := by decide +kernel
theorem d_Main_laws_36 : decode b_Main_laws 36 = .ok (.getfield 77, 3) := by decide +kernel
theorem d_Main_laws_39 : decode b_Main_laws 39 = .ok (.if_icmp .ge 52, 3) := by decide +kernel
theorem d_Main_laws_42 : decode b_Main_laws 42 = .ok (.aload_n 0, 1) := by decide +kernel
theorem d_Main_laws_43 : decode b_Main_laws 43 = .ok (.iload_n 2, 1) := by decide +kernel
theorem d_Main_laws_44 : decode b_Main_laws 44 = .ok (.iload_n 3, 1) := by decide +kernel
theorem d_Main_laws_45 : decode b_Main_laws 45 = .ok (.invokevirtual 174, 3) := by decide +kernel
theorem d_Main_laws_48 : decode b_Main_laws 48 = .ok (.aload_n 0, 1) := by decide +kernel
theorem d_Main_laws_49 : decode b_Main_laws 49 = .ok (.getfield 86, 3) := by decide +kernel
theorem d_Main_laws_52 : decode b_Main_laws 52 = .ok (.aload_n 0, 1) := by decide +kernel
theorem d_Main_laws_53 : decode b_Main_laws 53 = .ok (.getfield 17, 3) := by decide +kernel
theorem d_Main_laws_56 : decode b_Main_laws 56 = .ok (.iload 6, 2) := by decide +kernel
theorem d_Main_laws_58 : decode b_Main_laws 58 = .ok (.aaload, 1) := by decide +kernel
theorem d_Main_laws_59 : decode b_Main_laws 59 = .ok (.putfield 252, 3) := by decide +kernel
theorem d_Main_laws_62 : decode b_Main_laws 62 = .ok (.aload_n 0, 1) := by decide +kernel
theorem d_Main_laws_63 : decode b_Main_laws 63 = .ok (.aload_n 0, 1) := by decide +kernel
theorem d_Main_laws_64 : decode b_Main_laws 64 = .ok (.getfield 30, 3) := by decide +kernel
theorem d_Main_laws_67 : decode b_Main_laws 67 = .ok (.iload_n 1, 1) := by decide +kernel
theorem d_Main_laws_68 : decode b_Main_laws 68 = .ok (.aaload, 1) := by decide +kernel
theorem d_Main_laws_69 : decode b_Main_laws 69 = .ok (.invokevirtual 248, 3) := by decide +kernel
theorem d_Main_laws_72 : decode b_Main_laws 72 = .ok (.iconst (-1), 1) := by decide +kernel
theorem d_Main_laws_73 : decode b_Main_laws 73 = .ok (.if_icmp .ne 12, 3) := by decide +kernel
theorem d_Main_laws_76 : decode b_Main_laws 76 = .ok (.iload 5, 2) := by decide +kernel
theorem d_Main_laws_78 : decode b_Main_laws 78 = .ok (.iconst 1, 1) := by decide +kernel
theorem d_Main_laws_79 : decode b_Main_laws 79 = .ok (.iload 6, 2) := by decide +kernel
theorem d_Main_laws_81 : decode b_Main_laws 81 = .ok (.ishl, 1) := by decide +kernel
theorem d_Main_laws_82 : decode b_Main_laws 82 = .ok (.ior, 1) := by decide +kernel
theorem d_Main_laws_83 : decode b_Main_laws 83 = .ok (.istore 5, 2) := by decide +kernel
theorem d_Main_laws_85 : decode b_Main_laws 85 = .ok (.iinc 6 1, 3) := by decide +kernel
theorem d_Main_laws_88 : decode b_Main_laws 88 = .ok (.goto (-55), 3) := by decide +kernel
theorem d_Main_laws_91 : decode b_Main_laws 91 = .ok (.iload 5, 2) := by decide +kernel
theorem d_Main_laws_93 : decode b_Main_laws 93 = .ok (.ireturn, 1) := by decide +kernel
section S_Main_laws
variable {p : Program} {l : Launch} {e : Env} {s : State} {m : MethodId} {args : Array Value} {below : List Frame} {meth : Method} {c : Code} {D : va_G} {cA : Nat → ClassId} {ad : Nat → Nat} {nC : Nat} {A : Nat → Prop} {r : Int32} {τ : St}
noncomputable def F_Main_laws_85 (k19 : (St → Int32 → Int32 → Int32 → Int32 → Int32 → Option (Int32 × St))) (s0 : St) (v1 : Int32) (v2 : Int32) (v3 : Int32) (v5 : Int32) (v6 : Int32) : Option (Int32 × St) := (k19 s0 v1 v2 v3 v5 (v6 + 1))
set_option maxHeartbeats 4000000 in
set_option maxRecDepth 100000 in
theorem q_Main_laws_85 (hn : 46 ≤ nC) (K : Fx p s m args meth c b_Main_laws 7 R_Main (some .int)) (k19 : (St → Int32 → Int32 → Int32 → Int32 → Int32 → Option (Int32 × St))) (hk19 : ∀ (H : Heap) (locs : List Loc) (ls : Array Slot) (s0 : St) (v1 : Int32) (v2 : Int32) (v3 : Int32) (v5 : Int32) (v6 : Int32), Wh D cA ad (shC.take nC) A s s0 H locs → lv_has ls 7 [(0, .ref (ad 20)), (1, .int v1), (2, .int v2), (3, .int v3), (5, .int v5), (6, .int v6)] → k19 s0 v1 v2 v3 v5 v6 = (some (r, τ)) → W p l e rm_Main_laws s m args below meth c H locs 0 0 (MQ below (QcI D cA ad (shC.take nC) A r τ) args s 0 0 A) (F0 m 33 ls [])) : ∀ (H : Heap) (locs : List Loc) (ls : Array Slot) (s0 : St) (v1 : Int32) (v2 : Int32) (v3 : Int32) (v5 : Int32) (v6 : Int32), Wh D cA ad (shC.take nC) A s s0 H locs → lv_has ls 7 [(0, .ref (ad 20)), (1, .int v1), (2, .int v2), (3, .int v3), (5, .int v5), (6, .int v6)] → F_Main_laws_85 k19 s0 v1 v2 v3 v5 v6 = (some (r, τ)) → W p l e rm_Main_laws s m args below meth c H locs 0 0 (MQ below (QcI D cA ad (shC.take nC) A r τ) args s 0 0 A) (F0 m 85 ls []) := by
  have hx := K.1.1; have hb := K.1.2.1
  intro H locs ls s0 v1 v2 v3 v5 v6 hw hl hF
  unfold F_Main_laws_85 at hF
  refine lv_iinc (v := (v6 + 1)) (lv' := [(6, .int (v6 + 1)), (0, .ref (ad 20)), (1, .int v1), (2, .int v2), (3, .int v3), (5, .int v5)]) hx hb d_Main_laws_85 hl (k := 5) rfl rfl (by decide) rfl (fun ls hl => ?_)
  refine lv_goto (tgt := 33) hx hb d_Main_laws_88 (by decide) ?_
  exact hk19 _ _ _ _ _ _ _ _ _  hw (lv_sub hl [1, 2, 3, 4, 5, 0] rfl) hF
noncomputable def F_Main_laws_33 : Nat → St → Int32 → Int32 → Int32 → Int32 → Int32 → Option (Int32 × St)
  | 0, _, _, _, _, _, _ => none
  | n + 1, s0, v1, v2, v3, v5, v6 => (if (s0.1 20 3) ≤ v6 then (some (v5, s0)) else (ob1 (F_Main_opn s0 v2 v3) (fun s_6 => (if inB v6 6 = true then (lt (up2 s_6 41 2 (8 + v6.toNatClampNeg)) (fun s_8 => (if inB v1 4 = true then (ob2 (F_Main_firstOtherwise s_8 (33 + v1.toNatClampNeg)) (fun r_10 s_11 => (if ¬ r_10 = (-1 : Int32) then (F_Main_laws_85 (fun z0 zv1 zv2 zv3 zv5 zv6 => F_Main_laws_33 n z0 zv1 zv2 zv3 zv5 zv6) s_11 v1 v2 v3 v5 v6) else (F_Main_laws_85 (fun z0 zv1 zv2 zv3 zv5 zv6 => F_Main_laws_33 n z0 zv1 zv2 zv3 zv5 zv6) s_11 v1 v2 v3 (v5 ||| (jshl (1 : Int32) v6)) v6)))) else none))) else none))))
set_option maxHeartbeats 4000000 in
set_option maxRecDepth 100000 in
theorem q_Main_laws_33 (hn : 46 ≤ nC) (K : Fx p s m args meth c b_Main_laws 7 R_Main (some .int))  : ∀ (n : Nat), ∀ (H : Heap) (locs : List Loc) (ls : Array Slot) (s0 : St) (v1 : Int32) (v2 : Int32) (v3 : Int32) (v5 : Int32) (v6 : Int32), Wh D cA ad (shC.take nC) A s s0 H locs → lv_has ls 7 [(0, .ref (ad 20)), (1, .int v1), (2, .int v2), (3, .int v3), (5, .int v5), (6, .int v6)] → F_Main_laws_33 n s0 v1 v2 v3 v5 v6 = (some (r, τ)) → W p l e rm_Main_laws s m args below meth c H locs 0 0 (MQ below (QcI D cA ad (shC.take nC) A r τ) args s 0 0 A) (F0 m 33 ls []) := by
  have hx := K.1.1; have hb := K.1.2.1
  intro n
  induction n with
  | zero =>
    intro H locs ls s0 v1 v2 v3 v5 v6 hw hl hF
    exact absurd hF (by rw [F_Main_laws_33]; exact nofun)
  | succ n ih =>
    intro H locs ls s0 v1 v2 v3 v5 v6 hw hl hF
    rw [F_Main_laws_33] at hF
    refine lv_iload hx hb d_Main_laws_33 (lv_at hl 5 rfl) ?_
    refine lv_aload_n hx hb d_Main_laws_35 rfl (lv_at hl 0 rfl) ?_
    refine r_get (v := .int (s0.1 20 3)) K hw i_Main (sh_Main (Nat.le_trans (Nat.le_of_ble_eq_true rfl) hn)) rfl 3 (by decide) w_601 rfl rfl rfl d_Main_laws_36 ?_
    refine lv_icmp_ge (tgt := 91) hx hb d_Main_laws_39 (by decide) (fun c_5 => ?_) (fun c_5 => ?_)
    · replace hF := ifT hF c_5
      refine lv_iload hx hb d_Main_laws_91 (lv_at hl 4 rfl) ?_
      obtain ⟨hF, hG⟩ := sE2 hF
      subst hF
      subst hG
      exact r_iret K hw d_Main_laws_93
    · replace hF := ifF hF c_5
      refine lv_aload_n hx hb d_Main_laws_42 rfl (lv_at hl 0 rfl) ?_
      refine lv_iload_n hx hb d_Main_laws_43 rfl (lv_at hl 2 rfl) ?_
      refine lv_iload_n hx hb d_Main_laws_44 rfl (lv_at hl 3 rfl) ?_
      obtain ⟨s_6, h_s_6, hF⟩ := ob1E hF
      refine r_callVV (As := [.int v2, .int v3]) (rest := []) K hw hl.1 (c_Main_opn (l := l) (D := D) (cA := cA) (ad := ad) (s0 := s0) (Nat.le_trans (Nat.le_of_ble_eq_true rfl) hn)  h_s_6) (sh_Main (Nat.le_trans (Nat.le_of_ble_eq_true rfl) hn)) rfl (tb_gV w_728 w_730 w_18 w_63 w_731) a_Main_opn ⟨rfl, rfl, Nat.le_of_ble_eq_true rfl, Nat.le_of_ble_eq_true rfl⟩ rfl rfl (Nat.le_of_ble_eq_true rfl) d_Main_laws_45 (fun H locs hw => ?_)
      refine lv_aload_n hx hb d_Main_laws_48 rfl (lv_at hl 0 rfl) ?_
      refine r_get (v := .ref (ad 41)) K hw i_Main (sh_Main (Nat.le_trans (Nat.le_of_ble_eq_true rfl) hn)) rfl 7 (by decide) w_605 rfl rfl rfl d_Main_laws_49 ?_
      refine lv_aload_n hx hb d_Main_laws_52 rfl (lv_at hl 0 rfl) ?_
      refine r_get (v := .ref (ad 22)) K hw i_Main (sh_Main (Nat.le_trans (Nat.le_of_ble_eq_true rfl) hn)) rfl 2 (by decide) w_600 rfl rfl rfl d_Main_laws_53 ?_
      refine lv_iload hx hb d_Main_laws_56 (lv_at hl 5 rfl) ?_
      obtain ⟨g_7, hF⟩ := ifG hF
      refine r_aald (k := v6.toNatClampNeg) K hw (sh_a22 (Nat.le_trans (Nat.le_of_ble_eq_true rfl) hn)) (rfl : (TYS cA)[2]? = some (cA 2, _)) rfl (inB_vp g_7) d_Main_laws_58 ?_
      refine r_putR K hw i_Bout t_Bout t_Bout_ok n_Bout (sh_Bout (Nat.le_trans (Nat.le_of_ble_eq_true rfl) hn)) rfl 2 (by decide) w_537 rfl rfl rfl rfl rfl d_Main_laws_59 (fun s_8 f_s_8 H locs hw => ?_)
      replace hF := ltN hF f_s_8
      refine lv_aload_n hx hb d_Main_laws_62 rfl (lv_at hl 0 rfl) ?_
      refine lv_aload_n hx hb d_Main_laws_63 rfl (lv_at hl 0 rfl) ?_
      refine r_get (v := .ref (ad 23)) K hw i_Main (sh_Main (Nat.le_trans (Nat.le_of_ble_eq_true rfl) hn)) rfl 9 (by decide) w_607 rfl rfl rfl d_Main_laws_64 ?_
      refine lv_iload_n hx hb d_Main_laws_67 rfl (lv_at hl 1 rfl) ?_
      obtain ⟨g_9, hF⟩ := ifG hF
      refine r_aald (k := v1.toNatClampNeg) K hw (sh_a23 (Nat.le_trans (Nat.le_of_ble_eq_true rfl) hn)) (rfl : (TYS cA)[3]? = some (cA 3, _)) rfl (inB_vp g_9) d_Main_laws_68 ?_
      obtain ⟨r_10, s_11, h_s_11, hF⟩ := ob2E hF
      refine r_callVI (As := [.ref (ad (33 + v1.toNatClampNeg))]) (rest := []) K hw hl.1 (c_Main_firstOtherwise (l := l) (D := D) (cA := cA) (ad := ad) (s0 := s_8) (Nat.le_trans (Nat.le_of_ble_eq_true rfl) hn) (P_Sheet_of g_9) h_s_11) (sh_Main (Nat.le_trans (Nat.le_of_ble_eq_true rfl) hn)) rfl (tb_gV w_877 w_879 w_28 w_63 w_880) a_Main_firstOtherwise ⟨rfl, rfl, Nat.le_of_ble_eq_true rfl, Nat.le_of_ble_eq_true rfl⟩ rfl rfl (Nat.le_of_ble_eq_true rfl) d_Main_laws_69 (fun H locs hw => ?_)
      refine lv_iconst (v := -1) hx hb d_Main_laws_72 (by decide) ?_
      refine lv_icmp_ne (tgt := 85) hx hb d_Main_laws_73 (by decide) (fun c_12 => ?_) (fun c_12 => ?_)
      · replace hF := ifT hF c_12
        exact q_Main_laws_85 hn K (fun z0 zv1 zv2 zv3 zv5 zv6 => F_Main_laws_33 n z0 zv1 zv2 zv3 zv5 zv6) ih _ _ _ _ _ _ _ _ _  hw (lv_sub hl [0, 1, 2, 3, 4, 5] rfl) hF
      · replace hF := ifN hF c_12
        refine lv_iload hx hb d_Main_laws_76 (lv_at hl 4 rfl) ?_
        refine lv_iconst (v := 1) hx hb d_Main_laws_78 (by decide) ?_
        refine lv_iload hx hb d_Main_laws_79 (lv_at hl 5 rfl) ?_
        refine lv_ishl hx hb d_Main_laws_81 ?_
        refine lv_ior hx hb d_Main_laws_82 ?_
        refine lv_istore (lv' := [(5, .int (v5 ||| (jshl (1 : Int32) v6))), (0, .ref (ad 20)), (1, .int v1), (2, .int v2), (3, .int v3), (6, .int v6)]) hx hb d_Main_laws_83 hl (by decide) rfl (fun ls hl => ?_)
        exact q_Main_laws_85 hn K (fun z0 zv1 zv2 zv3 zv5 zv6 => F_Main_laws_33 n z0 zv1 zv2 zv3 zv5 zv6) ih _ _ _ _ _ _ _ _ _  hw (lv_sub hl [1, 2, 3, 4, 0, 5] rfl) hF
noncomputable def F_Main_laws_0 (s0 : St) (v1 : Int32) (v2 : Int32) (v3 : Int32) : Option (Int32 × St) := (ob1 (F_Main_refusalOfTold s0 v1) (fun r_1 => (if r_1 = 0 then (ob1 (F_Main_areTwo s0 v2 v3) (fun r_3 => (if ¬ r_3 = 0 then (F_Main_laws_33 FU s0 v1 v2 v3 (0 : Int32) (0 : Int32)) else (some ((-5 : Int32), s0))))) else (some (r_1, s0)))))
set_option maxHeartbeats 4000000 in
set_option maxRecDepth 100000 in
theorem q_Main_laws_0 (hn : 46 ≤ nC) (K : Fx p s m args meth c b_Main_laws 7 R_Main (some .int))  : ∀ (H : Heap) (locs : List Loc) (ls : Array Slot) (s0 : St) (v1 : Int32) (v2 : Int32) (v3 : Int32), Wh D cA ad (shC.take nC) A s s0 H locs → lv_has ls 7 [(0, .ref (ad 20)), (1, .int v1), (2, .int v2), (3, .int v3)] → F_Main_laws_0 s0 v1 v2 v3 = (some (r, τ)) → W p l e rm_Main_laws s m args below meth c H locs 0 0 (MQ below (QcI D cA ad (shC.take nC) A r τ) args s 0 0 A) (F0 m 0 ls []) := by
  have hx := K.1.1; have hb := K.1.2.1
  intro H locs ls s0 v1 v2 v3 hw hl hF
  unfold F_Main_laws_0 at hF
  refine lv_aload_n hx hb d_Main_laws_0 rfl (lv_at hl 0 rfl) ?_
  refine lv_iload_n hx hb d_Main_laws_1 rfl (lv_at hl 1 rfl) ?_
  obtain ⟨r_1, h_r_1, hF⟩ := ob1E hF
  refine r_callVI (As := [.int v1]) (rest := []) K hw hl.1 (c_Main_refusalOfTold (l := l) (D := D) (cA := cA) (ad := ad) (s0 := s0) (Nat.le_trans (Nat.le_of_ble_eq_true rfl) hn)  h_r_1) (sh_Main (Nat.le_trans (Nat.le_of_ble_eq_true rfl) hn)) rfl (tb_gV w_870 w_872 w_27 w_63 w_873) a_Main_refusalOfTold ⟨rfl, rfl, Nat.le_of_ble_eq_true rfl, Nat.le_of_ble_eq_true rfl⟩ rfl rfl (Nat.le_of_ble_eq_true rfl) d_Main_laws_2 (fun H locs hw => ?_)
  refine lv_istore (lv' := [(4, .int r_1), (0, .ref (ad 20)), (1, .int v1), (2, .int v2), (3, .int v3)]) hx hb d_Main_laws_5 hl (by decide) rfl (fun ls hl => ?_)
  refine lv_iload hx hb d_Main_laws_7 (lv_at hl 0 rfl) ?_
  refine lv_if_eq (tgt := 15) hx hb d_Main_laws_9 (by decide) (fun c_2 => ?_) (fun c_2 => ?_)
  · replace hF := ifT hF c_2
    refine lv_aload_n hx hb d_Main_laws_15 rfl (lv_at hl 1 rfl) ?_
    refine lv_iload_n hx hb d_Main_laws_16 rfl (lv_at hl 3 rfl) ?_
    refine lv_iload_n hx hb d_Main_laws_17 rfl (lv_at hl 4 rfl) ?_
    obtain ⟨r_3, h_r_3, hF⟩ := ob1E hF
    refine r_callVI (As := [.int v2, .int v3]) (rest := []) K hw hl.1 (c_Main_areTwo (l := l) (D := D) (cA := cA) (ad := ad) (s0 := s0) (Nat.le_trans (Nat.le_of_ble_eq_true rfl) hn)  h_r_3) (sh_Main (Nat.le_trans (Nat.le_of_ble_eq_true rfl) hn)) rfl (tb_gV w_724 w_726 w_17 w_63 w_727) a_Main_areTwo ⟨rfl, rfl, Nat.le_of_ble_eq_true rfl, Nat.le_of_ble_eq_true rfl⟩ rfl rfl (Nat.le_of_ble_eq_true rfl) d_Main_laws_18 (fun H locs hw => ?_)
    refine lv_if_ne (tgt := 27) hx hb d_Main_laws_21 (by decide) (fun c_4 => ?_) (fun c_4 => ?_)
    · replace hF := ifT hF c_4
      refine lv_iconst (v := 0) hx hb d_Main_laws_27 (by decide) ?_
      refine lv_istore (lv' := [(5, .int (0 : Int32)), (4, .int r_1), (0, .ref (ad 20)), (1, .int v1), (2, .int v2), (3, .int v3)]) hx hb d_Main_laws_28 hl (by decide) rfl (fun ls hl => ?_)
      refine lv_iconst (v := 0) hx hb d_Main_laws_30 (by decide) ?_
      refine lv_istore (lv' := [(6, .int (0 : Int32)), (5, .int (0 : Int32)), (4, .int r_1), (0, .ref (ad 20)), (1, .int v1), (2, .int v2), (3, .int v3)]) hx hb d_Main_laws_31 hl (by decide) rfl (fun ls hl => ?_)
      exact q_Main_laws_33 hn K FU _ _ _ _ _ _ _ _ _  hw (lv_sub hl [3, 4, 5, 6, 1, 0] rfl) hF
    · replace hF := ifN hF c_4
      refine lv_bipush (v := -5) hx hb d_Main_laws_24 (by decide) ?_
      obtain ⟨hF, hG⟩ := sE2 hF
      subst hF
      subst hG
      exact r_iret K hw d_Main_laws_26
  · replace hF := ifF hF c_2
    refine lv_iload hx hb d_Main_laws_12 (lv_at hl 0 rfl) ?_
    obtain ⟨hF, hG⟩ := sE2 hF
    subst hF
    subst hG
    exact r_iret K hw d_Main_laws_14
end S_Main_laws
noncomputable abbrev F_Main_laws := F_Main_laws_0
theorem c_Main_laws {l : Launch} {D : va_G} {cA : Nat → ClassId} {ad : Nat → Nat} {s0 τ : St} {nC : Nat} (hn : 46 ≤ nC) {r : Int32} {v1 : Int32} {v2 : Int32} {v3 : Int32}  (hF : F_Main_laws s0 v1 v2 v3 = (some (r, τ))) : MI l D cA ad (shC.take nC) y_Main_laws (wT y_Main_laws b_Main_laws 7 (some .int)) rm_Main_laws [.ref (ad 20), .int v1, .int v2, .int v3] s0 r τ := fun sz => m_start (Qc := fun A => QcI D cA ad (shC.take nC) A r τ) (by decide +kernel) w_901 (Nat.le_of_ble_eq_true rfl) (fun p e s m below meth c ls K hl hw => q_Main_laws_0 hn K _ _ _ _ _ _ _  hw hl hF)

/-! Sheet.become(II)V -/
abbrev b_Sheet_become : ByteArray := prog_7_method_2_code
def y_Sheet_become : MethodName := ⟨R_Sheet, "become", "(II)V"⟩
theorem a_Sheet_become : y_Sheet_become.cls = R_Sheet ∧ y_Sheet_become.cls ≠ "java/lang/invoke/MethodHandle" ∧ y_Sheet_become.cls ≠ "java/lang/invoke/VarHandle" ∧ (parseMethodDescriptor y_Sheet_become.desc).map (fun d => d.parameters.length) = some 2 := by decide +kernel
abbrev rm_Sheet_become : Room := { frames := 1, cells := 0, slots := 0, locals := 22 }
theorem w_191 : Cond.fieldLink R_Sheet 15 R_Sheet "sort" "I" ∈ TB := tb_in 191 (by decide +kernel) (by decide +kernel)
theorem w_909 : Cond.code y_Sheet_become b_Sheet_become 4 none ∈ TB := tb_in 909 (by decide +kernel) (by decide +kernel)
theorem nw_910 : Cond.methodLinkNest R_Sheet 19 y_Main_bounded R_Main ∈ NWS := List.mem_of_getElem? (i := 12) (by decide +kernel)
theorem d_Sheet_become_0 : decode b_Sheet_become 0 = .ok (.aload_n 0, 1) := by decide +kernel
theorem d_Sheet_become_1 : decode b_Sheet_become 1 = .ok (.iload_n 1, 1) := by decide +kernel
theorem d_Sheet_become_2 : decode b_Sheet_become 2 = .ok (.putfield 15, 3) := by decide +kernel
theorem d_Sheet_become_5 : decode b_Sheet_become 5 = .ok (.aload_n 0, 1) := by decide +kernel
theorem d_Sheet_become_6 : decode b_Sheet_become 6 = .ok (.iload_n 2, 1) := by decide +kernel
theorem d_Sheet_become_7 : decode b_Sheet_become 7 = .ok (.iconst 0, 1) := by decide +kernel
theorem d_Sheet_become_8 : decode b_Sheet_become 8 = .ok (.bipush 40, 2) := by decide +kernel
theorem d_Sheet_become_10 : decode b_Sheet_become 10 = .ok (.invokestatic 19, 3) := by decide +kernel
theorem d_Sheet_become_13 : decode b_Sheet_become 13 = .ok (.putfield 23, 3) := by decide +kernel
theorem d_Sheet_become_16 : decode b_Sheet_become 16 = .ok (.iconst 0, 1) := by decide +kernel
theorem d_Sheet_become_17 : decode b_Sheet_become 17 = .ok (.istore_n 3, 1) := by decide +kernel
theorem d_Sheet_become_18 : decode b_Sheet_become 18 = .ok (.iload_n 3, 1) := by decide +kernel
theorem d_Sheet_become_19 : decode b_Sheet_become 19 = .ok (.bipush 40, 2) := by decide +kernel
theorem d_Sheet_become_21 : decode b_Sheet_become 21 = .ok (.if_icmp .ge 16, 3) := by decide +kernel
theorem d_Sheet_become_24 : decode b_Sheet_become 24 = .ok (.aload_n 0, 1) := by decide +kernel
theorem d_Sheet_become_25 : decode b_Sheet_become 25 = .ok (.getfield 9, 3) := by decide +kernel
theorem d_Sheet_become_28 : decode b_Sheet_become 28 = .ok (.iload_n 3, 1) := by decide +kernel
theorem d_Sheet_become_29 : decode b_Sheet_become 29 = .ok (.iconst 0, 1) := by decide +kernel
theorem d_Sheet_become_30 : decode b_Sheet_become 30 = .ok (.iastore, 1) := by decide +kernel
theorem d_Sheet_become_31 : decode b_Sheet_become 31 = .ok (.iinc 3 1, 3) := by decide +kernel
theorem d_Sheet_become_34 : decode b_Sheet_become 34 = .ok (.goto (-16), 3) := by decide +kernel
theorem d_Sheet_become_37 : decode b_Sheet_become 37 = .ok (.return_, 1) := by decide +kernel
section S_Sheet_become
variable {p : Program} {l : Launch} {e : Env} {s : State} {m : MethodId} {args : Array Value} {below : List Frame} {meth : Method} {c : Code} {D : va_G} {cA : Nat → ClassId} {ad : Nat → Nat} {nC : Nat} {A : Nat → Prop} {τ : St}
noncomputable def F_Sheet_become_18 : Nat → St → Nat → Int32 → Option St
  | 0, _, _, _ => none
  | n + 1, s0, v0, v3 => (if (40 : Int32) ≤ v3 then (some s0) else (if inB v3 40 = true then (lt (up1 s0 (v0 + 4) v3.toNatClampNeg (0 : Int32)) (fun s_5 => (F_Sheet_become_18 n s_5 v0 (v3 + 1)))) else none))
set_option maxHeartbeats 4000000 in
set_option maxRecDepth 100000 in
theorem q_Sheet_become_18 (hn : 41 ≤ nC) (K : Fx p s m args meth c b_Sheet_become 4 R_Sheet none)  : ∀ (n : Nat), ∀ (H : Heap) (locs : List Loc) (ls : Array Slot) (s0 : St) (v0 : Nat) (v3 : Int32) (g_v0 : P_Sheet v0), Wh D cA ad (shC.take nC) A s s0 H locs → lv_has ls 4 [(0, .ref (ad v0)), (3, .int v3)] → F_Sheet_become_18 n s0 v0 v3 = (some τ) → W p l e rm_Sheet_become s m args below meth c H locs 0 0 (MQ below (QcV D cA ad (shC.take nC) A τ) args s 0 0 A) (F0 m 18 ls []) := by
  have hx := K.1.1; have hb := K.1.2.1
  intro n
  induction n with
  | zero =>
    intro H locs ls s0 v0 v3 g_v0 hw hl hF
    exact absurd hF (by rw [F_Sheet_become_18]; exact nofun)
  | succ n ih =>
    intro H locs ls s0 v0 v3 g_v0 hw hl hF
    rw [F_Sheet_become_18] at hF
    refine lv_iload_n hx hb d_Sheet_become_18 rfl (lv_at hl 1 rfl) ?_
    refine lv_bipush (v := 40) hx hb d_Sheet_become_19 (by decide) ?_
    refine lv_icmp_ge (tgt := 37) hx hb d_Sheet_become_21 (by decide) (fun c_3 => ?_) (fun c_3 => ?_)
    · replace hF := ifT hF c_3
      replace hF := sE1 hF
      subst hF
      exact r_vret K hw d_Sheet_become_37
    · replace hF := ifF hF c_3
      refine lv_aload_n hx hb d_Sheet_become_24 rfl (lv_at hl 0 rfl) ?_
      refine r_get (v := .ref (ad (v0 + 4))) K hw i_Sheet (sh_Sheet g_v0 (Nat.le_trans (Nat.le_of_ble_eq_true rfl) hn)) rfl 0 (by decide) w_189 rfl rfl rfl d_Sheet_become_25 ?_
      refine lv_iload_n hx hb d_Sheet_become_28 rfl (lv_at hl 1 rfl) ?_
      refine lv_iconst (v := 0) hx hb d_Sheet_become_29 (by decide) ?_
      obtain ⟨g_4, hF⟩ := ifG hF
      refine r_iast (k := v3.toNatClampNeg) K hw (sh_numbersOf g_v0 (Nat.le_trans (Nat.le_of_ble_eq_true rfl) hn)) rfl (inB_vp g_4) d_Sheet_become_30 (fun s_5 f_s_5 H locs hw => ?_)
      replace hF := ltN hF f_s_5
      refine lv_iinc (v := (v3 + 1)) (lv' := [(3, .int (v3 + 1)), (0, .ref (ad v0))]) hx hb d_Sheet_become_31 hl (k := 1) rfl rfl (by decide) rfl (fun ls hl => ?_)
      refine lv_goto (tgt := 18) hx hb d_Sheet_become_34 (by decide) ?_
      exact ih _ _ _ _ _ _ g_v0 hw (lv_sub hl [1, 0] rfl) hF
noncomputable def F_Sheet_become_0 (s0 : St) (v0 : Nat) (v1 : Int32) (v2 : Int32) : Option St := (lt (up1 s0 v0 1 v1) (fun s_1 => (lt (up1 s_1 v0 2 (F_Main_bounded v2 (0 : Int32) (40 : Int32))) (fun s_2 => (F_Sheet_become_18 FU s_2 v0 (0 : Int32))))))
set_option maxHeartbeats 4000000 in
set_option maxRecDepth 100000 in
theorem q_Sheet_become_0 (hn : 41 ≤ nC) (K : Fx p s m args meth c b_Sheet_become 4 R_Sheet none)  : ∀ (H : Heap) (locs : List Loc) (ls : Array Slot) (s0 : St) (v0 : Nat) (v1 : Int32) (v2 : Int32) (g_v0 : P_Sheet v0), Wh D cA ad (shC.take nC) A s s0 H locs → lv_has ls 4 [(0, .ref (ad v0)), (1, .int v1), (2, .int v2)] → F_Sheet_become_0 s0 v0 v1 v2 = (some τ) → W p l e rm_Sheet_become s m args below meth c H locs 0 0 (MQ below (QcV D cA ad (shC.take nC) A τ) args s 0 0 A) (F0 m 0 ls []) := by
  have hx := K.1.1; have hb := K.1.2.1
  intro H locs ls s0 v0 v1 v2 g_v0 hw hl hF
  unfold F_Sheet_become_0 at hF
  refine lv_aload_n hx hb d_Sheet_become_0 rfl (lv_at hl 0 rfl) ?_
  refine lv_iload_n hx hb d_Sheet_become_1 rfl (lv_at hl 1 rfl) ?_
  refine r_putI K hw i_Sheet t_Sheet t_Sheet_ok n_Sheet (sh_Sheet g_v0 (Nat.le_trans (Nat.le_of_ble_eq_true rfl) hn)) rfl 1 (by decide) w_191 rfl rfl rfl rfl rfl d_Sheet_become_2 (fun s_1 f_s_1 H locs hw => ?_)
  replace hF := ltN hF f_s_1
  refine lv_aload_n hx hb d_Sheet_become_5 rfl (lv_at hl 0 rfl) ?_
  refine lv_iload_n hx hb d_Sheet_become_6 rfl (lv_at hl 2 rfl) ?_
  refine lv_iconst (v := 0) hx hb d_Sheet_become_7 (by decide) ?_
  refine lv_bipush (v := 40) hx hb d_Sheet_become_8 (by decide) ?_
  refine r_callNI (As := [.int v2, .int (0 : Int32), .int (40 : Int32)]) (rest := [.ref (ad v0)]) K hw hl.1 (c_Main_bounded (l := l) (D := D) (cA := cA) (ad := ad) (s0 := s_1) (Nat.le_trans (Nat.le_of_ble_eq_true rfl) hn)  rfl) (nw_910) w_683 w_63 w_684 a_Main_bounded.2 ⟨rfl, rfl, Nat.le_of_ble_eq_true rfl, Nat.le_of_ble_eq_true rfl⟩ rfl rfl (Nat.le_of_ble_eq_true rfl) d_Sheet_become_10 (fun H locs hw => ?_)
  refine r_putI K hw i_Sheet t_Sheet t_Sheet_ok n_Sheet (sh_Sheet g_v0 (Nat.le_trans (Nat.le_of_ble_eq_true rfl) hn)) rfl 2 (by decide) w_193 rfl rfl rfl rfl rfl d_Sheet_become_13 (fun s_2 f_s_2 H locs hw => ?_)
  replace hF := ltN hF f_s_2
  refine lv_iconst (v := 0) hx hb d_Sheet_become_16 (by decide) ?_
  refine lv_istore_n (lv' := [(3, .int (0 : Int32)), (0, .ref (ad v0)), (1, .int v1), (2, .int v2)]) hx hb d_Sheet_become_17 rfl hl (by decide) rfl (fun ls hl => ?_)
  exact q_Sheet_become_18 hn K FU _ _ _ _ _ _ g_v0 hw (lv_sub hl [1, 0] rfl) hF
end S_Sheet_become
noncomputable abbrev F_Sheet_become := F_Sheet_become_0
theorem c_Sheet_become {l : Launch} {D : va_G} {cA : Nat → ClassId} {ad : Nat → Nat} {s0 τ : St} {nC : Nat} (hn : 41 ≤ nC) {v0 : Nat} {v1 : Int32} {v2 : Int32} (g_v0 : P_Sheet v0) (hF : F_Sheet_become s0 v0 v1 v2 = (some τ)) : MV l D cA ad (shC.take nC) y_Sheet_become (wT y_Sheet_become b_Sheet_become 4 none) rm_Sheet_become [.ref (ad v0), .int v1, .int v2] s0 τ := fun sz => m_start (Qc := fun A => QcV D cA ad (shC.take nC) A τ) (by decide +kernel) w_909 (Nat.le_of_ble_eq_true rfl) (fun p e s m below meth c ls K hl hw => q_Sheet_become_0 hn K _ _ _ _ _ _ _ g_v0 hw hl hF)

/-! Sheet.put(II)V -/
abbrev b_Sheet_put : ByteArray := prog_7_method_6_code
def y_Sheet_put : MethodName := ⟨R_Sheet, "put", "(II)V"⟩
theorem a_Sheet_put : y_Sheet_put.cls = R_Sheet ∧ y_Sheet_put.cls ≠ "java/lang/invoke/MethodHandle" ∧ y_Sheet_put.cls ≠ "java/lang/invoke/VarHandle" ∧ (parseMethodDescriptor y_Sheet_put.desc).map (fun d => d.parameters.length) = some 2 := by decide +kernel
abbrev rm_Sheet_put : Room := { frames := 2, cells := 0, slots := 0, locals := 43 }
theorem w_914 : Cond.code y_Sheet_put b_Sheet_put 3 none ∈ TB := tb_in 914 (by decide +kernel) (by decide +kernel)
theorem d_Sheet_put_0 : decode b_Sheet_put 0 = .ok (.aload_n 0, 1) := by decide +kernel
theorem d_Sheet_put_1 : decode b_Sheet_put 1 = .ok (.iload_n 1, 1) := by decide +kernel
theorem d_Sheet_put_2 : decode b_Sheet_put 2 = .ok (.invokevirtual 30, 3) := by decide +kernel
theorem d_Sheet_put_5 : decode b_Sheet_put 5 = .ok (.ifCond .eq 12, 3) := by decide +kernel
theorem d_Sheet_put_8 : decode b_Sheet_put 8 = .ok (.iload_n 1, 1) := by decide +kernel
theorem d_Sheet_put_9 : decode b_Sheet_put 9 = .ok (.aload_n 0, 1) := by decide +kernel
theorem d_Sheet_put_10 : decode b_Sheet_put 10 = .ok (.getfield 9, 3) := by decide +kernel
theorem d_Sheet_put_13 : decode b_Sheet_put 13 = .ok (.arraylength, 1) := by decide +kernel
theorem d_Sheet_put_14 : decode b_Sheet_put 14 = .ok (.if_icmp .lt 4, 3) := by decide +kernel
theorem d_Sheet_put_17 : decode b_Sheet_put 17 = .ok (.return_, 1) := by decide +kernel
theorem d_Sheet_put_18 : decode b_Sheet_put 18 = .ok (.aload_n 0, 1) := by decide +kernel
theorem d_Sheet_put_19 : decode b_Sheet_put 19 = .ok (.getfield 15, 3) := by decide +kernel
theorem d_Sheet_put_22 : decode b_Sheet_put 22 = .ok (.ifCond .ne 14, 3) := by decide +kernel
theorem d_Sheet_put_25 : decode b_Sheet_put 25 = .ok (.aload_n 0, 1) := by decide +kernel
theorem d_Sheet_put_26 : decode b_Sheet_put 26 = .ok (.getfield 9, 3) := by decide +kernel
theorem d_Sheet_put_29 : decode b_Sheet_put 29 = .ok (.iload_n 1, 1) := by decide +kernel
theorem d_Sheet_put_30 : decode b_Sheet_put 30 = .ok (.iload_n 2, 1) := by decide +kernel
theorem d_Sheet_put_31 : decode b_Sheet_put 31 = .ok (.i2b, 1) := by decide +kernel
theorem d_Sheet_put_32 : decode b_Sheet_put 32 = .ok (.iastore, 1) := by decide +kernel
theorem d_Sheet_put_33 : decode b_Sheet_put 33 = .ok (.goto 29, 3) := by decide +kernel
theorem d_Sheet_put_36 : decode b_Sheet_put 36 = .ok (.aload_n 0, 1) := by decide +kernel
theorem d_Sheet_put_37 : decode b_Sheet_put 37 = .ok (.getfield 15, 3) := by decide +kernel
theorem d_Sheet_put_40 : decode b_Sheet_put 40 = .ok (.iconst 1, 1) := by decide +kernel
theorem d_Sheet_put_41 : decode b_Sheet_put 41 = .ok (.if_icmp .ne 14, 3) := by decide +kernel
theorem d_Sheet_put_44 : decode b_Sheet_put 44 = .ok (.aload_n 0, 1) := by decide +kernel
theorem d_Sheet_put_45 : decode b_Sheet_put 45 = .ok (.getfield 9, 3) := by decide +kernel
theorem d_Sheet_put_48 : decode b_Sheet_put 48 = .ok (.iload_n 1, 1) := by decide +kernel
theorem d_Sheet_put_49 : decode b_Sheet_put 49 = .ok (.iload_n 2, 1) := by decide +kernel
theorem d_Sheet_put_50 : decode b_Sheet_put 50 = .ok (.i2s, 1) := by decide +kernel
theorem d_Sheet_put_51 : decode b_Sheet_put 51 = .ok (.iastore, 1) := by decide +kernel
theorem d_Sheet_put_52 : decode b_Sheet_put 52 = .ok (.goto 10, 3) := by decide +kernel
theorem d_Sheet_put_55 : decode b_Sheet_put 55 = .ok (.aload_n 0, 1) := by decide +kernel
theorem d_Sheet_put_56 : decode b_Sheet_put 56 = .ok (.getfield 9, 3) := by decide +kernel
theorem d_Sheet_put_59 : decode b_Sheet_put 59 = .ok (.iload_n 1, 1) := by decide +kernel
theorem d_Sheet_put_60 : decode b_Sheet_put 60 = .ok (.iload_n 2, 1) := by decide +kernel
theorem d_Sheet_put_61 : decode b_Sheet_put 61 = .ok (.iastore, 1) := by decide +kernel
theorem d_Sheet_put_62 : decode b_Sheet_put 62 = .ok (.return_, 1) := by decide +kernel
section S_Sheet_put
variable {p : Program} {l : Launch} {e : Env} {s : State} {m : MethodId} {args : Array Value} {below : List Frame} {meth : Method} {c : Code} {D : va_G} {cA : Nat → ClassId} {ad : Nat → Nat} {nC : Nat} {A : Nat → Prop} {τ : St}
noncomputable def F_Sheet_put_0 (s0 : St) (v0 : Nat) (v1 : Int32) (v2 : Int32) : Option St := (ob1 (F_Sheet_hasPlace s0 v0 v1) (fun r_1 => (if r_1 = 0 then (some s0) else (if v1 < (40 : Int32) then (if ¬ (s0.1 v0 1) = 0 then (if ¬ (s0.1 v0 1) = (1 : Int32) then (if inB v1 40 = true then (lt (up1 s0 (v0 + 4) v1.toNatClampNeg v2) (fun s_7 => (some s_7))) else none) else (if inB v1 40 = true then (lt (up1 s0 (v0 + 4) v1.toNatClampNeg (v2.toInt16.toInt32)) (fun s_9 => (some s_9))) else none)) else (if inB v1 40 = true then (lt (up1 s0 (v0 + 4) v1.toNatClampNeg (v2.toInt8.toInt32)) (fun s_11 => (some s_11))) else none)) else (some s0)))))
set_option maxHeartbeats 4000000 in
set_option maxRecDepth 100000 in
theorem q_Sheet_put_0 (hn : 41 ≤ nC) (K : Fx p s m args meth c b_Sheet_put 3 R_Sheet none)  : ∀ (H : Heap) (locs : List Loc) (ls : Array Slot) (s0 : St) (v0 : Nat) (v1 : Int32) (v2 : Int32) (g_v0 : P_Sheet v0), Wh D cA ad (shC.take nC) A s s0 H locs → lv_has ls 3 [(0, .ref (ad v0)), (1, .int v1), (2, .int v2)] → F_Sheet_put_0 s0 v0 v1 v2 = (some τ) → W p l e rm_Sheet_put s m args below meth c H locs 0 0 (MQ below (QcV D cA ad (shC.take nC) A τ) args s 0 0 A) (F0 m 0 ls []) := by
  have hx := K.1.1; have hb := K.1.2.1
  intro H locs ls s0 v0 v1 v2 g_v0 hw hl hF
  unfold F_Sheet_put_0 at hF
  refine lv_aload_n hx hb d_Sheet_put_0 rfl (lv_at hl 0 rfl) ?_
  refine lv_iload_n hx hb d_Sheet_put_1 rfl (lv_at hl 1 rfl) ?_
  obtain ⟨r_1, h_r_1, hF⟩ := ob1E hF
  refine r_callVI (As := [.int v1]) (rest := []) K hw hl.1 (c_Sheet_hasPlace (l := l) (D := D) (cA := cA) (ad := ad) (s0 := s0) (Nat.le_trans (Nat.le_of_ble_eq_true rfl) hn) g_v0 h_r_1) (sh_Sheet g_v0 (Nat.le_trans (Nat.le_of_ble_eq_true rfl) hn)) rfl (tb_gV w_885 w_886 w_887 w_67 w_888) a_Sheet_hasPlace ⟨rfl, rfl, Nat.le_of_ble_eq_true rfl, Nat.le_of_ble_eq_true rfl⟩ rfl rfl (Nat.le_of_ble_eq_true rfl) d_Sheet_put_2 (fun H locs hw => ?_)
  refine lv_if_eq (tgt := 17) hx hb d_Sheet_put_5 (by decide) (fun c_2 => ?_) (fun c_2 => ?_)
  · replace hF := ifT hF c_2
    replace hF := sE1 hF
    subst hF
    exact r_vret K hw d_Sheet_put_17
  · replace hF := ifF hF c_2
    refine lv_iload_n hx hb d_Sheet_put_8 rfl (lv_at hl 1 rfl) ?_
    refine lv_aload_n hx hb d_Sheet_put_9 rfl (lv_at hl 0 rfl) ?_
    refine r_get (v := .ref (ad (v0 + 4))) K hw i_Sheet (sh_Sheet g_v0 (Nat.le_trans (Nat.le_of_ble_eq_true rfl) hn)) rfl 0 (by decide) w_189 rfl rfl rfl d_Sheet_put_10 ?_
    refine r_alen (v := 40) K hw (sh_numbersOf g_v0 (Nat.le_trans (Nat.le_of_ble_eq_true rfl) hn)) (by decide) d_Sheet_put_13 ?_
    refine lv_icmp_lt (tgt := 18) hx hb d_Sheet_put_14 (by decide) (fun c_3 => ?_) (fun c_3 => ?_)
    · replace hF := ifT hF c_3
      refine lv_aload_n hx hb d_Sheet_put_18 rfl (lv_at hl 0 rfl) ?_
      refine r_get (v := .int (s0.1 v0 1)) K hw i_Sheet (sh_Sheet g_v0 (Nat.le_trans (Nat.le_of_ble_eq_true rfl) hn)) rfl 1 (by decide) w_191 rfl rfl rfl d_Sheet_put_19 ?_
      refine lv_if_ne (tgt := 36) hx hb d_Sheet_put_22 (by decide) (fun c_4 => ?_) (fun c_4 => ?_)
      · replace hF := ifT hF c_4
        refine lv_aload_n hx hb d_Sheet_put_36 rfl (lv_at hl 0 rfl) ?_
        refine r_get (v := .int (s0.1 v0 1)) K hw i_Sheet (sh_Sheet g_v0 (Nat.le_trans (Nat.le_of_ble_eq_true rfl) hn)) rfl 1 (by decide) w_191 rfl rfl rfl d_Sheet_put_37 ?_
        refine lv_iconst (v := 1) hx hb d_Sheet_put_40 (by decide) ?_
        refine lv_icmp_ne (tgt := 55) hx hb d_Sheet_put_41 (by decide) (fun c_5 => ?_) (fun c_5 => ?_)
        · replace hF := ifT hF c_5
          refine lv_aload_n hx hb d_Sheet_put_55 rfl (lv_at hl 0 rfl) ?_
          refine r_get (v := .ref (ad (v0 + 4))) K hw i_Sheet (sh_Sheet g_v0 (Nat.le_trans (Nat.le_of_ble_eq_true rfl) hn)) rfl 0 (by decide) w_189 rfl rfl rfl d_Sheet_put_56 ?_
          refine lv_iload_n hx hb d_Sheet_put_59 rfl (lv_at hl 1 rfl) ?_
          refine lv_iload_n hx hb d_Sheet_put_60 rfl (lv_at hl 2 rfl) ?_
          obtain ⟨g_6, hF⟩ := ifG hF
          refine r_iast (k := v1.toNatClampNeg) K hw (sh_numbersOf g_v0 (Nat.le_trans (Nat.le_of_ble_eq_true rfl) hn)) rfl (inB_vp g_6) d_Sheet_put_61 (fun s_7 f_s_7 H locs hw => ?_)
          replace hF := ltN hF f_s_7
          replace hF := sE1 hF
          subst hF
          exact r_vret K hw d_Sheet_put_62
        · replace hF := ifN hF c_5
          refine lv_aload_n hx hb d_Sheet_put_44 rfl (lv_at hl 0 rfl) ?_
          refine r_get (v := .ref (ad (v0 + 4))) K hw i_Sheet (sh_Sheet g_v0 (Nat.le_trans (Nat.le_of_ble_eq_true rfl) hn)) rfl 0 (by decide) w_189 rfl rfl rfl d_Sheet_put_45 ?_
          refine lv_iload_n hx hb d_Sheet_put_48 rfl (lv_at hl 1 rfl) ?_
          refine lv_iload_n hx hb d_Sheet_put_49 rfl (lv_at hl 2 rfl) ?_
          refine lv_i2s (v := v2.toInt16.toInt32) hx hb d_Sheet_put_50 rfl ?_
          obtain ⟨g_8, hF⟩ := ifG hF
          refine r_iast (k := v1.toNatClampNeg) K hw (sh_numbersOf g_v0 (Nat.le_trans (Nat.le_of_ble_eq_true rfl) hn)) rfl (inB_vp g_8) d_Sheet_put_51 (fun s_9 f_s_9 H locs hw => ?_)
          replace hF := ltN hF f_s_9
          refine lv_goto (tgt := 62) hx hb d_Sheet_put_52 (by decide) ?_
          replace hF := sE1 hF
          subst hF
          exact r_vret K hw d_Sheet_put_62
      · replace hF := ifN hF c_4
        refine lv_aload_n hx hb d_Sheet_put_25 rfl (lv_at hl 0 rfl) ?_
        refine r_get (v := .ref (ad (v0 + 4))) K hw i_Sheet (sh_Sheet g_v0 (Nat.le_trans (Nat.le_of_ble_eq_true rfl) hn)) rfl 0 (by decide) w_189 rfl rfl rfl d_Sheet_put_26 ?_
        refine lv_iload_n hx hb d_Sheet_put_29 rfl (lv_at hl 1 rfl) ?_
        refine lv_iload_n hx hb d_Sheet_put_30 rfl (lv_at hl 2 rfl) ?_
        refine lv_i2b (v := v2.toInt8.toInt32) hx hb d_Sheet_put_31 rfl ?_
        obtain ⟨g_10, hF⟩ := ifG hF
        refine r_iast (k := v1.toNatClampNeg) K hw (sh_numbersOf g_v0 (Nat.le_trans (Nat.le_of_ble_eq_true rfl) hn)) rfl (inB_vp g_10) d_Sheet_put_32 (fun s_11 f_s_11 H locs hw => ?_)
        replace hF := ltN hF f_s_11
        refine lv_goto (tgt := 62) hx hb d_Sheet_put_33 (by decide) ?_
        replace hF := sE1 hF
        subst hF
        exact r_vret K hw d_Sheet_put_62
    · replace hF := ifF hF c_3
      replace hF := sE1 hF
      subst hF
      exact r_vret K hw d_Sheet_put_17
end S_Sheet_put
noncomputable abbrev F_Sheet_put := F_Sheet_put_0
theorem c_Sheet_put {l : Launch} {D : va_G} {cA : Nat → ClassId} {ad : Nat → Nat} {s0 τ : St} {nC : Nat} (hn : 41 ≤ nC) {v0 : Nat} {v1 : Int32} {v2 : Int32} (g_v0 : P_Sheet v0) (hF : F_Sheet_put s0 v0 v1 v2 = (some τ)) : MV l D cA ad (shC.take nC) y_Sheet_put (wT y_Sheet_put b_Sheet_put 3 none) rm_Sheet_put [.ref (ad v0), .int v1, .int v2] s0 τ := fun sz => m_start (Qc := fun A => QcV D cA ad (shC.take nC) A τ) (by decide +kernel) w_914 (Nat.le_of_ble_eq_true rfl) (fun p e s m below meth c ls K hl hw => q_Sheet_put_0 hn K _ _ _ _ _ _ _ g_v0 hw hl hF)

/-! Main.film(III)I -/
abbrev b_Main_film : ByteArray := prog_1_method_25_code
def y_Main_film : MethodName := ⟨R_Main, "film", "(III)I"⟩
theorem a_Main_film : y_Main_film.cls = R_Main ∧ y_Main_film.cls ≠ "java/lang/invoke/MethodHandle" ∧ y_Main_film.cls ≠ "java/lang/invoke/VarHandle" ∧ (parseMethodDescriptor y_Main_film.desc).map (fun d => d.parameters.length) = some 3 := by decide +kernel
abbrev rm_Main_film : Room := { frames := 5, cells := 0, slots := 0, locals := 116 }
theorem w_906 : Cond.methodLink R_Main 258 y_Sheet_become ∈ TB := tb_in 906 (by decide +kernel) (by decide +kernel)
theorem w_907 : Cond.instanceMethod y_Sheet_become ∈ TB := tb_in 907 (by decide +kernel) (by decide +kernel)
theorem w_908 : Cond.selects R_Sheet y_Sheet_become y_Sheet_become ∈ TB := tb_in 908 (by decide +kernel) (by decide +kernel)
theorem w_911 : Cond.methodLink R_Main 261 y_Sheet_put ∈ TB := tb_in 911 (by decide +kernel) (by decide +kernel)
theorem w_912 : Cond.instanceMethod y_Sheet_put ∈ TB := tb_in 912 (by decide +kernel) (by decide +kernel)
theorem w_913 : Cond.selects R_Sheet y_Sheet_put y_Sheet_put ∈ TB := tb_in 913 (by decide +kernel) (by decide +kernel)
theorem w_905 : Cond.code y_Main_film b_Main_film 5 (some .int) ∈ TB := tb_in 905 (by decide +kernel) (by decide +kernel)
theorem d_Main_film_0 : decode b_Main_film 0 = .ok (.iload_n 1, 1) := by decide +kernel
theorem d_Main_film_1 : decode b_Main_film 1 = .ok (.invokestatic 255, 3) := by decide +kernel
theorem d_Main_film_4 : decode b_Main_film 4 = .ok (.ifCond .ne 6, 3) := by decide +kernel
theorem d_Main_film_7 : decode b_Main_film 7 = .ok (.bipush (-2), 2) := by decide +kernel
theorem d_Main_film_9 : decode b_Main_film 9 = .ok (.ireturn, 1) := by decide +kernel
theorem d_Main_film_10 : decode b_Main_film 10 = .ok (.aload_n 0, 1) := by decide +kernel
theorem d_Main_film_11 : decode b_Main_film 11 = .ok (.iload_n 2, 1) := by decide +kernel
theorem d_Main_film_12 : decode b_Main_film 12 = .ok (.invokevirtual 171, 3) := by decide +kernel
theorem d_Main_film_15 : decode b_Main_film 15 = .ok (.ifCond .ne 6, 3) := by decide +kernel
theorem d_Main_film_18 : decode b_Main_film 18 = .ok (.bipush (-5), 2) := by decide +kernel
theorem d_Main_film_20 : decode b_Main_film 20 = .ok (.ireturn, 1) := by decide +kernel
theorem d_Main_film_21 : decode b_Main_film 21 = .ok (.iload_n 3, 1) := by decide +kernel
theorem d_Main_film_22 : decode b_Main_film 22 = .ok (.iconst 0, 1) := by decide +kernel
theorem d_Main_film_23 : decode b_Main_film 23 = .ok (.bipush 8, 2) := by decide +kernel
theorem d_Main_film_25 : decode b_Main_film 25 = .ok (.invokestatic 108, 3) := by decide +kernel
theorem d_Main_film_28 : decode b_Main_film 28 = .ok (.ifCond .ne 6, 3) := by decide +kernel
theorem d_Main_film_31 : decode b_Main_film 31 = .ok (.bipush (-7), 2) := by decide +kernel
theorem d_Main_film_33 : decode b_Main_film 33 = .ok (.ireturn, 1) := by decide +kernel
theorem d_Main_film_34 : decode b_Main_film 34 = .ok (.aload_n 0, 1) := by decide +kernel
theorem d_Main_film_35 : decode b_Main_film 35 = .ok (.iload_n 2, 1) := by decide +kernel
theorem d_Main_film_36 : decode b_Main_film 36 = .ok (.bipush 10, 2) := by decide +kernel
theorem d_Main_film_38 : decode b_Main_film 38 = .ok (.idiv, 1) := by decide +kernel
theorem d_Main_film_39 : decode b_Main_film 39 = .ok (.iload_n 2, 1) := by decide +kernel
theorem d_Main_film_40 : decode b_Main_film 40 = .ok (.bipush 10, 2) := by decide +kernel
theorem d_Main_film_42 : decode b_Main_film 42 = .ok (.irem, 1) := by decide +kernel
theorem d_Main_film_43 : decode b_Main_film 43 = .ok (.invokevirtual 174, 3) := by decide +kernel
theorem d_Main_film_46 : decode b_Main_film 46 = .ok (.aload_n 0, 1) := by decide +kernel
theorem d_Main_film_47 : decode b_Main_film 47 = .ok (.getfield 30, 3) := by decide +kernel
theorem d_Main_film_50 : decode b_Main_film 50 = .ok (.iload_n 1, 1) := by decide +kernel
theorem d_Main_film_51 : decode b_Main_film 51 = .ok (.aaload, 1) := by decide +kernel
theorem d_Main_film_52 : decode b_Main_film 52 = .ok (.iconst 2, 1) := by decide +kernel
theorem d_Main_film_53 : decode b_Main_film 53 = .ok (.iload_n 3, 1) := by decide +kernel
theorem d_Main_film_54 : decode b_Main_film 54 = .ok (.invokevirtual 258, 3) := by decide +kernel
theorem d_Main_film_57 : decode b_Main_film 57 = .ok (.iconst 0, 1) := by decide +kernel
theorem d_Main_film_58 : decode b_Main_film 58 = .ok (.istore 4, 2) := by decide +kernel
theorem d_Main_film_60 : decode b_Main_film 60 = .ok (.iload 4, 2) := by decide +kernel
theorem d_Main_film_62 : decode b_Main_film 62 = .ok (.iload_n 3, 1) := by decide +kernel
theorem d_Main_film_63 : decode b_Main_film 63 = .ok (.if_icmp .ge 40, 3) := by decide +kernel
theorem d_Main_film_66 : decode b_Main_film 66 = .ok (.aload_n 0, 1) := by decide +kernel
theorem d_Main_film_67 : decode b_Main_film 67 = .ok (.getfield 86, 3) := by decide +kernel
theorem d_Main_film_70 : decode b_Main_film 70 = .ok (.iconst 5, 1) := by decide +kernel
theorem d_Main_film_71 : decode b_Main_film 71 = .ok (.iload 4, 2) := by decide +kernel
theorem d_Main_film_73 : decode b_Main_film 73 = .ok (.iconst 1, 1) := by decide +kernel
theorem d_Main_film_74 : decode b_Main_film 74 = .ok (.iadd, 1) := by decide +kernel
theorem d_Main_film_75 : decode b_Main_film 75 = .ok (.imul, 1) := by decide +kernel
theorem d_Main_film_76 : decode b_Main_film 76 = .ok (.invokevirtual 182, 3) := by decide +kernel
theorem d_Main_film_79 : decode b_Main_film 79 = .ok (.aload_n 0, 1) := by decide +kernel
theorem d_Main_film_80 : decode b_Main_film 80 = .ok (.getfield 30, 3) := by decide +kernel
theorem d_Main_film_83 : decode b_Main_film 83 = .ok (.iload_n 1, 1) := by decide +kernel
theorem d_Main_film_84 : decode b_Main_film 84 = .ok (.aaload, 1) := by decide +kernel
theorem d_Main_film_85 : decode b_Main_film 85 = .ok (.iload 4, 2) := by decide +kernel
theorem d_Main_film_87 : decode b_Main_film 87 = .ok (.aload_n 0, 1) := by decide +kernel
theorem d_Main_film_88 : decode b_Main_film 88 = .ok (.getfield 86, 3) := by decide +kernel
theorem d_Main_film_91 : decode b_Main_film 91 = .ok (.getfield 185, 3) := by decide +kernel
theorem d_Main_film_94 : decode b_Main_film 94 = .ok (.invokevirtual 261, 3) := by decide +kernel
theorem d_Main_film_97 : decode b_Main_film 97 = .ok (.iinc 4 1, 3) := by decide +kernel
theorem d_Main_film_100 : decode b_Main_film 100 = .ok (.goto (-40), 3) := by decide +kernel
theorem d_Main_film_103 : decode b_Main_film 103 = .ok (.iload_n 3, 1) := by decide +kernel
theorem d_Main_film_104 : decode b_Main_film 104 = .ok (.ireturn, 1) := by decide +kernel
section S_Main_film
variable {p : Program} {l : Launch} {e : Env} {s : State} {m : MethodId} {args : Array Value} {below : List Frame} {meth : Method} {c : Code} {D : va_G} {cA : Nat → ClassId} {ad : Nat → Nat} {nC : Nat} {A : Nat → Prop} {r : Int32} {τ : St}
noncomputable def F_Main_film_60 : Nat → St → Int32 → Int32 → Int32 → Option (Int32 × St)
  | 0, _, _, _, _ => none
  | n + 1, s0, v1, v3, v4 => (if v3 ≤ v4 then (some (v3, s0)) else (ob1 (F_Bout_playTo s0 ((5 : Int32) * (v4 + (1 : Int32)))) (fun s_10 => (if inB v1 4 = true then (ob1 (F_Sheet_put s_10 (33 + v1.toNatClampNeg) v4 (s_10.1 41 3)) (fun s_12 => (F_Main_film_60 n s_12 v1 v3 (v4 + 1)))) else none))))
set_option maxHeartbeats 4000000 in
set_option maxRecDepth 100000 in
theorem q_Main_film_60 (hn : 46 ≤ nC) (K : Fx p s m args meth c b_Main_film 5 R_Main (some .int))  : ∀ (n : Nat), ∀ (H : Heap) (locs : List Loc) (ls : Array Slot) (s0 : St) (v1 : Int32) (v3 : Int32) (v4 : Int32), Wh D cA ad (shC.take nC) A s s0 H locs → lv_has ls 5 [(0, .ref (ad 20)), (1, .int v1), (3, .int v3), (4, .int v4)] → F_Main_film_60 n s0 v1 v3 v4 = (some (r, τ)) → W p l e rm_Main_film s m args below meth c H locs 0 0 (MQ below (QcI D cA ad (shC.take nC) A r τ) args s 0 0 A) (F0 m 60 ls []) := by
  have hx := K.1.1; have hb := K.1.2.1
  intro n
  induction n with
  | zero =>
    intro H locs ls s0 v1 v3 v4 hw hl hF
    exact absurd hF (by rw [F_Main_film_60]; exact nofun)
  | succ n ih =>
    intro H locs ls s0 v1 v3 v4 hw hl hF
    rw [F_Main_film_60] at hF
    refine lv_iload hx hb d_Main_film_60 (lv_at hl 3 rfl) ?_
    refine lv_iload_n hx hb d_Main_film_62 rfl (lv_at hl 2 rfl) ?_
    refine lv_icmp_ge (tgt := 103) hx hb d_Main_film_63 (by decide) (fun c_9 => ?_) (fun c_9 => ?_)
    · replace hF := ifT hF c_9
      refine lv_iload_n hx hb d_Main_film_103 rfl (lv_at hl 2 rfl) ?_
      obtain ⟨hF, hG⟩ := sE2 hF
      subst hF
      subst hG
      exact r_iret K hw d_Main_film_104
    · replace hF := ifF hF c_9
      refine lv_aload_n hx hb d_Main_film_66 rfl (lv_at hl 0 rfl) ?_
      refine r_get (v := .ref (ad 41)) K hw i_Main (sh_Main (Nat.le_trans (Nat.le_of_ble_eq_true rfl) hn)) rfl 7 (by decide) w_605 rfl rfl rfl d_Main_film_67 ?_
      refine lv_iconst (v := 5) hx hb d_Main_film_70 (by decide) ?_
      refine lv_iload hx hb d_Main_film_71 (lv_at hl 3 rfl) ?_
      refine lv_iconst (v := 1) hx hb d_Main_film_73 (by decide) ?_
      refine lv_iadd hx hb d_Main_film_74 ?_
      refine lv_imul hx hb d_Main_film_75 ?_
      obtain ⟨s_10, h_s_10, hF⟩ := ob1E hF
      refine r_callVV (As := [.int ((5 : Int32) * (v4 + (1 : Int32)))]) (rest := []) K hw hl.1 (c_Bout_playTo (l := l) (D := D) (cA := cA) (ad := ad) (s0 := s0) (Nat.le_trans (Nat.le_of_ble_eq_true rfl) hn)  h_s_10) (sh_Bout (Nat.le_trans (Nat.le_of_ble_eq_true rfl) hn)) rfl (tb_gV w_737 w_738 w_739 w_77 w_740) a_Bout_playTo ⟨rfl, rfl, Nat.le_of_ble_eq_true rfl, Nat.le_of_ble_eq_true rfl⟩ rfl rfl (Nat.le_of_ble_eq_true rfl) d_Main_film_76 (fun H locs hw => ?_)
      refine lv_aload_n hx hb d_Main_film_79 rfl (lv_at hl 0 rfl) ?_
      refine r_get (v := .ref (ad 23)) K hw i_Main (sh_Main (Nat.le_trans (Nat.le_of_ble_eq_true rfl) hn)) rfl 9 (by decide) w_607 rfl rfl rfl d_Main_film_80 ?_
      refine lv_iload_n hx hb d_Main_film_83 rfl (lv_at hl 1 rfl) ?_
      obtain ⟨g_11, hF⟩ := ifG hF
      refine r_aald (k := v1.toNatClampNeg) K hw (sh_a23 (Nat.le_trans (Nat.le_of_ble_eq_true rfl) hn)) (rfl : (TYS cA)[3]? = some (cA 3, _)) rfl (inB_vp g_11) d_Main_film_84 ?_
      refine lv_iload hx hb d_Main_film_85 (lv_at hl 3 rfl) ?_
      refine lv_aload_n hx hb d_Main_film_87 rfl (lv_at hl 0 rfl) ?_
      refine r_get (v := .ref (ad 41)) K hw i_Main (sh_Main (Nat.le_trans (Nat.le_of_ble_eq_true rfl) hn)) rfl 7 (by decide) w_605 rfl rfl rfl d_Main_film_88 ?_
      refine r_get (v := .int (s_10.1 41 3)) K hw i_Bout (sh_Bout (Nat.le_trans (Nat.le_of_ble_eq_true rfl) hn)) rfl 3 (by decide) w_540 rfl rfl rfl d_Main_film_91 ?_
      obtain ⟨s_12, h_s_12, hF⟩ := ob1E hF
      refine r_callVV (As := [.int v4, .int (s_10.1 41 3)]) (rest := []) K hw hl.1 (c_Sheet_put (l := l) (D := D) (cA := cA) (ad := ad) (s0 := s_10) (Nat.le_trans (Nat.le_of_ble_eq_true rfl) hn) (P_Sheet_of g_11) h_s_12) (sh_Sheet (P_Sheet_of g_11) (Nat.le_trans (Nat.le_of_ble_eq_true rfl) hn)) rfl (tb_gV w_911 w_912 w_913 w_67 w_914) a_Sheet_put ⟨rfl, rfl, Nat.le_of_ble_eq_true rfl, Nat.le_of_ble_eq_true rfl⟩ rfl rfl (Nat.le_of_ble_eq_true rfl) d_Main_film_94 (fun H locs hw => ?_)
      refine lv_iinc (v := (v4 + 1)) (lv' := [(4, .int (v4 + 1)), (0, .ref (ad 20)), (1, .int v1), (3, .int v3)]) hx hb d_Main_film_97 hl (k := 3) rfl rfl (by decide) rfl (fun ls hl => ?_)
      refine lv_goto (tgt := 60) hx hb d_Main_film_100 (by decide) ?_
      exact ih _ _ _ _ _ _ _  hw (lv_sub hl [1, 2, 3, 0] rfl) hF
noncomputable def F_Main_film_0 (s0 : St) (v1 : Int32) (v2 : Int32) (v3 : Int32) : Option (Int32 × St) := (ob1 (F_Main_isSheet v1) (fun r_1 => (if ¬ r_1 = 0 then (ob1 (F_Main_tellsTwo s0 v2) (fun r_3 => (if ¬ r_3 = 0 then (if ¬ (F_Main_isWithin v3 (0 : Int32) (8 : Int32)) = 0 then (ob1 (F_Main_opn s0 (v2 / (10 : Int32)) (jrem v2 (10 : Int32))) (fun s_6 => (if inB v1 4 = true then (ob1 (F_Sheet_become s_6 (33 + v1.toNatClampNeg) (2 : Int32) v3) (fun s_8 => (F_Main_film_60 FU s_8 v1 v3 (0 : Int32)))) else none))) else (some ((-7 : Int32), s0))) else (some ((-5 : Int32), s0))))) else (some ((-2 : Int32), s0)))))
set_option maxHeartbeats 4000000 in
set_option maxRecDepth 100000 in
theorem q_Main_film_0 (hn : 46 ≤ nC) (K : Fx p s m args meth c b_Main_film 5 R_Main (some .int))  : ∀ (H : Heap) (locs : List Loc) (ls : Array Slot) (s0 : St) (v1 : Int32) (v2 : Int32) (v3 : Int32), Wh D cA ad (shC.take nC) A s s0 H locs → lv_has ls 5 [(0, .ref (ad 20)), (1, .int v1), (2, .int v2), (3, .int v3)] → F_Main_film_0 s0 v1 v2 v3 = (some (r, τ)) → W p l e rm_Main_film s m args below meth c H locs 0 0 (MQ below (QcI D cA ad (shC.take nC) A r τ) args s 0 0 A) (F0 m 0 ls []) := by
  have hx := K.1.1; have hb := K.1.2.1
  intro H locs ls s0 v1 v2 v3 hw hl hF
  unfold F_Main_film_0 at hF
  refine lv_iload_n hx hb d_Main_film_0 rfl (lv_at hl 1 rfl) ?_
  obtain ⟨r_1, h_r_1, hF⟩ := ob1E hF
  refine r_callSI (As := [.int v1]) (rest := []) K hw hl.1 (c_Main_isSheet (l := l) (D := D) (cA := cA) (ad := ad) (s0 := s0) (Nat.le_trans (Nat.le_of_ble_eq_true rfl) hn)  h_r_1) (tb_gS w_874 w_875 w_63 w_876) a_Main_isSheet ⟨rfl, rfl, Nat.le_of_ble_eq_true rfl, Nat.le_of_ble_eq_true rfl⟩ rfl rfl (Nat.le_of_ble_eq_true rfl) d_Main_film_1 (fun H locs hw => ?_)
  refine lv_if_ne (tgt := 10) hx hb d_Main_film_4 (by decide) (fun c_2 => ?_) (fun c_2 => ?_)
  · replace hF := ifT hF c_2
    refine lv_aload_n hx hb d_Main_film_10 rfl (lv_at hl 0 rfl) ?_
    refine lv_iload_n hx hb d_Main_film_11 rfl (lv_at hl 2 rfl) ?_
    obtain ⟨r_3, h_r_3, hF⟩ := ob1E hF
    refine r_callVI (As := [.int v2]) (rest := []) K hw hl.1 (c_Main_tellsTwo (l := l) (D := D) (cA := cA) (ad := ad) (s0 := s0) (Nat.le_trans (Nat.le_of_ble_eq_true rfl) hn)  h_r_3) (sh_Main (Nat.le_trans (Nat.le_of_ble_eq_true rfl) hn)) rfl (tb_gV w_720 w_722 w_16 w_63 w_723) a_Main_tellsTwo ⟨rfl, rfl, Nat.le_of_ble_eq_true rfl, Nat.le_of_ble_eq_true rfl⟩ rfl rfl (Nat.le_of_ble_eq_true rfl) d_Main_film_12 (fun H locs hw => ?_)
    refine lv_if_ne (tgt := 21) hx hb d_Main_film_15 (by decide) (fun c_4 => ?_) (fun c_4 => ?_)
    · replace hF := ifT hF c_4
      refine lv_iload_n hx hb d_Main_film_21 rfl (lv_at hl 3 rfl) ?_
      refine lv_iconst (v := 0) hx hb d_Main_film_22 (by decide) ?_
      refine lv_bipush (v := 8) hx hb d_Main_film_23 (by decide) ?_
      refine r_callSI (As := [.int v3, .int (0 : Int32), .int (8 : Int32)]) (rest := []) K hw hl.1 (c_Main_isWithin (l := l) (D := D) (cA := cA) (ad := ad) (s0 := s0) (Nat.le_trans (Nat.le_of_ble_eq_true rfl) hn)  rfl) (tb_gS w_640 w_347 w_63 w_348) a_Main_isWithin ⟨rfl, rfl, Nat.le_of_ble_eq_true rfl, Nat.le_of_ble_eq_true rfl⟩ rfl rfl (Nat.le_of_ble_eq_true rfl) d_Main_film_25 (fun H locs hw => ?_)
      refine lv_if_ne (tgt := 34) hx hb d_Main_film_28 (by decide) (fun c_5 => ?_) (fun c_5 => ?_)
      · replace hF := ifT hF c_5
        refine lv_aload_n hx hb d_Main_film_34 rfl (lv_at hl 0 rfl) ?_
        refine lv_iload_n hx hb d_Main_film_35 rfl (lv_at hl 2 rfl) ?_
        refine lv_bipush (v := 10) hx hb d_Main_film_36 (by decide) ?_
        refine lv_idiv hx hb d_Main_film_38 (by decide) ?_
        refine lv_iload_n hx hb d_Main_film_39 rfl (lv_at hl 2 rfl) ?_
        refine lv_bipush (v := 10) hx hb d_Main_film_40 (by decide) ?_
        refine lv_irem hx hb d_Main_film_42 (by decide) ?_
        obtain ⟨s_6, h_s_6, hF⟩ := ob1E hF
        refine r_callVV (As := [.int (v2 / (10 : Int32)), .int (jrem v2 (10 : Int32))]) (rest := []) K hw hl.1 (c_Main_opn (l := l) (D := D) (cA := cA) (ad := ad) (s0 := s0) (Nat.le_trans (Nat.le_of_ble_eq_true rfl) hn)  h_s_6) (sh_Main (Nat.le_trans (Nat.le_of_ble_eq_true rfl) hn)) rfl (tb_gV w_728 w_730 w_18 w_63 w_731) a_Main_opn ⟨rfl, rfl, Nat.le_of_ble_eq_true rfl, Nat.le_of_ble_eq_true rfl⟩ rfl rfl (Nat.le_of_ble_eq_true rfl) d_Main_film_43 (fun H locs hw => ?_)
        refine lv_aload_n hx hb d_Main_film_46 rfl (lv_at hl 0 rfl) ?_
        refine r_get (v := .ref (ad 23)) K hw i_Main (sh_Main (Nat.le_trans (Nat.le_of_ble_eq_true rfl) hn)) rfl 9 (by decide) w_607 rfl rfl rfl d_Main_film_47 ?_
        refine lv_iload_n hx hb d_Main_film_50 rfl (lv_at hl 1 rfl) ?_
        obtain ⟨g_7, hF⟩ := ifG hF
        refine r_aald (k := v1.toNatClampNeg) K hw (sh_a23 (Nat.le_trans (Nat.le_of_ble_eq_true rfl) hn)) (rfl : (TYS cA)[3]? = some (cA 3, _)) rfl (inB_vp g_7) d_Main_film_51 ?_
        refine lv_iconst (v := 2) hx hb d_Main_film_52 (by decide) ?_
        refine lv_iload_n hx hb d_Main_film_53 rfl (lv_at hl 3 rfl) ?_
        obtain ⟨s_8, h_s_8, hF⟩ := ob1E hF
        refine r_callVV (As := [.int (2 : Int32), .int v3]) (rest := []) K hw hl.1 (c_Sheet_become (l := l) (D := D) (cA := cA) (ad := ad) (s0 := s_6) (Nat.le_trans (Nat.le_of_ble_eq_true rfl) hn) (P_Sheet_of g_7) h_s_8) (sh_Sheet (P_Sheet_of g_7) (Nat.le_trans (Nat.le_of_ble_eq_true rfl) hn)) rfl (tb_gV w_906 w_907 w_908 w_67 w_909) a_Sheet_become ⟨rfl, rfl, Nat.le_of_ble_eq_true rfl, Nat.le_of_ble_eq_true rfl⟩ rfl rfl (Nat.le_of_ble_eq_true rfl) d_Main_film_54 (fun H locs hw => ?_)
        refine lv_iconst (v := 0) hx hb d_Main_film_57 (by decide) ?_
        refine lv_istore (lv' := [(4, .int (0 : Int32)), (0, .ref (ad 20)), (1, .int v1), (2, .int v2), (3, .int v3)]) hx hb d_Main_film_58 hl (by decide) rfl (fun ls hl => ?_)
        exact q_Main_film_60 hn K FU _ _ _ _ _ _ _  hw (lv_sub hl [1, 2, 4, 0] rfl) hF
      · replace hF := ifN hF c_5
        refine lv_bipush (v := -7) hx hb d_Main_film_31 (by decide) ?_
        obtain ⟨hF, hG⟩ := sE2 hF
        subst hF
        subst hG
        exact r_iret K hw d_Main_film_33
    · replace hF := ifN hF c_4
      refine lv_bipush (v := -5) hx hb d_Main_film_18 (by decide) ?_
      obtain ⟨hF, hG⟩ := sE2 hF
      subst hF
      subst hG
      exact r_iret K hw d_Main_film_20
  · replace hF := ifN hF c_2
    refine lv_bipush (v := -2) hx hb d_Main_film_7 (by decide) ?_
    obtain ⟨hF, hG⟩ := sE2 hF
    subst hF
    subst hG
    exact r_iret K hw d_Main_film_9
end S_Main_film
noncomputable abbrev F_Main_film := F_Main_film_0
theorem c_Main_film {l : Launch} {D : va_G} {cA : Nat → ClassId} {ad : Nat → Nat} {s0 τ : St} {nC : Nat} (hn : 46 ≤ nC) {r : Int32} {v1 : Int32} {v2 : Int32} {v3 : Int32}  (hF : F_Main_film s0 v1 v2 v3 = (some (r, τ))) : MI l D cA ad (shC.take nC) y_Main_film (wT y_Main_film b_Main_film 5 (some .int)) rm_Main_film [.ref (ad 20), .int v1, .int v2, .int v3] s0 r τ := fun sz => m_start (Qc := fun A => QcI D cA ad (shC.take nC) A r τ) (by decide +kernel) w_905 (Nat.le_of_ble_eq_true rfl) (fun p e s m below meth c ls K hl hw => q_Main_film_0 hn K _ _ _ _ _ _ _  hw hl hF)

/-! Main.lotBehind(J)J -/
abbrev b_Main_lotBehind : ByteArray := prog_1_method_53_code
def y_Main_lotBehind : MethodName := ⟨R_Main, "lotBehind", "(J)J"⟩
theorem a_Main_lotBehind : y_Main_lotBehind.cls = R_Main ∧ y_Main_lotBehind.cls ≠ "java/lang/invoke/MethodHandle" ∧ y_Main_lotBehind.cls ≠ "java/lang/invoke/VarHandle" ∧ (parseMethodDescriptor y_Main_lotBehind.desc).map (fun d => d.parameters.length) = some 1 := by decide +kernel
abbrev rm_Main_lotBehind : Room := { frames := 0, cells := 0, slots := 0, locals := 0 }
theorem w_927 : Cond.constantLong R_Main 310 (48271) ∈ TB := tb_in 927 (by decide +kernel) (by decide +kernel)
theorem w_928 : Cond.constantLong R_Main 312 (2147483647) ∈ TB := tb_in 928 (by decide +kernel) (by decide +kernel)
theorem w_926 : Cond.code y_Main_lotBehind b_Main_lotBehind 2 (some .long) ∈ TB := tb_in 926 (by decide +kernel) (by decide +kernel)
theorem d_Main_lotBehind_0 : decode b_Main_lotBehind 0 = .ok (.lload_n 0, 1) := by decide +kernel
theorem d_Main_lotBehind_1 : decode b_Main_lotBehind 1 = .ok (.ldc2_w 310, 3) := by decide +kernel
theorem d_Main_lotBehind_4 : decode b_Main_lotBehind 4 = .ok (.lmul, 1) := by decide +kernel
theorem d_Main_lotBehind_5 : decode b_Main_lotBehind 5 = .ok (.ldc2_w 312, 3) := by decide +kernel
theorem d_Main_lotBehind_8 : decode b_Main_lotBehind 8 = .ok (.lrem, 1) := by decide +kernel
theorem d_Main_lotBehind_9 : decode b_Main_lotBehind 9 = .ok (.lreturn, 1) := by decide +kernel
section S_Main_lotBehind
variable {p : Program} {l : Launch} {e : Env} {s : State} {m : MethodId} {args : Array Value} {below : List Frame} {meth : Method} {c : Code} {D : va_G} {cA : Nat → ClassId} {ad : Nat → Nat} {nC : Nat} {A : Nat → Prop} {r : Int64} {τ : St}
noncomputable def F_Main_lotBehind_0 (v0 : Int64) : Int64 := (jremL (v0 * (48271 : Int64)) (2147483647 : Int64))
set_option maxHeartbeats 4000000 in
set_option maxRecDepth 100000 in
theorem q_Main_lotBehind_0 (hn : 0 ≤ nC) (s0 : St) (K : Fx p s m args meth c b_Main_lotBehind 2 R_Main (some .long))  : ∀ (H : Heap) (locs : List Loc) (ls : Array Slot) (v0 : Int64), Wh D cA ad (shC.take nC) A s s0 H locs → lv_has ls 2 [(0, .long v0)] → F_Main_lotBehind_0 v0 = r → W p l e rm_Main_lotBehind s m args below meth c H locs 0 0 (MQ below (QcL D cA ad (shC.take nC) A r s0) args s 0 0 A) (F0 m 0 ls []) := by
  have hx := K.1.1; have hb := K.1.2.1
  intro H locs ls v0 hw hl hF
  unfold F_Main_lotBehind_0 at hF
  refine lv_lload_n hx hb d_Main_lotBehind_0 rfl (lv_at hl 0 rfl) ?_
  refine lv_ldc2 (v := 48271) hx hb K.1.2.2.2.1 (K.1.2.2.2.2 _ w_927) d_Main_lotBehind_1 ?_
  refine lv_lmul hx hb d_Main_lotBehind_4 ?_
  refine lv_ldc2 (v := 2147483647) hx hb K.1.2.2.2.1 (K.1.2.2.2.2 _ w_928) d_Main_lotBehind_5 ?_
  refine lv_lrem hx hb d_Main_lotBehind_8 (by decide) ?_
  subst hF
  exact r_lret K hw d_Main_lotBehind_9
end S_Main_lotBehind
noncomputable abbrev F_Main_lotBehind := F_Main_lotBehind_0
theorem c_Main_lotBehind {l : Launch} {D : va_G} {cA : Nat → ClassId} {ad : Nat → Nat} {s0 : St} {nC : Nat} (hn : 0 ≤ nC) {r : Int64} {v0 : Int64}  (hF : F_Main_lotBehind v0 = r) : ML l D cA ad (shC.take nC) y_Main_lotBehind (wT y_Main_lotBehind b_Main_lotBehind 2 (some .long)) rm_Main_lotBehind [.long v0] s0 r s0 := fun sz => m_start (Qc := fun A => QcL D cA ad (shC.take nC) A r s0) (by decide +kernel) w_926 (Nat.le_of_ble_eq_true rfl) (fun p e s m below meth c ls K hl hw => q_Main_lotBehind_0 hn s0 K _ _ _ _  hw hl hF)
