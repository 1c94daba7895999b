/-! Main.winnerDrawn(III)I -/
abbrev b_Main_winnerDrawn : ByteArray := prog_1_method_54_code
def y_Main_winnerDrawn : MethodName := ⟨R_Main, "winnerDrawn", "(III)I"⟩
theorem a_Main_winnerDrawn : y_Main_winnerDrawn.cls = R_Main ∧ y_Main_winnerDrawn.cls ≠ "java/lang/invoke/MethodHandle" ∧ y_Main_winnerDrawn.cls ≠ "java/lang/invoke/VarHandle" ∧ (parseMethodDescriptor y_Main_winnerDrawn.desc).map (fun d => d.parameters.length) = some 3 := by decide +kernel
abbrev rm_Main_winnerDrawn : Room := { frames := 5, cells := 0, slots := 0, locals := 116 }
theorem w_924 : Cond.methodLink R_Main 314 y_Main_lotBehind ∈ TB := tb_in 924 (by decide +kernel) (by decide +kernel)
theorem w_925 : Cond.static y_Main_lotBehind ∈ TB := tb_in 925 (by decide +kernel) (by decide +kernel)
theorem w_517 : Cond.fieldLink R_Main 318 R_Side "late" "I" ∈ TB := tb_in 517 (by decide +kernel) (by decide +kernel)
theorem w_929 : Cond.constantLong R_Main 319 (4) ∈ TB := tb_in 929 (by decide +kernel) (by decide +kernel)
theorem w_923 : Cond.code y_Main_winnerDrawn b_Main_winnerDrawn 8 (some .int) ∈ TB := tb_in 923 (by decide +kernel) (by decide +kernel)
theorem d_Main_winnerDrawn_0 : decode b_Main_winnerDrawn 0 = .ok (.iload_n 1, 1) := by decide +kernel
theorem d_Main_winnerDrawn_1 : decode b_Main_winnerDrawn 1 = .ok (.i2l, 1) := by decide +kernel
theorem d_Main_winnerDrawn_2 : decode b_Main_winnerDrawn 2 = .ok (.lconst 1, 1) := by decide +kernel
theorem d_Main_winnerDrawn_3 : decode b_Main_winnerDrawn 3 = .ok (.ladd, 1) := by decide +kernel
theorem d_Main_winnerDrawn_4 : decode b_Main_winnerDrawn 4 = .ok (.invokestatic 314, 3) := by decide +kernel
theorem d_Main_winnerDrawn_7 : decode b_Main_winnerDrawn 7 = .ok (.lstore 4, 2) := by decide +kernel
theorem d_Main_winnerDrawn_9 : decode b_Main_winnerDrawn 9 = .ok (.lload 4, 2) := by decide +kernel
theorem d_Main_winnerDrawn_11 : decode b_Main_winnerDrawn 11 = .ok (.invokestatic 314, 3) := by decide +kernel
theorem d_Main_winnerDrawn_14 : decode b_Main_winnerDrawn 14 = .ok (.lstore 6, 2) := by decide +kernel
theorem d_Main_winnerDrawn_16 : decode b_Main_winnerDrawn 16 = .ok (.aload_n 0, 1) := by decide +kernel
theorem d_Main_winnerDrawn_17 : decode b_Main_winnerDrawn 17 = .ok (.iload_n 2, 1) := by decide +kernel
theorem d_Main_winnerDrawn_18 : decode b_Main_winnerDrawn 18 = .ok (.iload_n 3, 1) := by decide +kernel
theorem d_Main_winnerDrawn_19 : decode b_Main_winnerDrawn 19 = .ok (.invokevirtual 174, 3) := by decide +kernel
theorem d_Main_winnerDrawn_22 : decode b_Main_winnerDrawn 22 = .ok (.aload_n 0, 1) := by decide +kernel
theorem d_Main_winnerDrawn_23 : decode b_Main_winnerDrawn 23 = .ok (.getfield 86, 3) := by decide +kernel
theorem d_Main_winnerDrawn_26 : decode b_Main_winnerDrawn 26 = .ok (.getfield 123, 3) := by decide +kernel
theorem d_Main_winnerDrawn_29 : decode b_Main_winnerDrawn 29 = .ok (.dup, 1) := by decide +kernel
theorem d_Main_winnerDrawn_30 : decode b_Main_winnerDrawn 30 = .ok (.getfield 318, 3) := by decide +kernel
theorem d_Main_winnerDrawn_33 : decode b_Main_winnerDrawn 33 = .ok (.lload 4, 2) := by decide +kernel
theorem d_Main_winnerDrawn_35 : decode b_Main_winnerDrawn 35 = .ok (.ldc2_w 319, 3) := by decide +kernel
theorem d_Main_winnerDrawn_38 : decode b_Main_winnerDrawn 38 = .ok (.lrem, 1) := by decide +kernel
theorem d_Main_winnerDrawn_39 : decode b_Main_winnerDrawn 39 = .ok (.l2i, 1) := by decide +kernel
theorem d_Main_winnerDrawn_40 : decode b_Main_winnerDrawn 40 = .ok (.iadd, 1) := by decide +kernel
theorem d_Main_winnerDrawn_41 : decode b_Main_winnerDrawn 41 = .ok (.putfield 318, 3) := by decide +kernel
theorem d_Main_winnerDrawn_44 : decode b_Main_winnerDrawn 44 = .ok (.aload_n 0, 1) := by decide +kernel
theorem d_Main_winnerDrawn_45 : decode b_Main_winnerDrawn 45 = .ok (.getfield 86, 3) := by decide +kernel
theorem d_Main_winnerDrawn_48 : decode b_Main_winnerDrawn 48 = .ok (.getfield 188, 3) := by decide +kernel
theorem d_Main_winnerDrawn_51 : decode b_Main_winnerDrawn 51 = .ok (.dup, 1) := by decide +kernel
theorem d_Main_winnerDrawn_52 : decode b_Main_winnerDrawn 52 = .ok (.getfield 318, 3) := by decide +kernel
theorem d_Main_winnerDrawn_55 : decode b_Main_winnerDrawn 55 = .ok (.lload 6, 2) := by decide +kernel
theorem d_Main_winnerDrawn_57 : decode b_Main_winnerDrawn 57 = .ok (.ldc2_w 319, 3) := by decide +kernel
theorem d_Main_winnerDrawn_60 : decode b_Main_winnerDrawn 60 = .ok (.lrem, 1) := by decide +kernel
theorem d_Main_winnerDrawn_61 : decode b_Main_winnerDrawn 61 = .ok (.l2i, 1) := by decide +kernel
theorem d_Main_winnerDrawn_62 : decode b_Main_winnerDrawn 62 = .ok (.iadd, 1) := by decide +kernel
theorem d_Main_winnerDrawn_63 : decode b_Main_winnerDrawn 63 = .ok (.putfield 318, 3) := by decide +kernel
theorem d_Main_winnerDrawn_66 : decode b_Main_winnerDrawn 66 = .ok (.aload_n 0, 1) := by decide +kernel
theorem d_Main_winnerDrawn_67 : decode b_Main_winnerDrawn 67 = .ok (.getfield 86, 3) := by decide +kernel
theorem d_Main_winnerDrawn_70 : decode b_Main_winnerDrawn 70 = .ok (.bipush 40, 2) := by decide +kernel
theorem d_Main_winnerDrawn_72 : decode b_Main_winnerDrawn 72 = .ok (.invokevirtual 182, 3) := by decide +kernel
theorem d_Main_winnerDrawn_75 : decode b_Main_winnerDrawn 75 = .ok (.aload_n 0, 1) := by decide +kernel
theorem d_Main_winnerDrawn_76 : decode b_Main_winnerDrawn 76 = .ok (.iload_n 2, 1) := by decide +kernel
theorem d_Main_winnerDrawn_77 : decode b_Main_winnerDrawn 77 = .ok (.iload_n 3, 1) := by decide +kernel
theorem d_Main_winnerDrawn_78 : decode b_Main_winnerDrawn 78 = .ok (.invokevirtual 198, 3) := by decide +kernel
theorem d_Main_winnerDrawn_81 : decode b_Main_winnerDrawn 81 = .ok (.ireturn, 1) := by decide +kernel
section S_Main_winnerDrawn
variable {p : Program} {l : Launch} {e : Env} {s : State} {m : MethodId} {args : Array Value} {below : List Frame} {meth : Method} {c : Code} {D : va_G} {cA : Nat → ClassId} {ad : Nat → Nat} {nC : Nat} {A : Nat → Prop} {r : Int32} {τ : St}
noncomputable def F_Main_winnerDrawn_0 (s0 : St) (v1 : Int32) (v2 : Int32) (v3 : Int32) : Option (Int32 × St) := (lt ((F_Main_lotBehind ((v1.toInt64) + (1 : Int64)))) (fun w_1 => (ob1 (F_Main_opn s0 v2 v3) (fun s_2 => (lt (up1 s_2 42 3 ((s_2.1 42 3) + ((jremL w_1 (4 : Int64)).toInt32))) (fun s_3 => (lt (up1 s_3 44 3 ((s_3.1 44 3) + ((jremL (F_Main_lotBehind w_1) (4 : Int64)).toInt32))) (fun s_4 => (ob1 (F_Bout_playTo s_4 (40 : Int32)) (fun s_5 => (some ((F_Main_winner s_5 v2 v3), s_5))))))))))))
set_option maxHeartbeats 4000000 in
set_option maxRecDepth 100000 in
theorem q_Main_winnerDrawn_0 (hn : 46 ≤ nC) (K : Fx p s m args meth c b_Main_winnerDrawn 8 R_Main (some .int))  : ∀ (H : Heap) (locs : List Loc) (ls : Array Slot) (s0 : St) (v1 : Int32) (v2 : Int32) (v3 : Int32), Wh D cA ad (shC.take nC) A s s0 H locs → lv_has ls 8 [(0, .ref (ad 20)), (1, .int v1), (2, .int v2), (3, .int v3)] → F_Main_winnerDrawn_0 s0 v1 v2 v3 = (some (r, τ)) → W p l e rm_Main_winnerDrawn s m args below meth c H locs 0 0 (MQ below (QcI D cA ad (shC.take nC) A r τ) args s 0 0 A) (F0 m 0 ls []) := by
  have hx := K.1.1; have hb := K.1.2.1
  intro H locs ls s0 v1 v2 v3 hw hl hF
  unfold F_Main_winnerDrawn_0 at hF
  refine lv_iload_n hx hb d_Main_winnerDrawn_0 rfl (lv_at hl 1 rfl) ?_
  refine lv_i2l (v := v1.toInt64) hx hb d_Main_winnerDrawn_1 rfl ?_
  refine lv_lconst (v := 1) hx hb d_Main_winnerDrawn_2 (by decide) ?_
  refine lv_ladd hx hb d_Main_winnerDrawn_3 ?_
  refine r_callSL (As := [.long ((v1.toInt64) + (1 : Int64))]) (rest := []) K hw hl.1 (c_Main_lotBehind (l := l) (D := D) (cA := cA) (ad := ad) (s0 := s0) (Nat.le_trans (Nat.le_of_ble_eq_true rfl) hn)  rfl) (tb_gS w_924 w_925 w_63 w_926) a_Main_lotBehind ⟨rfl, rfl, Nat.le_of_ble_eq_true rfl, Nat.le_of_ble_eq_true rfl⟩ rfl rfl (Nat.le_of_ble_eq_true rfl) d_Main_winnerDrawn_4 (fun H locs hw => ?_)
  refine lv_topl (fun w_1 f_w_1 => ?_)
  replace hF := ltN hF f_w_1
  refine lv_lstore (lv' := [(4, .long w_1), (0, .ref (ad 20)), (1, .int v1), (2, .int v2), (3, .int v3)]) hx hb d_Main_winnerDrawn_7 hl (by decide) rfl (fun ls hl => ?_)
  refine lv_lload hx hb d_Main_winnerDrawn_9 (lv_at hl 0 rfl) ?_
  refine r_callSL (As := [.long w_1]) (rest := []) K hw hl.1 (c_Main_lotBehind (l := l) (D := D) (cA := cA) (ad := ad) (s0 := s0) (Nat.le_trans (Nat.le_of_ble_eq_true rfl) hn)  rfl) (tb_gS w_924 w_925 w_63 w_926) a_Main_lotBehind ⟨rfl, rfl, Nat.le_of_ble_eq_true rfl, Nat.le_of_ble_eq_true rfl⟩ rfl rfl (Nat.le_of_ble_eq_true rfl) d_Main_winnerDrawn_11 (fun H locs hw => ?_)
  refine lv_lstore (lv' := [(6, .long (F_Main_lotBehind w_1)), (4, .long w_1), (0, .ref (ad 20)), (1, .int v1), (2, .int v2), (3, .int v3)]) hx hb d_Main_winnerDrawn_14 hl (by decide) rfl (fun ls hl => ?_)
  refine lv_aload_n hx hb d_Main_winnerDrawn_16 rfl (lv_at hl 2 rfl) ?_
  refine lv_iload_n hx hb d_Main_winnerDrawn_17 rfl (lv_at hl 4 rfl) ?_
  refine lv_iload_n hx hb d_Main_winnerDrawn_18 rfl (lv_at hl 5 rfl) ?_
  obtain ⟨s_2, h_s_2, hF⟩ := ob1E hF
  refine r_callVV (As := [.int v2, .int v3]) (rest := []) K hw hl.1 (c_Main_opn (l := l) (D := D) (cA := cA) (ad := ad) (s0 := s0) (Nat.le_trans (Nat.le_of_ble_eq_true rfl) hn)  h_s_2) (sh_Main (Nat.le_trans (Nat.le_of_ble_eq_true rfl) hn)) rfl (tb_gV w_728 w_730 w_18 w_63 w_731) a_Main_opn ⟨rfl, rfl, Nat.le_of_ble_eq_true rfl, Nat.le_of_ble_eq_true rfl⟩ rfl rfl (Nat.le_of_ble_eq_true rfl) d_Main_winnerDrawn_19 (fun H locs hw => ?_)
  refine lv_aload_n hx hb d_Main_winnerDrawn_22 rfl (lv_at hl 2 rfl) ?_
  refine r_get (v := .ref (ad 41)) K hw i_Main (sh_Main (Nat.le_trans (Nat.le_of_ble_eq_true rfl) hn)) rfl 7 (by decide) w_605 rfl rfl rfl d_Main_winnerDrawn_23 ?_
  refine r_get (v := .ref (ad 42)) K hw i_Bout (sh_Bout (Nat.le_trans (Nat.le_of_ble_eq_true rfl) hn)) rfl 0 (by decide) w_532 rfl rfl rfl d_Main_winnerDrawn_26 ?_
  refine lv_dup hx hb d_Main_winnerDrawn_29 rfl ?_
  refine r_get (v := .int (s_2.1 42 3)) K hw i_Side (sh_Side (by decide) (Nat.le_trans (Nat.le_of_ble_eq_true rfl) hn)) rfl 3 (by decide) w_517 rfl rfl rfl d_Main_winnerDrawn_30 ?_
  refine lv_lload hx hb d_Main_winnerDrawn_33 (lv_at hl 1 rfl) ?_
  refine lv_ldc2 (v := 4) hx hb K.1.2.2.2.1 (K.1.2.2.2.2 _ w_929) d_Main_winnerDrawn_35 ?_
  refine lv_lrem hx hb d_Main_winnerDrawn_38 (by decide) ?_
  refine lv_l2i (v := (jremL w_1 (4 : Int64)).toInt32) hx hb d_Main_winnerDrawn_39 rfl ?_
  refine lv_iadd hx hb d_Main_winnerDrawn_40 ?_
  refine r_putI K hw i_Side t_Side t_Side_ok n_Side (sh_Side (by decide) (Nat.le_trans (Nat.le_of_ble_eq_true rfl) hn)) rfl 3 (by decide) w_517 rfl rfl rfl rfl rfl d_Main_winnerDrawn_41 (fun s_3 f_s_3 H locs hw => ?_)
  replace hF := ltN hF f_s_3
  refine lv_aload_n hx hb d_Main_winnerDrawn_44 rfl (lv_at hl 2 rfl) ?_
  refine r_get (v := .ref (ad 41)) K hw i_Main (sh_Main (Nat.le_trans (Nat.le_of_ble_eq_true rfl) hn)) rfl 7 (by decide) w_605 rfl rfl rfl d_Main_winnerDrawn_45 ?_
  refine r_get (v := .ref (ad 44)) K hw i_Bout (sh_Bout (Nat.le_trans (Nat.le_of_ble_eq_true rfl) hn)) rfl 1 (by decide) w_535 rfl rfl rfl d_Main_winnerDrawn_48 ?_
  refine lv_dup hx hb d_Main_winnerDrawn_51 rfl ?_
  refine r_get (v := .int (s_3.1 44 3)) K hw i_Side (sh_Side (by decide) (Nat.le_trans (Nat.le_of_ble_eq_true rfl) hn)) rfl 3 (by decide) w_517 rfl rfl rfl d_Main_winnerDrawn_52 ?_
  refine lv_lload hx hb d_Main_winnerDrawn_55 (lv_at hl 0 rfl) ?_
  refine lv_ldc2 (v := 4) hx hb K.1.2.2.2.1 (K.1.2.2.2.2 _ w_929) d_Main_winnerDrawn_57 ?_
  refine lv_lrem hx hb d_Main_winnerDrawn_60 (by decide) ?_
  refine lv_l2i (v := (jremL (F_Main_lotBehind w_1) (4 : Int64)).toInt32) hx hb d_Main_winnerDrawn_61 rfl ?_
  refine lv_iadd hx hb d_Main_winnerDrawn_62 ?_
  refine r_putI K hw i_Side t_Side t_Side_ok n_Side (sh_Side (by decide) (Nat.le_trans (Nat.le_of_ble_eq_true rfl) hn)) rfl 3 (by decide) w_517 rfl rfl rfl rfl rfl d_Main_winnerDrawn_63 (fun s_4 f_s_4 H locs hw => ?_)
  replace hF := ltN hF f_s_4
  refine lv_aload_n hx hb d_Main_winnerDrawn_66 rfl (lv_at hl 2 rfl) ?_
  refine r_get (v := .ref (ad 41)) K hw i_Main (sh_Main (Nat.le_trans (Nat.le_of_ble_eq_true rfl) hn)) rfl 7 (by decide) w_605 rfl rfl rfl d_Main_winnerDrawn_67 ?_
  refine lv_bipush (v := 40) hx hb d_Main_winnerDrawn_70 (by decide) ?_
  obtain ⟨s_5, h_s_5, hF⟩ := ob1E hF
  refine r_callVV (As := [.int (40 : Int32)]) (rest := []) K hw hl.1 (c_Bout_playTo (l := l) (D := D) (cA := cA) (ad := ad) (s0 := s_4) (Nat.le_trans (Nat.le_of_ble_eq_true rfl) hn)  h_s_5) (sh_Bout (Nat.le_trans (Nat.le_of_ble_eq_true rfl) hn)) rfl (tb_gV w_737 w_738 w_739 w_77 w_740) a_Bout_playTo ⟨rfl, rfl, Nat.le_of_ble_eq_true rfl, Nat.le_of_ble_eq_true rfl⟩ rfl rfl (Nat.le_of_ble_eq_true rfl) d_Main_winnerDrawn_72 (fun H locs hw => ?_)
  refine lv_aload_n hx hb d_Main_winnerDrawn_75 rfl (lv_at hl 2 rfl) ?_
  refine lv_iload_n hx hb d_Main_winnerDrawn_76 rfl (lv_at hl 4 rfl) ?_
  refine lv_iload_n hx hb d_Main_winnerDrawn_77 rfl (lv_at hl 5 rfl) ?_
  refine r_callVI (As := [.int v2, .int v3]) (rest := []) K hw hl.1 (c_Main_winner (l := l) (D := D) (cA := cA) (ad := ad) (s0 := s_5) (Nat.le_trans (Nat.le_of_ble_eq_true rfl) hn)  rfl) (sh_Main (Nat.le_trans (Nat.le_of_ble_eq_true rfl) hn)) rfl (tb_gV w_776 w_778 w_19 w_63 w_779) a_Main_winner ⟨rfl, rfl, Nat.le_of_ble_eq_true rfl, Nat.le_of_ble_eq_true rfl⟩ rfl rfl (Nat.le_of_ble_eq_true rfl) d_Main_winnerDrawn_78 (fun H locs hw => ?_)
  obtain ⟨hF, hG⟩ := sE2 hF
  subst hF
  subst hG
  exact r_iret K hw d_Main_winnerDrawn_81
end S_Main_winnerDrawn
noncomputable abbrev F_Main_winnerDrawn := F_Main_winnerDrawn_0
theorem c_Main_winnerDrawn {l : Launch} {D : va_G} {cA : Nat → ClassId} {ad : Nat → Nat} {s0 τ : St} {nC : Nat} (hn : 46 ≤ nC) {r : Int32} {v1 : Int32} {v2 : Int32} {v3 : Int32}  (hF : F_Main_winnerDrawn s0 v1 v2 v3 = (some (r, τ))) : MI l D cA ad (shC.take nC) y_Main_winnerDrawn (wT y_Main_winnerDrawn b_Main_winnerDrawn 8 (some .int)) rm_Main_winnerDrawn [.ref (ad 20), .int v1, .int v2, .int v3] s0 r τ := fun sz => m_start (Qc := fun A => QcI D cA ad (shC.take nC) A r τ) (by decide +kernel) w_923 (Nat.le_of_ble_eq_true rfl) (fun p e s m below meth c ls K hl hw => q_Main_winnerDrawn_0 hn K _ _ _ _ _ _ _  hw hl hF)

/-! Main.drawn(III)I -/
abbrev b_Main_drawn : ByteArray := prog_1_method_26_code
def y_Main_drawn : MethodName := ⟨R_Main, "drawn", "(III)I"⟩
theorem a_Main_drawn : y_Main_drawn.cls = R_Main ∧ y_Main_drawn.cls ≠ "java/lang/invoke/MethodHandle" ∧ y_Main_drawn.cls ≠ "java/lang/invoke/VarHandle" ∧ (parseMethodDescriptor y_Main_drawn.desc).map (fun d => d.parameters.length) = some 3 := by decide +kernel
abbrev rm_Main_drawn : Room := { frames := 6, cells := 0, slots := 0, locals := 143 }
theorem w_919 : Cond.constant R_Main 264 99999 ∈ TB := tb_in 919 (by decide +kernel) (by decide +kernel)
theorem w_920 : Cond.methodLink R_Main 265 y_Main_winnerDrawn ∈ TB := tb_in 920 (by decide +kernel) (by decide +kernel)
theorem w_922 : Cond.instanceMethod y_Main_winnerDrawn ∈ TB := tb_in 922 (by decide +kernel) (by decide +kernel)
theorem w_29 : Cond.selects R_Main y_Main_winnerDrawn y_Main_winnerDrawn ∈ TB := tb_in 29 (by decide +kernel) (by decide +kernel)
theorem w_918 : Cond.code y_Main_drawn b_Main_drawn 4 (some .int) ∈ TB := tb_in 918 (by decide +kernel) (by decide +kernel)
theorem d_Main_drawn_0 : decode b_Main_drawn 0 = .ok (.aload_n 0, 1) := by decide +kernel
theorem d_Main_drawn_1 : decode b_Main_drawn 1 = .ok (.iload_n 2, 1) := by decide +kernel
theorem d_Main_drawn_2 : decode b_Main_drawn 2 = .ok (.iload_n 3, 1) := by decide +kernel
theorem d_Main_drawn_3 : decode b_Main_drawn 3 = .ok (.invokevirtual 194, 3) := by decide +kernel
theorem d_Main_drawn_6 : decode b_Main_drawn 6 = .ok (.ifCond .ne 6, 3) := by decide +kernel
theorem d_Main_drawn_9 : decode b_Main_drawn 9 = .ok (.bipush (-5), 2) := by decide +kernel
theorem d_Main_drawn_11 : decode b_Main_drawn 11 = .ok (.ireturn, 1) := by decide +kernel
theorem d_Main_drawn_12 : decode b_Main_drawn 12 = .ok (.iload_n 1, 1) := by decide +kernel
theorem d_Main_drawn_13 : decode b_Main_drawn 13 = .ok (.iconst 0, 1) := by decide +kernel
theorem d_Main_drawn_14 : decode b_Main_drawn 14 = .ok (.ldc_w 264, 3) := by decide +kernel
theorem d_Main_drawn_17 : decode b_Main_drawn 17 = .ok (.invokestatic 108, 3) := by decide +kernel
theorem d_Main_drawn_20 : decode b_Main_drawn 20 = .ok (.ifCond .ne 6, 3) := by decide +kernel
theorem d_Main_drawn_23 : decode b_Main_drawn 23 = .ok (.bipush (-7), 2) := by decide +kernel
theorem d_Main_drawn_25 : decode b_Main_drawn 25 = .ok (.ireturn, 1) := by decide +kernel
theorem d_Main_drawn_26 : decode b_Main_drawn 26 = .ok (.aload_n 0, 1) := by decide +kernel
theorem d_Main_drawn_27 : decode b_Main_drawn 27 = .ok (.iload_n 1, 1) := by decide +kernel
theorem d_Main_drawn_28 : decode b_Main_drawn 28 = .ok (.iload_n 2, 1) := by decide +kernel
theorem d_Main_drawn_29 : decode b_Main_drawn 29 = .ok (.iload_n 3, 1) := by decide +kernel
theorem d_Main_drawn_30 : decode b_Main_drawn 30 = .ok (.invokevirtual 265, 3) := by decide +kernel
theorem d_Main_drawn_33 : decode b_Main_drawn 33 = .ok (.ireturn, 1) := by decide +kernel
section S_Main_drawn
variable {p : Program} {l : Launch} {e : Env} {s : State} {m : MethodId} {args : Array Value} {below : List Frame} {meth : Method} {c : Code} {D : va_G} {cA : Nat → ClassId} {ad : Nat → Nat} {nC : Nat} {A : Nat → Prop} {r : Int32} {τ : St}
noncomputable def F_Main_drawn_0 (s0 : St) (v1 : Int32) (v2 : Int32) (v3 : Int32) : Option (Int32 × St) := (ob1 (F_Main_areTwo s0 v2 v3) (fun r_1 => (if ¬ r_1 = 0 then (if ¬ (F_Main_isWithin v1 (0 : Int32) (99999 : Int32)) = 0 then (ob2 (F_Main_winnerDrawn s0 v1 v2 v3) (fun r_4 s_5 => (some (r_4, s_5)))) else (some ((-7 : Int32), s0))) else (some ((-5 : Int32), s0)))))
set_option maxHeartbeats 4000000 in
set_option maxRecDepth 100000 in
theorem q_Main_drawn_0 (hn : 46 ≤ nC) (K : Fx p s m args meth c b_Main_drawn 4 R_Main (some .int))  : ∀ (H : Heap) (locs : List Loc) (ls : Array Slot) (s0 : St) (v1 : Int32) (v2 : Int32) (v3 : Int32), Wh D cA ad (shC.take nC) A s s0 H locs → lv_has ls 4 [(0, .ref (ad 20)), (1, .int v1), (2, .int v2), (3, .int v3)] → F_Main_drawn_0 s0 v1 v2 v3 = (some (r, τ)) → W p l e rm_Main_drawn s m args below meth c H locs 0 0 (MQ below (QcI D cA ad (shC.take nC) A r τ) args s 0 0 A) (F0 m 0 ls []) := by
  have hx := K.1.1; have hb := K.1.2.1
  intro H locs ls s0 v1 v2 v3 hw hl hF
  unfold F_Main_drawn_0 at hF
  refine lv_aload_n hx hb d_Main_drawn_0 rfl (lv_at hl 0 rfl) ?_
  refine lv_iload_n hx hb d_Main_drawn_1 rfl (lv_at hl 2 rfl) ?_
  refine lv_iload_n hx hb d_Main_drawn_2 rfl (lv_at hl 3 rfl) ?_
  obtain ⟨r_1, h_r_1, hF⟩ := ob1E hF
  refine r_callVI (As := [.int v2, .int v3]) (rest := []) K hw hl.1 (c_Main_areTwo (l := l) (D := D) (cA := cA) (ad := ad) (s0 := s0) (Nat.le_trans (Nat.le_of_ble_eq_true rfl) hn)  h_r_1) (sh_Main (Nat.le_trans (Nat.le_of_ble_eq_true rfl) hn)) rfl (tb_gV w_724 w_726 w_17 w_63 w_727) a_Main_areTwo ⟨rfl, rfl, Nat.le_of_ble_eq_true rfl, Nat.le_of_ble_eq_true rfl⟩ rfl rfl (Nat.le_of_ble_eq_true rfl) d_Main_drawn_3 (fun H locs hw => ?_)
  refine lv_if_ne (tgt := 12) hx hb d_Main_drawn_6 (by decide) (fun c_2 => ?_) (fun c_2 => ?_)
  · replace hF := ifT hF c_2
    refine lv_iload_n hx hb d_Main_drawn_12 rfl (lv_at hl 1 rfl) ?_
    refine lv_iconst (v := 0) hx hb d_Main_drawn_13 (by decide) ?_
    refine lv_ldcw (v := 99999) hx hb K.1.2.2.2.1 (K.1.2.2.2.2 _ w_919) d_Main_drawn_14 ?_
    refine r_callSI (As := [.int v1, .int (0 : Int32), .int (99999 : Int32)]) (rest := []) K hw hl.1 (c_Main_isWithin (l := l) (D := D) (cA := cA) (ad := ad) (s0 := s0) (Nat.le_trans (Nat.le_of_ble_eq_true rfl) hn)  rfl) (tb_gS w_640 w_347 w_63 w_348) a_Main_isWithin ⟨rfl, rfl, Nat.le_of_ble_eq_true rfl, Nat.le_of_ble_eq_true rfl⟩ rfl rfl (Nat.le_of_ble_eq_true rfl) d_Main_drawn_17 (fun H locs hw => ?_)
    refine lv_if_ne (tgt := 26) hx hb d_Main_drawn_20 (by decide) (fun c_3 => ?_) (fun c_3 => ?_)
    · replace hF := ifT hF c_3
      refine lv_aload_n hx hb d_Main_drawn_26 rfl (lv_at hl 0 rfl) ?_
      refine lv_iload_n hx hb d_Main_drawn_27 rfl (lv_at hl 1 rfl) ?_
      refine lv_iload_n hx hb d_Main_drawn_28 rfl (lv_at hl 2 rfl) ?_
      refine lv_iload_n hx hb d_Main_drawn_29 rfl (lv_at hl 3 rfl) ?_
      obtain ⟨r_4, s_5, h_s_5, hF⟩ := ob2E hF
      refine r_callVI (As := [.int v1, .int v2, .int v3]) (rest := []) K hw hl.1 (c_Main_winnerDrawn (l := l) (D := D) (cA := cA) (ad := ad) (s0 := s0) (Nat.le_trans (Nat.le_of_ble_eq_true rfl) hn)  h_s_5) (sh_Main (Nat.le_trans (Nat.le_of_ble_eq_true rfl) hn)) rfl (tb_gV w_920 w_922 w_29 w_63 w_923) a_Main_winnerDrawn ⟨rfl, rfl, Nat.le_of_ble_eq_true rfl, Nat.le_of_ble_eq_true rfl⟩ rfl rfl (Nat.le_of_ble_eq_true rfl) d_Main_drawn_30 (fun H locs hw => ?_)
      obtain ⟨hF, hG⟩ := sE2 hF
      subst hF
      subst hG
      exact r_iret K hw d_Main_drawn_33
    · replace hF := ifN hF c_3
      refine lv_bipush (v := -7) hx hb d_Main_drawn_23 (by decide) ?_
      obtain ⟨hF, hG⟩ := sE2 hF
      subst hF
      subst hG
      exact r_iret K hw d_Main_drawn_25
  · replace hF := ifN hF c_2
    refine lv_bipush (v := -5) hx hb d_Main_drawn_9 (by decide) ?_
    obtain ⟨hF, hG⟩ := sE2 hF
    subst hF
    subst hG
    exact r_iret K hw d_Main_drawn_11
end S_Main_drawn
noncomputable abbrev F_Main_drawn := F_Main_drawn_0
theorem c_Main_drawn {l : Launch} {D : va_G} {cA : Nat → ClassId} {ad : Nat → Nat} {s0 τ : St} {nC : Nat} (hn : 46 ≤ nC) {r : Int32} {v1 : Int32} {v2 : Int32} {v3 : Int32}  (hF : F_Main_drawn s0 v1 v2 v3 = (some (r, τ))) : MI l D cA ad (shC.take nC) y_Main_drawn (wT y_Main_drawn b_Main_drawn 4 (some .int)) rm_Main_drawn [.ref (ad 20), .int v1, .int v2, .int v3] s0 r τ := fun sz => m_start (Qc := fun A => QcI D cA ad (shC.take nC) A r τ) (by decide +kernel) w_918 (Nat.le_of_ble_eq_true rfl) (fun p e s m below meth c ls K hl hw => q_Main_drawn_0 hn K _ _ _ _ _ _ _  hw hl hF)

/-! Main.odds(IIII)J -/
abbrev b_Main_odds : ByteArray := prog_1_method_27_code
def y_Main_odds : MethodName := ⟨R_Main, "odds", "(IIII)J"⟩
theorem a_Main_odds : y_Main_odds.cls = R_Main ∧ y_Main_odds.cls ≠ "java/lang/invoke/MethodHandle" ∧ y_Main_odds.cls ≠ "java/lang/invoke/VarHandle" ∧ (parseMethodDescriptor y_Main_odds.desc).map (fun d => d.parameters.length) = some 4 := by decide +kernel
abbrev rm_Main_odds : Room := { frames := 6, cells := 0, slots := 0, locals := 143 }
theorem w_934 : Cond.constantLong R_Main 268 (-4611686018427387904) ∈ TB := tb_in 934 (by decide +kernel) (by decide +kernel)
theorem w_933 : Cond.code y_Main_odds b_Main_odds 9 (some .long) ∈ TB := tb_in 933 (by decide +kernel) (by decide +kernel)
theorem d_Main_odds_0 : decode b_Main_odds 0 = .ok (.iload_n 1, 1) := by decide +kernel
theorem d_Main_odds_1 : decode b_Main_odds 1 = .ok (.iconst 0, 1) := by decide +kernel
theorem d_Main_odds_2 : decode b_Main_odds 2 = .ok (.ldc_w 264, 3) := by decide +kernel
theorem d_Main_odds_5 : decode b_Main_odds 5 = .ok (.invokestatic 108, 3) := by decide +kernel
theorem d_Main_odds_8 : decode b_Main_odds 8 = .ok (.ifCond .eq 13, 3) := by decide +kernel
theorem d_Main_odds_11 : decode b_Main_odds 11 = .ok (.iload_n 2, 1) := by decide +kernel
theorem d_Main_odds_12 : decode b_Main_odds 12 = .ok (.iconst 1, 1) := by decide +kernel
theorem d_Main_odds_13 : decode b_Main_odds 13 = .ok (.bipush 30, 2) := by decide +kernel
theorem d_Main_odds_15 : decode b_Main_odds 15 = .ok (.invokestatic 108, 3) := by decide +kernel
theorem d_Main_odds_18 : decode b_Main_odds 18 = .ok (.ifCond .ne 7, 3) := by decide +kernel
theorem d_Main_odds_21 : decode b_Main_odds 21 = .ok (.ldc2_w 268, 3) := by decide +kernel
theorem d_Main_odds_24 : decode b_Main_odds 24 = .ok (.lreturn, 1) := by decide +kernel
theorem d_Main_odds_25 : decode b_Main_odds 25 = .ok (.aload_n 0, 1) := by decide +kernel
theorem d_Main_odds_26 : decode b_Main_odds 26 = .ok (.iload_n 3, 1) := by decide +kernel
theorem d_Main_odds_27 : decode b_Main_odds 27 = .ok (.invokevirtual 171, 3) := by decide +kernel
theorem d_Main_odds_30 : decode b_Main_odds 30 = .ok (.ifCond .eq 13, 3) := by decide +kernel
theorem d_Main_odds_33 : decode b_Main_odds 33 = .ok (.iload 4, 2) := by decide +kernel
theorem d_Main_odds_35 : decode b_Main_odds 35 = .ok (.iconst 0, 1) := by decide +kernel
theorem d_Main_odds_36 : decode b_Main_odds 36 = .ok (.iconst 1, 1) := by decide +kernel
theorem d_Main_odds_37 : decode b_Main_odds 37 = .ok (.invokestatic 108, 3) := by decide +kernel
theorem d_Main_odds_40 : decode b_Main_odds 40 = .ok (.ifCond .ne 7, 3) := by decide +kernel
theorem d_Main_odds_43 : decode b_Main_odds 43 = .ok (.ldc2_w 268, 3) := by decide +kernel
theorem d_Main_odds_46 : decode b_Main_odds 46 = .ok (.lreturn, 1) := by decide +kernel
theorem d_Main_odds_47 : decode b_Main_odds 47 = .ok (.iload_n 3, 1) := by decide +kernel
theorem d_Main_odds_48 : decode b_Main_odds 48 = .ok (.bipush 10, 2) := by decide +kernel
theorem d_Main_odds_50 : decode b_Main_odds 50 = .ok (.idiv, 1) := by decide +kernel
theorem d_Main_odds_51 : decode b_Main_odds 51 = .ok (.istore 5, 2) := by decide +kernel
theorem d_Main_odds_53 : decode b_Main_odds 53 = .ok (.iconst 0, 1) := by decide +kernel
theorem d_Main_odds_54 : decode b_Main_odds 54 = .ok (.istore 6, 2) := by decide +kernel
theorem d_Main_odds_56 : decode b_Main_odds 56 = .ok (.iconst 0, 1) := by decide +kernel
theorem d_Main_odds_57 : decode b_Main_odds 57 = .ok (.istore 7, 2) := by decide +kernel
theorem d_Main_odds_59 : decode b_Main_odds 59 = .ok (.iload 7, 2) := by decide +kernel
theorem d_Main_odds_61 : decode b_Main_odds 61 = .ok (.iload_n 2, 1) := by decide +kernel
theorem d_Main_odds_62 : decode b_Main_odds 62 = .ok (.if_icmp .ge 31, 3) := by decide +kernel
theorem d_Main_odds_65 : decode b_Main_odds 65 = .ok (.aload_n 0, 1) := by decide +kernel
theorem d_Main_odds_66 : decode b_Main_odds 66 = .ok (.iload_n 1, 1) := by decide +kernel
theorem d_Main_odds_67 : decode b_Main_odds 67 = .ok (.iload 7, 2) := by decide +kernel
theorem d_Main_odds_69 : decode b_Main_odds 69 = .ok (.iadd, 1) := by decide +kernel
theorem d_Main_odds_70 : decode b_Main_odds 70 = .ok (.iload 5, 2) := by decide +kernel
theorem d_Main_odds_72 : decode b_Main_odds 72 = .ok (.iload_n 3, 1) := by decide +kernel
theorem d_Main_odds_73 : decode b_Main_odds 73 = .ok (.bipush 10, 2) := by decide +kernel
theorem d_Main_odds_75 : decode b_Main_odds 75 = .ok (.irem, 1) := by decide +kernel
theorem d_Main_odds_76 : decode b_Main_odds 76 = .ok (.invokevirtual 265, 3) := by decide +kernel
theorem d_Main_odds_79 : decode b_Main_odds 79 = .ok (.iload 5, 2) := by decide +kernel
theorem d_Main_odds_81 : decode b_Main_odds 81 = .ok (.if_icmp .ne 6, 3) := by decide +kernel
theorem d_Main_odds_84 : decode b_Main_odds 84 = .ok (.iinc 6 1, 3) := by decide +kernel
theorem d_Main_odds_87 : decode b_Main_odds 87 = .ok (.iinc 7 1, 3) := by decide +kernel
theorem d_Main_odds_90 : decode b_Main_odds 90 = .ok (.goto (-31), 3) := by decide +kernel
theorem d_Main_odds_93 : decode b_Main_odds 93 = .ok (.iconst 1, 1) := by decide +kernel
theorem d_Main_odds_94 : decode b_Main_odds 94 = .ok (.istore 7, 2) := by decide +kernel
theorem d_Main_odds_96 : decode b_Main_odds 96 = .ok (.iconst 2, 1) := by decide +kernel
theorem d_Main_odds_97 : decode b_Main_odds 97 = .ok (.istore 8, 2) := by decide +kernel
theorem d_Main_odds_99 : decode b_Main_odds 99 = .ok (.iload 8, 2) := by decide +kernel
theorem d_Main_odds_101 : decode b_Main_odds 101 = .ok (.iload_n 2, 1) := by decide +kernel
theorem d_Main_odds_102 : decode b_Main_odds 102 = .ok (.if_icmp .gt 28, 3) := by decide +kernel
theorem d_Main_odds_105 : decode b_Main_odds 105 = .ok (.iload 6, 2) := by decide +kernel
theorem d_Main_odds_107 : decode b_Main_odds 107 = .ok (.iload 8, 2) := by decide +kernel
theorem d_Main_odds_109 : decode b_Main_odds 109 = .ok (.irem, 1) := by decide +kernel
theorem d_Main_odds_110 : decode b_Main_odds 110 = .ok (.ifCond .ne 14, 3) := by decide +kernel
theorem d_Main_odds_113 : decode b_Main_odds 113 = .ok (.iload_n 2, 1) := by decide +kernel
theorem d_Main_odds_114 : decode b_Main_odds 114 = .ok (.iload 8, 2) := by decide +kernel
theorem d_Main_odds_116 : decode b_Main_odds 116 = .ok (.irem, 1) := by decide +kernel
theorem d_Main_odds_117 : decode b_Main_odds 117 = .ok (.ifCond .ne 7, 3) := by decide +kernel
theorem d_Main_odds_120 : decode b_Main_odds 120 = .ok (.iload 8, 2) := by decide +kernel
theorem d_Main_odds_122 : decode b_Main_odds 122 = .ok (.istore 7, 2) := by decide +kernel
theorem d_Main_odds_124 : decode b_Main_odds 124 = .ok (.iinc 8 1, 3) := by decide +kernel
theorem d_Main_odds_127 : decode b_Main_odds 127 = .ok (.goto (-28), 3) := by decide +kernel
theorem d_Main_odds_130 : decode b_Main_odds 130 = .ok (.iload 4, 2) := by decide +kernel
theorem d_Main_odds_132 : decode b_Main_odds 132 = .ok (.ifCond .ne 12, 3) := by decide +kernel
theorem d_Main_odds_135 : decode b_Main_odds 135 = .ok (.iload 6, 2) := by decide +kernel
theorem d_Main_odds_137 : decode b_Main_odds 137 = .ok (.iload 7, 2) := by decide +kernel
theorem d_Main_odds_139 : decode b_Main_odds 139 = .ok (.idiv, 1) := by decide +kernel
theorem d_Main_odds_140 : decode b_Main_odds 140 = .ok (.i2l, 1) := by decide +kernel
theorem d_Main_odds_141 : decode b_Main_odds 141 = .ok (.goto 8, 3) := by decide +kernel
theorem d_Main_odds_144 : decode b_Main_odds 144 = .ok (.iload_n 2, 1) := by decide +kernel
theorem d_Main_odds_145 : decode b_Main_odds 145 = .ok (.iload 7, 2) := by decide +kernel
theorem d_Main_odds_147 : decode b_Main_odds 147 = .ok (.idiv, 1) := by decide +kernel
theorem d_Main_odds_148 : decode b_Main_odds 148 = .ok (.i2l, 1) := by decide +kernel
theorem d_Main_odds_149 : decode b_Main_odds 149 = .ok (.lreturn, 1) := by decide +kernel
section S_Main_odds
variable {p : Program} {l : Launch} {e : Env} {s : State} {m : MethodId} {args : Array Value} {below : List Frame} {meth : Method} {c : Code} {D : va_G} {cA : Nat → ClassId} {ad : Nat → Nat} {nC : Nat} {A : Nat → Prop} {r : Int64} {τ : St}
noncomputable def F_Main_odds_21 (s0 : St) : Option (Int64 × St) := (some ((-4611686018427387904 : Int64), s0))
set_option maxHeartbeats 4000000 in
set_option maxRecDepth 100000 in
theorem q_Main_odds_21 (hn : 46 ≤ nC) (K : Fx p s m args meth c b_Main_odds 9 R_Main (some .long))  : ∀ (H : Heap) (locs : List Loc) (ls : Array Slot) (s0 : St), Wh D cA ad (shC.take nC) A s s0 H locs → lv_has ls 9 [] → F_Main_odds_21 s0 = (some (r, τ)) → W p l e rm_Main_odds s m args below meth c H locs 0 0 (MQ below (QcL D cA ad (shC.take nC) A r τ) args s 0 0 A) (F0 m 21 ls []) := by
  have hx := K.1.1; have hb := K.1.2.1
  intro H locs ls s0 hw hl hF
  unfold F_Main_odds_21 at hF
  refine lv_ldc2 (v := -4611686018427387904) hx hb K.1.2.2.2.1 (K.1.2.2.2.2 _ w_934) d_Main_odds_21 ?_
  obtain ⟨hF, hG⟩ := sE2 hF
  subst hF
  subst hG
  exact r_lret K hw d_Main_odds_24
noncomputable def F_Main_odds_43 (s0 : St) : Option (Int64 × St) := (some ((-4611686018427387904 : Int64), s0))
set_option maxHeartbeats 4000000 in
set_option maxRecDepth 100000 in
theorem q_Main_odds_43 (hn : 46 ≤ nC) (K : Fx p s m args meth c b_Main_odds 9 R_Main (some .long))  : ∀ (H : Heap) (locs : List Loc) (ls : Array Slot) (s0 : St), Wh D cA ad (shC.take nC) A s s0 H locs → lv_has ls 9 [] → F_Main_odds_43 s0 = (some (r, τ)) → W p l e rm_Main_odds s m args below meth c H locs 0 0 (MQ below (QcL D cA ad (shC.take nC) A r τ) args s 0 0 A) (F0 m 43 ls []) := by
  have hx := K.1.1; have hb := K.1.2.1
  intro H locs ls s0 hw hl hF
  unfold F_Main_odds_43 at hF
  refine lv_ldc2 (v := -4611686018427387904) hx hb K.1.2.2.2.1 (K.1.2.2.2.2 _ w_934) d_Main_odds_43 ?_
  obtain ⟨hF, hG⟩ := sE2 hF
  subst hF
  subst hG
  exact r_lret K hw d_Main_odds_46
noncomputable def F_Main_odds_124 (k52 : (St → Int32 → Int32 → Int32 → Int32 → Int32 → Option (Int64 × St))) (s0 : St) (v2 : Int32) (v4 : Int32) (v6 : Int32) (v7 : Int32) (v8 : Int32) : Option (Int64 × St) := (k52 s0 v2 v4 v6 v7 (v8 + 1))
set_option maxHeartbeats 4000000 in
set_option maxRecDepth 100000 in
theorem q_Main_odds_124 (hn : 46 ≤ nC) (K : Fx p s m args meth c b_Main_odds 9 R_Main (some .long)) (k52 : (St → Int32 → Int32 → Int32 → Int32 → Int32 → Option (Int64 × St))) (hk52 : ∀ (H : Heap) (locs : List Loc) (ls : Array Slot) (s0 : St) (v2 : Int32) (v4 : Int32) (v6 : Int32) (v7 : Int32) (v8 : Int32), Wh D cA ad (shC.take nC) A s s0 H locs → lv_has ls 9 [(2, .int v2), (4, .int v4), (6, .int v6), (7, .int v7), (8, .int v8)] → k52 s0 v2 v4 v6 v7 v8 = (some (r, τ)) → W p l e rm_Main_odds s m args below meth c H locs 0 0 (MQ below (QcL D cA ad (shC.take nC) A r τ) args s 0 0 A) (F0 m 99 ls [])) : ∀ (H : Heap) (locs : List Loc) (ls : Array Slot) (s0 : St) (v2 : Int32) (v4 : Int32) (v6 : Int32) (v7 : Int32) (v8 : Int32), Wh D cA ad (shC.take nC) A s s0 H locs → lv_has ls 9 [(2, .int v2), (4, .int v4), (6, .int v6), (7, .int v7), (8, .int v8)] → F_Main_odds_124 k52 s0 v2 v4 v6 v7 v8 = (some (r, τ)) → W p l e rm_Main_odds s m args below meth c H locs 0 0 (MQ below (QcL D cA ad (shC.take nC) A r τ) args s 0 0 A) (F0 m 124 ls []) := by
  have hx := K.1.1; have hb := K.1.2.1
  intro H locs ls s0 v2 v4 v6 v7 v8 hw hl hF
  unfold F_Main_odds_124 at hF
  refine lv_iinc (v := (v8 + 1)) (lv' := [(8, .int (v8 + 1)), (2, .int v2), (4, .int v4), (6, .int v6), (7, .int v7)]) hx hb d_Main_odds_124 hl (k := 4) rfl rfl (by decide) rfl (fun ls hl => ?_)
  refine lv_goto (tgt := 99) hx hb d_Main_odds_127 (by decide) ?_
  exact hk52 _ _ _ _ _ _ _ _ _  hw (lv_sub hl [1, 2, 3, 4, 0] rfl) hF
noncomputable def F_Main_odds_99 : Nat → St → Int32 → Int32 → Int32 → Int32 → Int32 → Option (Int64 × St)
  | 0, _, _, _, _, _, _ => none
  | n + 1, s0, v2, v4, v6, v7, v8 => (if v2 < v8 then (if ¬ v4 = 0 then (if ¬ v7 = 0 then (some (((v2 / v7).toInt64), s0)) else none) else (if ¬ v7 = 0 then (some (((v6 / v7).toInt64), s0)) else none)) else (if ¬ v8 = 0 then (if ¬ (jrem v6 v8) = 0 then (F_Main_odds_124 (fun z0 zv2 zv4 zv6 zv7 zv8 => F_Main_odds_99 n z0 zv2 zv4 zv6 zv7 zv8) s0 v2 v4 v6 v7 v8) else (if ¬ v8 = 0 then (if ¬ (jrem v2 v8) = 0 then (F_Main_odds_124 (fun z0 zv2 zv4 zv6 zv7 zv8 => F_Main_odds_99 n z0 zv2 zv4 zv6 zv7 zv8) s0 v2 v4 v6 v7 v8) else (F_Main_odds_124 (fun z0 zv2 zv4 zv6 zv7 zv8 => F_Main_odds_99 n z0 zv2 zv4 zv6 zv7 zv8) s0 v2 v4 v6 v8 v8)) else none)) else none))
set_option maxHeartbeats 4000000 in
set_option maxRecDepth 100000 in
theorem q_Main_odds_99 (hn : 46 ≤ nC) (K : Fx p s m args meth c b_Main_odds 9 R_Main (some .long))  : ∀ (n : Nat), ∀ (H : Heap) (locs : List Loc) (ls : Array Slot) (s0 : St) (v2 : Int32) (v4 : Int32) (v6 : Int32) (v7 : Int32) (v8 : Int32), Wh D cA ad (shC.take nC) A s s0 H locs → lv_has ls 9 [(2, .int v2), (4, .int v4), (6, .int v6), (7, .int v7), (8, .int v8)] → F_Main_odds_99 n s0 v2 v4 v6 v7 v8 = (some (r, τ)) → W p l e rm_Main_odds s m args below meth c H locs 0 0 (MQ below (QcL D cA ad (shC.take nC) A r τ) args s 0 0 A) (F0 m 99 ls []) := by
  have hx := K.1.1; have hb := K.1.2.1
  intro n
  induction n with
  | zero =>
    intro H locs ls s0 v2 v4 v6 v7 v8 hw hl hF
    exact absurd hF (by rw [F_Main_odds_99]; exact nofun)
  | succ n ih =>
    intro H locs ls s0 v2 v4 v6 v7 v8 hw hl hF
    rw [F_Main_odds_99] at hF
    refine lv_iload hx hb d_Main_odds_99 (lv_at hl 4 rfl) ?_
    refine lv_iload_n hx hb d_Main_odds_101 rfl (lv_at hl 0 rfl) ?_
    refine lv_icmp_gt (tgt := 130) hx hb d_Main_odds_102 (by decide) (fun c_7 => ?_) (fun c_7 => ?_)
    · replace hF := ifT hF c_7
      refine lv_iload hx hb d_Main_odds_130 (lv_at hl 1 rfl) ?_
      refine lv_if_ne (tgt := 144) hx hb d_Main_odds_132 (by decide) (fun c_8 => ?_) (fun c_8 => ?_)
      · replace hF := ifT hF c_8
        refine lv_iload_n hx hb d_Main_odds_144 rfl (lv_at hl 0 rfl) ?_
        refine lv_iload hx hb d_Main_odds_145 (lv_at hl 3 rfl) ?_
        obtain ⟨g_9, hF⟩ := ifG hF
        refine lv_idiv hx hb d_Main_odds_147 g_9 ?_
        refine lv_i2l (v := (v2 / v7).toInt64) hx hb d_Main_odds_148 rfl ?_
        obtain ⟨hF, hG⟩ := sE2 hF
        subst hF
        subst hG
        exact r_lret K hw d_Main_odds_149
      · replace hF := ifN hF c_8
        refine lv_iload hx hb d_Main_odds_135 (lv_at hl 2 rfl) ?_
        refine lv_iload hx hb d_Main_odds_137 (lv_at hl 3 rfl) ?_
        obtain ⟨g_10, hF⟩ := ifG hF
        refine lv_idiv hx hb d_Main_odds_139 g_10 ?_
        refine lv_i2l (v := (v6 / v7).toInt64) hx hb d_Main_odds_140 rfl ?_
        refine lv_goto (tgt := 149) hx hb d_Main_odds_141 (by decide) ?_
        obtain ⟨hF, hG⟩ := sE2 hF
        subst hF
        subst hG
        exact r_lret K hw d_Main_odds_149
    · replace hF := ifF hF c_7
      refine lv_iload hx hb d_Main_odds_105 (lv_at hl 2 rfl) ?_
      refine lv_iload hx hb d_Main_odds_107 (lv_at hl 4 rfl) ?_
      obtain ⟨g_11, hF⟩ := ifG hF
      refine lv_irem hx hb d_Main_odds_109 g_11 ?_
      refine lv_if_ne (tgt := 124) hx hb d_Main_odds_110 (by decide) (fun c_12 => ?_) (fun c_12 => ?_)
      · replace hF := ifT hF c_12
        exact q_Main_odds_124 hn K (fun z0 zv2 zv4 zv6 zv7 zv8 => F_Main_odds_99 n z0 zv2 zv4 zv6 zv7 zv8) ih _ _ _ _ _ _ _ _ _  hw (lv_sub hl [0, 1, 2, 3, 4] rfl) hF
      · replace hF := ifN hF c_12
        refine lv_iload_n hx hb d_Main_odds_113 rfl (lv_at hl 0 rfl) ?_
        refine lv_iload hx hb d_Main_odds_114 (lv_at hl 4 rfl) ?_
        obtain ⟨g_13, hF⟩ := ifG hF
        refine lv_irem hx hb d_Main_odds_116 g_13 ?_
        refine lv_if_ne (tgt := 124) hx hb d_Main_odds_117 (by decide) (fun c_14 => ?_) (fun c_14 => ?_)
        · replace hF := ifT hF c_14
          exact q_Main_odds_124 hn K (fun z0 zv2 zv4 zv6 zv7 zv8 => F_Main_odds_99 n z0 zv2 zv4 zv6 zv7 zv8) ih _ _ _ _ _ _ _ _ _  hw (lv_sub hl [0, 1, 2, 3, 4] rfl) hF
        · replace hF := ifN hF c_14
          refine lv_iload hx hb d_Main_odds_120 (lv_at hl 4 rfl) ?_
          refine lv_istore (lv' := [(7, .int v8), (2, .int v2), (4, .int v4), (6, .int v6), (8, .int v8)]) hx hb d_Main_odds_122 hl (by decide) rfl (fun ls hl => ?_)
          exact q_Main_odds_124 hn K (fun z0 zv2 zv4 zv6 zv7 zv8 => F_Main_odds_99 n z0 zv2 zv4 zv6 zv7 zv8) ih _ _ _ _ _ _ _ _ _  hw (lv_sub hl [1, 2, 3, 0, 4] rfl) hF
noncomputable def F_Main_odds_87 (k31 : (St → Int32 → Int32 → Int32 → Int32 → Int32 → Int32 → Int32 → Option (Int64 × St))) (s0 : St) (v1 : Int32) (v2 : Int32) (v3 : Int32) (v4 : Int32) (v5 : Int32) (v6 : Int32) (v7 : Int32) : Option (Int64 × St) := (k31 s0 v1 v2 v3 v4 v5 v6 (v7 + 1))
set_option maxHeartbeats 4000000 in
set_option maxRecDepth 100000 in
theorem q_Main_odds_87 (hn : 46 ≤ nC) (K : Fx p s m args meth c b_Main_odds 9 R_Main (some .long)) (k31 : (St → Int32 → Int32 → Int32 → Int32 → Int32 → Int32 → Int32 → Option (Int64 × St))) (hk31 : ∀ (H : Heap) (locs : List Loc) (ls : Array Slot) (s0 : St) (v1 : Int32) (v2 : Int32) (v3 : Int32) (v4 : Int32) (v5 : Int32) (v6 : Int32) (v7 : Int32), Wh D cA ad (shC.take nC) A s s0 H locs → lv_has ls 9 [(0, .ref (ad 20)), (1, .int v1), (2, .int v2), (3, .int v3), (4, .int v4), (5, .int v5), (6, .int v6), (7, .int v7)] → k31 s0 v1 v2 v3 v4 v5 v6 v7 = (some (r, τ)) → W p l e rm_Main_odds s m args below meth c H locs 0 0 (MQ below (QcL D cA ad (shC.take nC) A r τ) args s 0 0 A) (F0 m 59 ls [])) : ∀ (H : Heap) (locs : List Loc) (ls : Array Slot) (s0 : St) (v1 : Int32) (v2 : Int32) (v3 : Int32) (v4 : Int32) (v5 : Int32) (v6 : Int32) (v7 : Int32), Wh D cA ad (shC.take nC) A s s0 H locs → lv_has ls 9 [(0, .ref (ad 20)), (1, .int v1), (2, .int v2), (3, .int v3), (4, .int v4), (5, .int v5), (6, .int v6), (7, .int v7)] → F_Main_odds_87 k31 s0 v1 v2 v3 v4 v5 v6 v7 = (some (r, τ)) → W p l e rm_Main_odds s m args below meth c H locs 0 0 (MQ below (QcL D cA ad (shC.take nC) A r τ) args s 0 0 A) (F0 m 87 ls []) := by
  have hx := K.1.1; have hb := K.1.2.1
  intro H locs ls s0 v1 v2 v3 v4 v5 v6 v7 hw hl hF
  unfold F_Main_odds_87 at hF
  refine lv_iinc (v := (v7 + 1)) (lv' := [(7, .int (v7 + 1)), (0, .ref (ad 20)), (1, .int v1), (2, .int v2), (3, .int v3), (4, .int v4), (5, .int v5), (6, .int v6)]) hx hb d_Main_odds_87 hl (k := 7) rfl rfl (by decide) rfl (fun ls hl => ?_)
  refine lv_goto (tgt := 59) hx hb d_Main_odds_90 (by decide) ?_
  exact hk31 _ _ _ _ _ _ _ _ _ _ _  hw (lv_sub hl [1, 2, 3, 4, 5, 6, 7, 0] rfl) hF
noncomputable def F_Main_odds_59 : Nat → St → Int32 → Int32 → Int32 → Int32 → Int32 → Int32 → Int32 → Option (Int64 × St)
  | 0, _, _, _, _, _, _, _, _ => none
  | n + 1, s0, v1, v2, v3, v4, v5, v6, v7 => (if v2 ≤ v7 then (F_Main_odds_99 FU s0 v2 v4 v6 (1 : Int32) (2 : Int32)) else (ob2 (F_Main_winnerDrawn s0 (v1 + v7) v5 (jrem v3 (10 : Int32))) (fun r_15 s_16 => (if ¬ r_15 = v5 then (F_Main_odds_87 (fun z0 zv1 zv2 zv3 zv4 zv5 zv6 zv7 => F_Main_odds_59 n z0 zv1 zv2 zv3 zv4 zv5 zv6 zv7) s_16 v1 v2 v3 v4 v5 v6 v7) else (F_Main_odds_87 (fun z0 zv1 zv2 zv3 zv4 zv5 zv6 zv7 => F_Main_odds_59 n z0 zv1 zv2 zv3 zv4 zv5 zv6 zv7) s_16 v1 v2 v3 v4 v5 (v6 + 1) v7)))))
set_option maxHeartbeats 4000000 in
set_option maxRecDepth 100000 in
theorem q_Main_odds_59 (hn : 46 ≤ nC) (K : Fx p s m args meth c b_Main_odds 9 R_Main (some .long))  : ∀ (n : Nat), ∀ (H : Heap) (locs : List Loc) (ls : Array Slot) (s0 : St) (v1 : Int32) (v2 : Int32) (v3 : Int32) (v4 : Int32) (v5 : Int32) (v6 : Int32) (v7 : Int32), Wh D cA ad (shC.take nC) A s s0 H locs → lv_has ls 9 [(0, .ref (ad 20)), (1, .int v1), (2, .int v2), (3, .int v3), (4, .int v4), (5, .int v5), (6, .int v6), (7, .int v7)] → F_Main_odds_59 n s0 v1 v2 v3 v4 v5 v6 v7 = (some (r, τ)) → W p l e rm_Main_odds s m args below meth c H locs 0 0 (MQ below (QcL D cA ad (shC.take nC) A r τ) args s 0 0 A) (F0 m 59 ls []) := by
  have hx := K.1.1; have hb := K.1.2.1
  intro n
  induction n with
  | zero =>
    intro H locs ls s0 v1 v2 v3 v4 v5 v6 v7 hw hl hF
    exact absurd hF (by rw [F_Main_odds_59]; exact nofun)
  | succ n ih =>
    intro H locs ls s0 v1 v2 v3 v4 v5 v6 v7 hw hl hF
    rw [F_Main_odds_59] at hF
    refine lv_iload hx hb d_Main_odds_59 (lv_at hl 7 rfl) ?_
    refine lv_iload_n hx hb d_Main_odds_61 rfl (lv_at hl 2 rfl) ?_
    refine lv_icmp_ge (tgt := 93) hx hb d_Main_odds_62 (by decide) (fun c_6 => ?_) (fun c_6 => ?_)
    · replace hF := ifT hF c_6
      refine lv_iconst (v := 1) hx hb d_Main_odds_93 (by decide) ?_
      refine lv_istore (lv' := [(7, .int (1 : Int32)), (0, .ref (ad 20)), (1, .int v1), (2, .int v2), (3, .int v3), (4, .int v4), (5, .int v5), (6, .int v6)]) hx hb d_Main_odds_94 hl (by decide) rfl (fun ls hl => ?_)
      refine lv_iconst (v := 2) hx hb d_Main_odds_96 (by decide) ?_
      refine lv_istore (lv' := [(8, .int (2 : Int32)), (7, .int (1 : Int32)), (0, .ref (ad 20)), (1, .int v1), (2, .int v2), (3, .int v3), (4, .int v4), (5, .int v5), (6, .int v6)]) hx hb d_Main_odds_97 hl (by decide) rfl (fun ls hl => ?_)
      exact q_Main_odds_99 hn K FU _ _ _ _ _ _ _ _ _  hw (lv_sub hl [4, 6, 8, 1, 0] rfl) hF
    · replace hF := ifF hF c_6
      refine lv_aload_n hx hb d_Main_odds_65 rfl (lv_at hl 0 rfl) ?_
      refine lv_iload_n hx hb d_Main_odds_66 rfl (lv_at hl 1 rfl) ?_
      refine lv_iload hx hb d_Main_odds_67 (lv_at hl 7 rfl) ?_
      refine lv_iadd hx hb d_Main_odds_69 ?_
      refine lv_iload hx hb d_Main_odds_70 (lv_at hl 5 rfl) ?_
      refine lv_iload_n hx hb d_Main_odds_72 rfl (lv_at hl 3 rfl) ?_
      refine lv_bipush (v := 10) hx hb d_Main_odds_73 (by decide) ?_
      refine lv_irem hx hb d_Main_odds_75 (by decide) ?_
      obtain ⟨r_15, s_16, h_s_16, hF⟩ := ob2E hF
      refine r_callVI (As := [.int (v1 + v7), .int v5, .int (jrem v3 (10 : Int32))]) (rest := []) K hw hl.1 (c_Main_winnerDrawn (l := l) (D := D) (cA := cA) (ad := ad) (s0 := s0) (Nat.le_trans (Nat.le_of_ble_eq_true rfl) hn)  h_s_16) (sh_Main (Nat.le_trans (Nat.le_of_ble_eq_true rfl) hn)) rfl (tb_gV w_920 w_922 w_29 w_63 w_923) a_Main_winnerDrawn ⟨rfl, rfl, Nat.le_of_ble_eq_true rfl, Nat.le_of_ble_eq_true rfl⟩ rfl rfl (Nat.le_of_ble_eq_true rfl) d_Main_odds_76 (fun H locs hw => ?_)
      refine lv_iload hx hb d_Main_odds_79 (lv_at hl 5 rfl) ?_
      refine lv_icmp_ne (tgt := 87) hx hb d_Main_odds_81 (by decide) (fun c_17 => ?_) (fun c_17 => ?_)
      · replace hF := ifT hF c_17
        exact q_Main_odds_87 hn K (fun z0 zv1 zv2 zv3 zv4 zv5 zv6 zv7 => F_Main_odds_59 n z0 zv1 zv2 zv3 zv4 zv5 zv6 zv7) ih _ _ _ _ _ _ _ _ _ _ _  hw (lv_sub hl [0, 1, 2, 3, 4, 5, 6, 7] rfl) hF
      · replace hF := ifN hF c_17
        refine lv_iinc (v := (v6 + 1)) (lv' := [(6, .int (v6 + 1)), (0, .ref (ad 20)), (1, .int v1), (2, .int v2), (3, .int v3), (4, .int v4), (5, .int v5), (7, .int v7)]) hx hb d_Main_odds_84 hl (k := 6) rfl rfl (by decide) rfl (fun ls hl => ?_)
        exact q_Main_odds_87 hn K (fun z0 zv1 zv2 zv3 zv4 zv5 zv6 zv7 => F_Main_odds_59 n z0 zv1 zv2 zv3 zv4 zv5 zv6 zv7) ih _ _ _ _ _ _ _ _ _ _ _  hw (lv_sub hl [1, 2, 3, 4, 5, 6, 0, 7] rfl) hF
noncomputable def F_Main_odds_0 (s0 : St) (v1 : Int32) (v2 : Int32) (v3 : Int32) (v4 : Int32) : Option (Int64 × St) := (if (F_Main_isWithin v1 (0 : Int32) (99999 : Int32)) = 0 then (F_Main_odds_21 s0) else (if ¬ (F_Main_isWithin v2 (1 : Int32) (30 : Int32)) = 0 then (ob1 (F_Main_tellsTwo s0 v3) (fun r_3 => (if r_3 = 0 then (F_Main_odds_43 s0) else (if ¬ (F_Main_isWithin v4 (0 : Int32) (1 : Int32)) = 0 then (F_Main_odds_59 FU s0 v1 v2 v3 v4 (v3 / (10 : Int32)) (0 : Int32) (0 : Int32)) else (F_Main_odds_43 s0))))) else (F_Main_odds_21 s0)))
set_option maxHeartbeats 4000000 in
set_option maxRecDepth 100000 in
theorem q_Main_odds_0 (hn : 46 ≤ nC) (K : Fx p s m args meth c b_Main_odds 9 R_Main (some .long))  : ∀ (H : Heap) (locs : List Loc) (ls : Array Slot) (s0 : St) (v1 : Int32) (v2 : Int32) (v3 : Int32) (v4 : Int32), Wh D cA ad (shC.take nC) A s s0 H locs → lv_has ls 9 [(0, .ref (ad 20)), (1, .int v1), (2, .int v2), (3, .int v3), (4, .int v4)] → F_Main_odds_0 s0 v1 v2 v3 v4 = (some (r, τ)) → W p l e rm_Main_odds s m args below meth c H locs 0 0 (MQ below (QcL D cA ad (shC.take nC) A r τ) args s 0 0 A) (F0 m 0 ls []) := by
  have hx := K.1.1; have hb := K.1.2.1
  intro H locs ls s0 v1 v2 v3 v4 hw hl hF
  unfold F_Main_odds_0 at hF
  refine lv_iload_n hx hb d_Main_odds_0 rfl (lv_at hl 1 rfl) ?_
  refine lv_iconst (v := 0) hx hb d_Main_odds_1 (by decide) ?_
  refine lv_ldcw (v := 99999) hx hb K.1.2.2.2.1 (K.1.2.2.2.2 _ w_919) d_Main_odds_2 ?_
  refine r_callSI (As := [.int v1, .int (0 : Int32), .int (99999 : Int32)]) (rest := []) K hw hl.1 (c_Main_isWithin (l := l) (D := D) (cA := cA) (ad := ad) (s0 := s0) (Nat.le_trans (Nat.le_of_ble_eq_true rfl) hn)  rfl) (tb_gS w_640 w_347 w_63 w_348) a_Main_isWithin ⟨rfl, rfl, Nat.le_of_ble_eq_true rfl, Nat.le_of_ble_eq_true rfl⟩ rfl rfl (Nat.le_of_ble_eq_true rfl) d_Main_odds_5 (fun H locs hw => ?_)
  refine lv_if_eq (tgt := 21) hx hb d_Main_odds_8 (by decide) (fun c_1 => ?_) (fun c_1 => ?_)
  · replace hF := ifT hF c_1
    exact q_Main_odds_21 hn K _ _ _ _  hw (lv_sub hl [] rfl) hF
  · replace hF := ifF hF c_1
    refine lv_iload_n hx hb d_Main_odds_11 rfl (lv_at hl 2 rfl) ?_
    refine lv_iconst (v := 1) hx hb d_Main_odds_12 (by decide) ?_
    refine lv_bipush (v := 30) hx hb d_Main_odds_13 (by decide) ?_
    refine r_callSI (As := [.int v2, .int (1 : Int32), .int (30 : Int32)]) (rest := []) K hw hl.1 (c_Main_isWithin (l := l) (D := D) (cA := cA) (ad := ad) (s0 := s0) (Nat.le_trans (Nat.le_of_ble_eq_true rfl) hn)  rfl) (tb_gS w_640 w_347 w_63 w_348) a_Main_isWithin ⟨rfl, rfl, Nat.le_of_ble_eq_true rfl, Nat.le_of_ble_eq_true rfl⟩ rfl rfl (Nat.le_of_ble_eq_true rfl) d_Main_odds_15 (fun H locs hw => ?_)
    refine lv_if_ne (tgt := 25) hx hb d_Main_odds_18 (by decide) (fun c_2 => ?_) (fun c_2 => ?_)
    · replace hF := ifT hF c_2
      refine lv_aload_n hx hb d_Main_odds_25 rfl (lv_at hl 0 rfl) ?_
      refine lv_iload_n hx hb d_Main_odds_26 rfl (lv_at hl 3 rfl) ?_
      obtain ⟨r_3, h_r_3, hF⟩ := ob1E hF
      refine r_callVI (As := [.int v3]) (rest := []) K hw hl.1 (c_Main_tellsTwo (l := l) (D := D) (cA := cA) (ad := ad) (s0 := s0) (Nat.le_trans (Nat.le_of_ble_eq_true rfl) hn)  h_r_3) (sh_Main (Nat.le_trans (Nat.le_of_ble_eq_true rfl) hn)) rfl (tb_gV w_720 w_722 w_16 w_63 w_723) a_Main_tellsTwo ⟨rfl, rfl, Nat.le_of_ble_eq_true rfl, Nat.le_of_ble_eq_true rfl⟩ rfl rfl (Nat.le_of_ble_eq_true rfl) d_Main_odds_27 (fun H locs hw => ?_)
      refine lv_if_eq (tgt := 43) hx hb d_Main_odds_30 (by decide) (fun c_4 => ?_) (fun c_4 => ?_)
      · replace hF := ifT hF c_4
        exact q_Main_odds_43 hn K _ _ _ _  hw (lv_sub hl [] rfl) hF
      · replace hF := ifF hF c_4
        refine lv_iload hx hb d_Main_odds_33 (lv_at hl 4 rfl) ?_
        refine lv_iconst (v := 0) hx hb d_Main_odds_35 (by decide) ?_
        refine lv_iconst (v := 1) hx hb d_Main_odds_36 (by decide) ?_
        refine r_callSI (As := [.int v4, .int (0 : Int32), .int (1 : Int32)]) (rest := []) K hw hl.1 (c_Main_isWithin (l := l) (D := D) (cA := cA) (ad := ad) (s0 := s0) (Nat.le_trans (Nat.le_of_ble_eq_true rfl) hn)  rfl) (tb_gS w_640 w_347 w_63 w_348) a_Main_isWithin ⟨rfl, rfl, Nat.le_of_ble_eq_true rfl, Nat.le_of_ble_eq_true rfl⟩ rfl rfl (Nat.le_of_ble_eq_true rfl) d_Main_odds_37 (fun H locs hw => ?_)
        refine lv_if_ne (tgt := 47) hx hb d_Main_odds_40 (by decide) (fun c_5 => ?_) (fun c_5 => ?_)
        · replace hF := ifT hF c_5
          refine lv_iload_n hx hb d_Main_odds_47 rfl (lv_at hl 3 rfl) ?_
          refine lv_bipush (v := 10) hx hb d_Main_odds_48 (by decide) ?_
          refine lv_idiv hx hb d_Main_odds_50 (by decide) ?_
          refine lv_istore (lv' := [(5, .int (v3 / (10 : Int32))), (0, .ref (ad 20)), (1, .int v1), (2, .int v2), (3, .int v3), (4, .int v4)]) hx hb d_Main_odds_51 hl (by decide) rfl (fun ls hl => ?_)
          refine lv_iconst (v := 0) hx hb d_Main_odds_53 (by decide) ?_
          refine lv_istore (lv' := [(6, .int (0 : Int32)), (5, .int (v3 / (10 : Int32))), (0, .ref (ad 20)), (1, .int v1), (2, .int v2), (3, .int v3), (4, .int v4)]) hx hb d_Main_odds_54 hl (by decide) rfl (fun ls hl => ?_)
          refine lv_iconst (v := 0) hx hb d_Main_odds_56 (by decide) ?_
          refine lv_istore (lv' := [(7, .int (0 : Int32)), (6, .int (0 : Int32)), (5, .int (v3 / (10 : Int32))), (0, .ref (ad 20)), (1, .int v1), (2, .int v2), (3, .int v3), (4, .int v4)]) hx hb d_Main_odds_57 hl (by decide) rfl (fun ls hl => ?_)
          exact q_Main_odds_59 hn K FU _ _ _ _ _ _ _ _ _ _ _  hw (lv_sub hl [3, 4, 5, 6, 7, 2, 1, 0] rfl) hF
        · replace hF := ifN hF c_5
          exact q_Main_odds_43 hn K _ _ _ _  hw (lv_sub hl [] rfl) hF
    · replace hF := ifN hF c_2
      exact q_Main_odds_21 hn K _ _ _ _  hw (lv_sub hl [] rfl) hF
end S_Main_odds
noncomputable abbrev F_Main_odds := F_Main_odds_0
theorem c_Main_odds {l : Launch} {D : va_G} {cA : Nat → ClassId} {ad : Nat → Nat} {s0 τ : St} {nC : Nat} (hn : 46 ≤ nC) {r : Int64} {v1 : Int32} {v2 : Int32} {v3 : Int32} {v4 : Int32}  (hF : F_Main_odds s0 v1 v2 v3 v4 = (some (r, τ))) : ML l D cA ad (shC.take nC) y_Main_odds (wT y_Main_odds b_Main_odds 9 (some .long)) rm_Main_odds [.ref (ad 20), .int v1, .int v2, .int v3, .int v4] s0 r τ := fun sz => m_start (Qc := fun A => QcL D cA ad (shC.take nC) A r τ) (by decide +kernel) w_933 (Nat.le_of_ble_eq_true rfl) (fun p e s m below meth c ls K hl hw => q_Main_odds_0 hn K _ _ _ _ _ _ _ _  hw hl hF)

/-! Main.image()I -/
abbrev b_Main_image : ByteArray := prog_1_method_28_code
def y_Main_image : MethodName := ⟨R_Main, "image", "()I"⟩
theorem a_Main_image : y_Main_image.cls = R_Main ∧ y_Main_image.cls ≠ "java/lang/invoke/MethodHandle" ∧ y_Main_image.cls ≠ "java/lang/invoke/VarHandle" ∧ (parseMethodDescriptor y_Main_image.desc).map (fun d => d.parameters.length) = some 0 := by decide +kernel
abbrev rm_Main_image : Room := { frames := 0, cells := 0, slots := 0, locals := 0 }
theorem w_608 : Cond.fieldLink R_Main 37 R_Main "kept" "LArmAgainstArm$Image;" ∈ TB := tb_in 608 (by decide +kernel) (by decide +kernel)
theorem w_123 : Cond.fieldLink R_Main 270 R_Image "there" "Z" ∈ TB := tb_in 123 (by decide +kernel) (by decide +kernel)
theorem w_124 : Cond.fieldLink R_Main 273 R_Image "armCount" "I" ∈ TB := tb_in 124 (by decide +kernel) (by decide +kernel)
theorem w_125 : Cond.fieldLink R_Main 274 R_Image "lawNumbe\x72" "I" ∈ TB := tb_in 125 (by decide +kernel) (by decide +kernel)
theorem w_120 : Cond.fieldLink R_Main 275 R_Image "holds" "[I" ∈ TB := tb_in 120 (by decide +kernel) (by decide +kernel)
theorem w_122 : Cond.fieldLink R_Main 278 R_Image "plans" "[I" ∈ TB := tb_in 122 (by decide +kernel) (by decide +kernel)
theorem w_938 : Cond.code y_Main_image b_Main_image 2 (some .int) ∈ TB := tb_in 938 (by decide +kernel) (by decide +kernel)
theorem d_Main_image_0 : decode b_Main_image 0 = .ok (.aload_n 0, 1) := by decide +kernel
theorem d_Main_image_1 : decode b_Main_image 1 = .ok (.getfield 37, 3) := by decide +kernel
theorem d_Main_image_4 : decode b_Main_image 4 = .ok (.iconst 1, 1) := by decide +kernel
theorem d_Main_image_5 : decode b_Main_image 5 = .ok (.putfield 270, 3) := by decide +kernel
theorem d_Main_image_8 : decode b_Main_image 8 = .ok (.aload_n 0, 1) := by decide +kernel
theorem d_Main_image_9 : decode b_Main_image 9 = .ok (.getfield 37, 3) := by decide +kernel
theorem d_Main_image_12 : decode b_Main_image 12 = .ok (.aload_n 0, 1) := by decide +kernel
theorem d_Main_image_13 : decode b_Main_image 13 = .ok (.getfield 99, 3) := by decide +kernel
theorem d_Main_image_16 : decode b_Main_image 16 = .ok (.putfield 273, 3) := by decide +kernel
theorem d_Main_image_19 : decode b_Main_image 19 = .ok (.aload_n 0, 1) := by decide +kernel
theorem d_Main_image_20 : decode b_Main_image 20 = .ok (.getfield 37, 3) := by decide +kernel
theorem d_Main_image_23 : decode b_Main_image 23 = .ok (.aload_n 0, 1) := by decide +kernel
theorem d_Main_image_24 : decode b_Main_image 24 = .ok (.getfield 102, 3) := by decide +kernel
theorem d_Main_image_27 : decode b_Main_image 27 = .ok (.putfield 274, 3) := by decide +kernel
theorem d_Main_image_30 : decode b_Main_image 30 = .ok (.iconst 0, 1) := by decide +kernel
theorem d_Main_image_31 : decode b_Main_image 31 = .ok (.istore_n 1, 1) := by decide +kernel
theorem d_Main_image_32 : decode b_Main_image 32 = .ok (.iload_n 1, 1) := by decide +kernel
theorem d_Main_image_33 : decode b_Main_image 33 = .ok (.bipush 6, 2) := by decide +kernel
theorem d_Main_image_35 : decode b_Main_image 35 = .ok (.if_icmp .ge 45, 3) := by decide +kernel
theorem d_Main_image_38 : decode b_Main_image 38 = .ok (.aload_n 0, 1) := by decide +kernel
theorem d_Main_image_39 : decode b_Main_image 39 = .ok (.getfield 37, 3) := by decide +kernel
theorem d_Main_image_42 : decode b_Main_image 42 = .ok (.getfield 275, 3) := by decide +kernel
theorem d_Main_image_45 : decode b_Main_image 45 = .ok (.iload_n 1, 1) := by decide +kernel
theorem d_Main_image_46 : decode b_Main_image 46 = .ok (.aload_n 0, 1) := by decide +kernel
theorem d_Main_image_47 : decode b_Main_image 47 = .ok (.getfield 11, 3) := by decide +kernel
theorem d_Main_image_50 : decode b_Main_image 50 = .ok (.iload_n 1, 1) := by decide +kernel
theorem d_Main_image_51 : decode b_Main_image 51 = .ok (.aaload, 1) := by decide +kernel
theorem d_Main_image_52 : decode b_Main_image 52 = .ok (.getfield 152, 3) := by decide +kernel
theorem d_Main_image_55 : decode b_Main_image 55 = .ok (.iastore, 1) := by decide +kernel
theorem d_Main_image_56 : decode b_Main_image 56 = .ok (.aload_n 0, 1) := by decide +kernel
theorem d_Main_image_57 : decode b_Main_image 57 = .ok (.getfield 37, 3) := by decide +kernel
theorem d_Main_image_60 : decode b_Main_image 60 = .ok (.getfield 278, 3) := by decide +kernel
theorem d_Main_image_63 : decode b_Main_image 63 = .ok (.iload_n 1, 1) := by decide +kernel
theorem d_Main_image_64 : decode b_Main_image 64 = .ok (.aload_n 0, 1) := by decide +kernel
theorem d_Main_image_65 : decode b_Main_image 65 = .ok (.getfield 11, 3) := by decide +kernel
theorem d_Main_image_68 : decode b_Main_image 68 = .ok (.iload_n 1, 1) := by decide +kernel
theorem d_Main_image_69 : decode b_Main_image 69 = .ok (.aaload, 1) := by decide +kernel
theorem d_Main_image_70 : decode b_Main_image 70 = .ok (.getfield 156, 3) := by decide +kernel
theorem d_Main_image_73 : decode b_Main_image 73 = .ok (.iastore, 1) := by decide +kernel
theorem d_Main_image_74 : decode b_Main_image 74 = .ok (.iinc 1 1, 3) := by decide +kernel
theorem d_Main_image_77 : decode b_Main_image 77 = .ok (.goto (-45), 3) := by decide +kernel
theorem d_Main_image_80 : decode b_Main_image 80 = .ok (.aload_n 0, 1) := by decide +kernel
theorem d_Main_image_81 : decode b_Main_image 81 = .ok (.getfield 99, 3) := by decide +kernel
theorem d_Main_image_84 : decode b_Main_image 84 = .ok (.ireturn, 1) := by decide +kernel
section S_Main_image
variable {p : Program} {l : Launch} {e : Env} {s : State} {m : MethodId} {args : Array Value} {below : List Frame} {meth : Method} {c : Code} {D : va_G} {cA : Nat → ClassId} {ad : Nat → Nat} {nC : Nat} {A : Nat → Prop} {r : Int32} {τ : St}
noncomputable def F_Main_image_32 : Nat → St → Int32 → Option (Int32 × St)
  | 0, _, _ => none
  | n + 1, s0, v1 => (if (6 : Int32) ≤ v1 then (some ((s0.1 20 1), s0)) else (if inB v1 6 = true then (if inB v1 6 = true then (lt (up1 s0 25 v1.toNatClampNeg (s0.1 (27 + v1.toNatClampNeg) 4)) (fun s_7 => (if inB v1 6 = true then (if inB v1 6 = true then (lt (up1 s_7 26 v1.toNatClampNeg (s_7.1 (27 + v1.toNatClampNeg) 5)) (fun s_10 => (F_Main_image_32 n s_10 (v1 + 1)))) else none) else none))) else none) else none))
set_option maxHeartbeats 4000000 in
set_option maxRecDepth 100000 in
theorem q_Main_image_32 (hn : 33 ≤ nC) (K : Fx p s m args meth c b_Main_image 2 R_Main (some .int))  : ∀ (n : Nat), ∀ (H : Heap) (locs : List Loc) (ls : Array Slot) (s0 : St) (v1 : Int32), Wh D cA ad (shC.take nC) A s s0 H locs → lv_has ls 2 [(0, .ref (ad 20)), (1, .int v1)] → F_Main_image_32 n s0 v1 = (some (r, τ)) → W p l e rm_Main_image s m args below meth c H locs 0 0 (MQ below (QcI D cA ad (shC.take nC) A r τ) args s 0 0 A) (F0 m 32 ls []) := by
  have hx := K.1.1; have hb := K.1.2.1
  intro n
  induction n with
  | zero =>
    intro H locs ls s0 v1 hw hl hF
    exact absurd hF (by rw [F_Main_image_32]; exact nofun)
  | succ n ih =>
    intro H locs ls s0 v1 hw hl hF
    rw [F_Main_image_32] at hF
    refine lv_iload_n hx hb d_Main_image_32 rfl (lv_at hl 1 rfl) ?_
    refine lv_bipush (v := 6) hx hb d_Main_image_33 (by decide) ?_
    refine lv_icmp_ge (tgt := 80) hx hb d_Main_image_35 (by decide) (fun c_4 => ?_) (fun c_4 => ?_)
    · replace hF := ifT hF c_4
      refine lv_aload_n hx hb d_Main_image_80 rfl (lv_at hl 0 rfl) ?_
      refine r_get (v := .int (s0.1 20 1)) K hw i_Main (sh_Main (Nat.le_trans (Nat.le_of_ble_eq_true rfl) hn)) rfl 1 (by decide) w_599 rfl rfl rfl d_Main_image_81 ?_
      obtain ⟨hF, hG⟩ := sE2 hF
      subst hF
      subst hG
      exact r_iret K hw d_Main_image_84
    · replace hF := ifF hF c_4
      refine lv_aload_n hx hb d_Main_image_38 rfl (lv_at hl 0 rfl) ?_
      refine r_get (v := .ref (ad 24)) K hw i_Main (sh_Main (Nat.le_trans (Nat.le_of_ble_eq_true rfl) hn)) rfl 10 (by decide) w_608 rfl rfl rfl d_Main_image_39 ?_
      refine r_get (v := .ref (ad 25)) K hw i_Image (sh_Image (Nat.le_trans (Nat.le_of_ble_eq_true rfl) hn)) rfl 0 (by decide) w_120 rfl rfl rfl d_Main_image_42 ?_
      refine lv_iload_n hx hb d_Main_image_45 rfl (lv_at hl 1 rfl) ?_
      refine lv_aload_n hx hb d_Main_image_46 rfl (lv_at hl 0 rfl) ?_
      refine r_get (v := .ref (ad 21)) K hw i_Main (sh_Main (Nat.le_trans (Nat.le_of_ble_eq_true rfl) hn)) rfl 0 (by decide) w_598 rfl rfl rfl d_Main_image_47 ?_
      refine lv_iload_n hx hb d_Main_image_50 rfl (lv_at hl 1 rfl) ?_
      obtain ⟨g_5, hF⟩ := ifG hF
      refine r_aald (k := v1.toNatClampNeg) K hw (sh_a21 (Nat.le_trans (Nat.le_of_ble_eq_true rfl) hn)) (rfl : (TYS cA)[1]? = some (cA 1, _)) rfl (inB_vp g_5) d_Main_image_51 ?_
      refine r_get (v := .int (s0.1 (27 + v1.toNatClampNeg) 4)) K hw i_Arm (sh_Arm (P_Arm_of g_5) (Nat.le_trans (Nat.le_of_ble_eq_true rfl) hn)) rfl 4 (by decide) w_155 rfl rfl rfl d_Main_image_52 ?_
      obtain ⟨g_6, hF⟩ := ifG hF
      refine r_iast (k := v1.toNatClampNeg) K hw (sh_a25 (Nat.le_trans (Nat.le_of_ble_eq_true rfl) hn)) rfl (inB_vp g_6) d_Main_image_55 (fun s_7 f_s_7 H locs hw => ?_)
      replace hF := ltN hF f_s_7
      refine lv_aload_n hx hb d_Main_image_56 rfl (lv_at hl 0 rfl) ?_
      refine r_get (v := .ref (ad 24)) K hw i_Main (sh_Main (Nat.le_trans (Nat.le_of_ble_eq_true rfl) hn)) rfl 10 (by decide) w_608 rfl rfl rfl d_Main_image_57 ?_
      refine r_get (v := .ref (ad 26)) K hw i_Image (sh_Image (Nat.le_trans (Nat.le_of_ble_eq_true rfl) hn)) rfl 1 (by decide) w_122 rfl rfl rfl d_Main_image_60 ?_
      refine lv_iload_n hx hb d_Main_image_63 rfl (lv_at hl 1 rfl) ?_
      refine lv_aload_n hx hb d_Main_image_64 rfl (lv_at hl 0 rfl) ?_
      refine r_get (v := .ref (ad 21)) K hw i_Main (sh_Main (Nat.le_trans (Nat.le_of_ble_eq_true rfl) hn)) rfl 0 (by decide) w_598 rfl rfl rfl d_Main_image_65 ?_
      refine lv_iload_n hx hb d_Main_image_68 rfl (lv_at hl 1 rfl) ?_
      obtain ⟨g_8, hF⟩ := ifG hF
      refine r_aald (k := v1.toNatClampNeg) K hw (sh_a21 (Nat.le_trans (Nat.le_of_ble_eq_true rfl) hn)) (rfl : (TYS cA)[1]? = some (cA 1, _)) rfl (inB_vp g_8) d_Main_image_69 ?_
      refine r_get (v := .int (s_7.1 (27 + v1.toNatClampNeg) 5)) K hw i_Arm (sh_Arm (P_Arm_of g_8) (Nat.le_trans (Nat.le_of_ble_eq_true rfl) hn)) rfl 5 (by decide) w_158 rfl rfl rfl d_Main_image_70 ?_
      obtain ⟨g_9, hF⟩ := ifG hF
      refine r_iast (k := v1.toNatClampNeg) K hw (sh_a26 (Nat.le_trans (Nat.le_of_ble_eq_true rfl) hn)) rfl (inB_vp g_9) d_Main_image_73 (fun s_10 f_s_10 H locs hw => ?_)
      replace hF := ltN hF f_s_10
      refine lv_iinc (v := (v1 + 1)) (lv' := [(1, .int (v1 + 1)), (0, .ref (ad 20))]) hx hb d_Main_image_74 hl (k := 1) rfl rfl (by decide) rfl (fun ls hl => ?_)
      refine lv_goto (tgt := 32) hx hb d_Main_image_77 (by decide) ?_
      exact ih _ _ _ _ _  hw (lv_sub hl [1, 0] rfl) hF
noncomputable def F_Main_image_0 (s0 : St) : Option (Int32 × St) := (lt (up1 s0 24 2 (1 : Int32)) (fun s_1 => (lt (up1 s_1 24 3 (s_1.1 20 1)) (fun s_2 => (lt (up1 s_2 24 4 (s_2.1 20 4)) (fun s_3 => (F_Main_image_32 FU s_3 (0 : Int32))))))))
set_option maxHeartbeats 4000000 in
set_option maxRecDepth 100000 in
theorem q_Main_image_0 (hn : 33 ≤ nC) (K : Fx p s m args meth c b_Main_image 2 R_Main (some .int))  : ∀ (H : Heap) (locs : List Loc) (ls : Array Slot) (s0 : St), Wh D cA ad (shC.take nC) A s s0 H locs → lv_has ls 2 [(0, .ref (ad 20))] → F_Main_image_0 s0 = (some (r, τ)) → W p l e rm_Main_image s m args below meth c H locs 0 0 (MQ below (QcI D cA ad (shC.take nC) A r τ) args s 0 0 A) (F0 m 0 ls []) := by
  have hx := K.1.1; have hb := K.1.2.1
  intro H locs ls s0 hw hl hF
  unfold F_Main_image_0 at hF
  refine lv_aload_n hx hb d_Main_image_0 rfl (lv_at hl 0 rfl) ?_
  refine r_get (v := .ref (ad 24)) K hw i_Main (sh_Main (Nat.le_trans (Nat.le_of_ble_eq_true rfl) hn)) rfl 10 (by decide) w_608 rfl rfl rfl d_Main_image_1 ?_
  refine lv_iconst (v := 1) hx hb d_Main_image_4 (by decide) ?_
  refine r_putI K hw i_Image t_Image t_Image_ok n_Image (sh_Image (Nat.le_trans (Nat.le_of_ble_eq_true rfl) hn)) rfl 2 (by decide) w_123 rfl rfl rfl rfl rfl d_Main_image_5 (fun s_1 f_s_1 H locs hw => ?_)
  replace hF := ltN hF f_s_1
  refine lv_aload_n hx hb d_Main_image_8 rfl (lv_at hl 0 rfl) ?_
  refine r_get (v := .ref (ad 24)) K hw i_Main (sh_Main (Nat.le_trans (Nat.le_of_ble_eq_true rfl) hn)) rfl 10 (by decide) w_608 rfl rfl rfl d_Main_image_9 ?_
  refine lv_aload_n hx hb d_Main_image_12 rfl (lv_at hl 0 rfl) ?_
  refine r_get (v := .int (s_1.1 20 1)) K hw i_Main (sh_Main (Nat.le_trans (Nat.le_of_ble_eq_true rfl) hn)) rfl 1 (by decide) w_599 rfl rfl rfl d_Main_image_13 ?_
  refine r_putI K hw i_Image t_Image t_Image_ok n_Image (sh_Image (Nat.le_trans (Nat.le_of_ble_eq_true rfl) hn)) rfl 3 (by decide) w_124 rfl rfl rfl rfl rfl d_Main_image_16 (fun s_2 f_s_2 H locs hw => ?_)
  replace hF := ltN hF f_s_2
  refine lv_aload_n hx hb d_Main_image_19 rfl (lv_at hl 0 rfl) ?_
  refine r_get (v := .ref (ad 24)) K hw i_Main (sh_Main (Nat.le_trans (Nat.le_of_ble_eq_true rfl) hn)) rfl 10 (by decide) w_608 rfl rfl rfl d_Main_image_20 ?_
  refine lv_aload_n hx hb d_Main_image_23 rfl (lv_at hl 0 rfl) ?_
  refine r_get (v := .int (s_2.1 20 4)) K hw i_Main (sh_Main (Nat.le_trans (Nat.le_of_ble_eq_true rfl) hn)) rfl 4 (by decide) w_602 rfl rfl rfl d_Main_image_24 ?_
  refine r_putI K hw i_Image t_Image t_Image_ok n_Image (sh_Image (Nat.le_trans (Nat.le_of_ble_eq_true rfl) hn)) rfl 4 (by decide) w_125 rfl rfl rfl rfl rfl d_Main_image_27 (fun s_3 f_s_3 H locs hw => ?_)
  replace hF := ltN hF f_s_3
  refine lv_iconst (v := 0) hx hb d_Main_image_30 (by decide) ?_
  refine lv_istore_n (lv' := [(1, .int (0 : Int32)), (0, .ref (ad 20))]) hx hb d_Main_image_31 rfl hl (by decide) rfl (fun ls hl => ?_)
  exact q_Main_image_32 hn K FU _ _ _ _ _  hw (lv_sub hl [1, 0] rfl) hF
end S_Main_image
noncomputable abbrev F_Main_image := F_Main_image_0
theorem c_Main_image {l : Launch} {D : va_G} {cA : Nat → ClassId} {ad : Nat → Nat} {s0 τ : St} {nC : Nat} (hn : 33 ≤ nC) {r : Int32}   (hF : F_Main_image s0 = (some (r, τ))) : MI l D cA ad (shC.take nC) y_Main_image (wT y_Main_image b_Main_image 2 (some .int)) rm_Main_image [.ref (ad 20)] s0 r τ := fun sz => m_start (Qc := fun A => QcI D cA ad (shC.take nC) A r τ) (by decide +kernel) w_938 (Nat.le_of_ble_eq_true rfl) (fun p e s m below meth c ls K hl hw => q_Main_image_0 hn K _ _ _ _   hw hl hF)

/-! Main.back()I -/
abbrev b_Main_back : ByteArray := prog_1_method_29_code
def y_Main_back : MethodName := ⟨R_Main, "back", "()I"⟩
theorem a_Main_back : y_Main_back.cls = R_Main ∧ y_Main_back.cls ≠ "java/lang/invoke/MethodHandle" ∧ y_Main_back.cls ≠ "java/lang/invoke/VarHandle" ∧ (parseMethodDescriptor y_Main_back.desc).map (fun d => d.parameters.length) = some 0 := by decide +kernel
abbrev rm_Main_back : Room := { frames := 0, cells := 0, slots := 0, locals := 0 }
theorem w_942 : Cond.code y_Main_back b_Main_back 2 (some .int) ∈ TB := tb_in 942 (by decide +kernel) (by decide +kernel)
theorem d_Main_back_0 : decode b_Main_back 0 = .ok (.aload_n 0, 1) := by decide +kernel
theorem d_Main_back_1 : decode b_Main_back 1 = .ok (.getfield 37, 3) := by decide +kernel
theorem d_Main_back_4 : decode b_Main_back 4 = .ok (.getfield 270, 3) := by decide +kernel
theorem d_Main_back_7 : decode b_Main_back 7 = .ok (.ifCond .ne 6, 3) := by decide +kernel
theorem d_Main_back_10 : decode b_Main_back 10 = .ok (.bipush (-3), 2) := by decide +kernel
theorem d_Main_back_12 : decode b_Main_back 12 = .ok (.ireturn, 1) := by decide +kernel
theorem d_Main_back_13 : decode b_Main_back 13 = .ok (.aload_n 0, 1) := by decide +kernel
theorem d_Main_back_14 : decode b_Main_back 14 = .ok (.aload_n 0, 1) := by decide +kernel
theorem d_Main_back_15 : decode b_Main_back 15 = .ok (.getfield 37, 3) := by decide +kernel
theorem d_Main_back_18 : decode b_Main_back 18 = .ok (.getfield 273, 3) := by decide +kernel
theorem d_Main_back_21 : decode b_Main_back 21 = .ok (.putfield 99, 3) := by decide +kernel
theorem d_Main_back_24 : decode b_Main_back 24 = .ok (.aload_n 0, 1) := by decide +kernel
theorem d_Main_back_25 : decode b_Main_back 25 = .ok (.aload_n 0, 1) := by decide +kernel
theorem d_Main_back_26 : decode b_Main_back 26 = .ok (.getfield 37, 3) := by decide +kernel
theorem d_Main_back_29 : decode b_Main_back 29 = .ok (.getfield 274, 3) := by decide +kernel
theorem d_Main_back_32 : decode b_Main_back 32 = .ok (.putfield 102, 3) := by decide +kernel
theorem d_Main_back_35 : decode b_Main_back 35 = .ok (.iconst 0, 1) := by decide +kernel
theorem d_Main_back_36 : decode b_Main_back 36 = .ok (.istore_n 1, 1) := by decide +kernel
theorem d_Main_back_37 : decode b_Main_back 37 = .ok (.iload_n 1, 1) := by decide +kernel
theorem d_Main_back_38 : decode b_Main_back 38 = .ok (.bipush 6, 2) := by decide +kernel
theorem d_Main_back_40 : decode b_Main_back 40 = .ok (.if_icmp .ge 45, 3) := by decide +kernel
theorem d_Main_back_43 : decode b_Main_back 43 = .ok (.aload_n 0, 1) := by decide +kernel
theorem d_Main_back_44 : decode b_Main_back 44 = .ok (.getfield 11, 3) := by decide +kernel
theorem d_Main_back_47 : decode b_Main_back 47 = .ok (.iload_n 1, 1) := by decide +kernel
theorem d_Main_back_48 : decode b_Main_back 48 = .ok (.aaload, 1) := by decide +kernel
theorem d_Main_back_49 : decode b_Main_back 49 = .ok (.aload_n 0, 1) := by decide +kernel
theorem d_Main_back_50 : decode b_Main_back 50 = .ok (.getfield 37, 3) := by decide +kernel
theorem d_Main_back_53 : decode b_Main_back 53 = .ok (.getfield 275, 3) := by decide +kernel
theorem d_Main_back_56 : decode b_Main_back 56 = .ok (.iload_n 1, 1) := by decide +kernel
theorem d_Main_back_57 : decode b_Main_back 57 = .ok (.iaload, 1) := by decide +kernel
theorem d_Main_back_58 : decode b_Main_back 58 = .ok (.putfield 152, 3) := by decide +kernel
theorem d_Main_back_61 : decode b_Main_back 61 = .ok (.aload_n 0, 1) := by decide +kernel
theorem d_Main_back_62 : decode b_Main_back 62 = .ok (.getfield 11, 3) := by decide +kernel
theorem d_Main_back_65 : decode b_Main_back 65 = .ok (.iload_n 1, 1) := by decide +kernel
theorem d_Main_back_66 : decode b_Main_back 66 = .ok (.aaload, 1) := by decide +kernel
theorem d_Main_back_67 : decode b_Main_back 67 = .ok (.aload_n 0, 1) := by decide +kernel
theorem d_Main_back_68 : decode b_Main_back 68 = .ok (.getfield 37, 3) := by decide +kernel
theorem d_Main_back_71 : decode b_Main_back 71 = .ok (.getfield 278, 3) := by decide +kernel
theorem d_Main_back_74 : decode b_Main_back 74 = .ok (.iload_n 1, 1) := by decide +kernel
theorem d_Main_back_75 : decode b_Main_back 75 = .ok (.iaload, 1) := by decide +kernel
theorem d_Main_back_76 : decode b_Main_back 76 = .ok (.putfield 156, 3) := by decide +kernel
theorem d_Main_back_79 : decode b_Main_back 79 = .ok (.iinc 1 1, 3) := by decide +kernel
theorem d_Main_back_82 : decode b_Main_back 82 = .ok (.goto (-45), 3) := by decide +kernel
theorem d_Main_back_85 : decode b_Main_back 85 = .ok (.aload_n 0, 1) := by decide +kernel
theorem d_Main_back_86 : decode b_Main_back 86 = .ok (.getfield 99, 3) := by decide +kernel
theorem d_Main_back_89 : decode b_Main_back 89 = .ok (.ireturn, 1) := by decide +kernel
section S_Main_back
variable {p : Program} {l : Launch} {e : Env} {s : State} {m : MethodId} {args : Array Value} {below : List Frame} {meth : Method} {c : Code} {D : va_G} {cA : Nat → ClassId} {ad : Nat → Nat} {nC : Nat} {A : Nat → Prop} {r : Int32} {τ : St}
noncomputable def F_Main_back_37 : Nat → St → Int32 → Option (Int32 × St)
  | 0, _, _ => none
  | n + 1, s0, v1 => (if (6 : Int32) ≤ v1 then (some ((s0.1 20 1), s0)) else (if inB v1 6 = true then (if inB v1 6 = true then (lt (up1 s0 (27 + v1.toNatClampNeg) 4 (s0.1 25 v1.toNatClampNeg)) (fun s_7 => (if inB v1 6 = true then (if inB v1 6 = true then (lt (up1 s_7 (27 + v1.toNatClampNeg) 5 (s_7.1 26 v1.toNatClampNeg)) (fun s_10 => (F_Main_back_37 n s_10 (v1 + 1)))) else none) else none))) else none) else none))
set_option maxHeartbeats 4000000 in
set_option maxRecDepth 100000 in
theorem q_Main_back_37 (hn : 33 ≤ nC) (K : Fx p s m args meth c b_Main_back 2 R_Main (some .int))  : ∀ (n : Nat), ∀ (H : Heap) (locs : List Loc) (ls : Array Slot) (s0 : St) (v1 : Int32), Wh D cA ad (shC.take nC) A s s0 H locs → lv_has ls 2 [(0, .ref (ad 20)), (1, .int v1)] → F_Main_back_37 n s0 v1 = (some (r, τ)) → W p l e rm_Main_back s m args below meth c H locs 0 0 (MQ below (QcI D cA ad (shC.take nC) A r τ) args s 0 0 A) (F0 m 37 ls []) := by
  have hx := K.1.1; have hb := K.1.2.1
  intro n
  induction n with
  | zero =>
    intro H locs ls s0 v1 hw hl hF
    exact absurd hF (by rw [F_Main_back_37]; exact nofun)
  | succ n ih =>
    intro H locs ls s0 v1 hw hl hF
    rw [F_Main_back_37] at hF
    refine lv_iload_n hx hb d_Main_back_37 rfl (lv_at hl 1 rfl) ?_
    refine lv_bipush (v := 6) hx hb d_Main_back_38 (by decide) ?_
    refine lv_icmp_ge (tgt := 85) hx hb d_Main_back_40 (by decide) (fun c_4 => ?_) (fun c_4 => ?_)
    · replace hF := ifT hF c_4
      refine lv_aload_n hx hb d_Main_back_85 rfl (lv_at hl 0 rfl) ?_
      refine r_get (v := .int (s0.1 20 1)) K hw i_Main (sh_Main (Nat.le_trans (Nat.le_of_ble_eq_true rfl) hn)) rfl 1 (by decide) w_599 rfl rfl rfl d_Main_back_86 ?_
      obtain ⟨hF, hG⟩ := sE2 hF
      subst hF
      subst hG
      exact r_iret K hw d_Main_back_89
    · replace hF := ifF hF c_4
      refine lv_aload_n hx hb d_Main_back_43 rfl (lv_at hl 0 rfl) ?_
      refine r_get (v := .ref (ad 21)) K hw i_Main (sh_Main (Nat.le_trans (Nat.le_of_ble_eq_true rfl) hn)) rfl 0 (by decide) w_598 rfl rfl rfl d_Main_back_44 ?_
      refine lv_iload_n hx hb d_Main_back_47 rfl (lv_at hl 1 rfl) ?_
      obtain ⟨g_5, hF⟩ := ifG hF
      refine r_aald (k := v1.toNatClampNeg) K hw (sh_a21 (Nat.le_trans (Nat.le_of_ble_eq_true rfl) hn)) (rfl : (TYS cA)[1]? = some (cA 1, _)) rfl (inB_vp g_5) d_Main_back_48 ?_
      refine lv_aload_n hx hb d_Main_back_49 rfl (lv_at hl 0 rfl) ?_
      refine r_get (v := .ref (ad 24)) K hw i_Main (sh_Main (Nat.le_trans (Nat.le_of_ble_eq_true rfl) hn)) rfl 10 (by decide) w_608 rfl rfl rfl d_Main_back_50 ?_
      refine r_get (v := .ref (ad 25)) K hw i_Image (sh_Image (Nat.le_trans (Nat.le_of_ble_eq_true rfl) hn)) rfl 0 (by decide) w_120 rfl rfl rfl d_Main_back_53 ?_
      refine lv_iload_n hx hb d_Main_back_56 rfl (lv_at hl 1 rfl) ?_
      obtain ⟨g_6, hF⟩ := ifG hF
      refine r_iald (k := v1.toNatClampNeg) K hw (sh_a25 (Nat.le_trans (Nat.le_of_ble_eq_true rfl) hn)) rfl (inB_vp g_6) d_Main_back_57 ?_
      refine r_putI K hw i_Arm t_Arm t_Arm_ok n_Arm (sh_Arm (P_Arm_of g_5) (Nat.le_trans (Nat.le_of_ble_eq_true rfl) hn)) rfl 4 (by decide) w_155 rfl rfl rfl rfl rfl d_Main_back_58 (fun s_7 f_s_7 H locs hw => ?_)
      replace hF := ltN hF f_s_7
      refine lv_aload_n hx hb d_Main_back_61 rfl (lv_at hl 0 rfl) ?_
      refine r_get (v := .ref (ad 21)) K hw i_Main (sh_Main (Nat.le_trans (Nat.le_of_ble_eq_true rfl) hn)) rfl 0 (by decide) w_598 rfl rfl rfl d_Main_back_62 ?_
      refine lv_iload_n hx hb d_Main_back_65 rfl (lv_at hl 1 rfl) ?_
      obtain ⟨g_8, hF⟩ := ifG hF
      refine r_aald (k := v1.toNatClampNeg) K hw (sh_a21 (Nat.le_trans (Nat.le_of_ble_eq_true rfl) hn)) (rfl : (TYS cA)[1]? = some (cA 1, _)) rfl (inB_vp g_8) d_Main_back_66 ?_
      refine lv_aload_n hx hb d_Main_back_67 rfl (lv_at hl 0 rfl) ?_
      refine r_get (v := .ref (ad 24)) K hw i_Main (sh_Main (Nat.le_trans (Nat.le_of_ble_eq_true rfl) hn)) rfl 10 (by decide) w_608 rfl rfl rfl d_Main_back_68 ?_
      refine r_get (v := .ref (ad 26)) K hw i_Image (sh_Image (Nat.le_trans (Nat.le_of_ble_eq_true rfl) hn)) rfl 1 (by decide) w_122 rfl rfl rfl d_Main_back_71 ?_
      refine lv_iload_n hx hb d_Main_back_74 rfl (lv_at hl 1 rfl) ?_
      obtain ⟨g_9, hF⟩ := ifG hF
      refine r_iald (k := v1.toNatClampNeg) K hw (sh_a26 (Nat.le_trans (Nat.le_of_ble_eq_true rfl) hn)) rfl (inB_vp g_9) d_Main_back_75 ?_
      refine r_putI K hw i_Arm t_Arm t_Arm_ok n_Arm (sh_Arm (P_Arm_of g_8) (Nat.le_trans (Nat.le_of_ble_eq_true rfl) hn)) rfl 5 (by decide) w_158 rfl rfl rfl rfl rfl d_Main_back_76 (fun s_10 f_s_10 H locs hw => ?_)
      replace hF := ltN hF f_s_10
      refine lv_iinc (v := (v1 + 1)) (lv' := [(1, .int (v1 + 1)), (0, .ref (ad 20))]) hx hb d_Main_back_79 hl (k := 1) rfl rfl (by decide) rfl (fun ls hl => ?_)
      refine lv_goto (tgt := 37) hx hb d_Main_back_82 (by decide) ?_
      exact ih _ _ _ _ _  hw (lv_sub hl [1, 0] rfl) hF
noncomputable def F_Main_back_0 (s0 : St) : Option (Int32 × St) := (if ¬ (s0.1 24 2) = 0 then (lt (up1 s0 20 1 (s0.1 24 3)) (fun s_2 => (lt (up1 s_2 20 4 (s_2.1 24 4)) (fun s_3 => (F_Main_back_37 FU s_3 (0 : Int32)))))) else (some ((-3 : Int32), s0)))
set_option maxHeartbeats 4000000 in
set_option maxRecDepth 100000 in
theorem q_Main_back_0 (hn : 33 ≤ nC) (K : Fx p s m args meth c b_Main_back 2 R_Main (some .int))  : ∀ (H : Heap) (locs : List Loc) (ls : Array Slot) (s0 : St), Wh D cA ad (shC.take nC) A s s0 H locs → lv_has ls 2 [(0, .ref (ad 20))] → F_Main_back_0 s0 = (some (r, τ)) → W p l e rm_Main_back s m args below meth c H locs 0 0 (MQ below (QcI D cA ad (shC.take nC) A r τ) args s 0 0 A) (F0 m 0 ls []) := by
  have hx := K.1.1; have hb := K.1.2.1
  intro H locs ls s0 hw hl hF
  unfold F_Main_back_0 at hF
  refine lv_aload_n hx hb d_Main_back_0 rfl (lv_at hl 0 rfl) ?_
  refine r_get (v := .ref (ad 24)) K hw i_Main (sh_Main (Nat.le_trans (Nat.le_of_ble_eq_true rfl) hn)) rfl 10 (by decide) w_608 rfl rfl rfl d_Main_back_1 ?_
  refine r_get (v := .int (s0.1 24 2)) K hw i_Image (sh_Image (Nat.le_trans (Nat.le_of_ble_eq_true rfl) hn)) rfl 2 (by decide) w_123 rfl rfl rfl d_Main_back_4 ?_
  refine lv_if_ne (tgt := 13) hx hb d_Main_back_7 (by decide) (fun c_1 => ?_) (fun c_1 => ?_)
  · replace hF := ifT hF c_1
    refine lv_aload_n hx hb d_Main_back_13 rfl (lv_at hl 0 rfl) ?_
    refine lv_aload_n hx hb d_Main_back_14 rfl (lv_at hl 0 rfl) ?_
    refine r_get (v := .ref (ad 24)) K hw i_Main (sh_Main (Nat.le_trans (Nat.le_of_ble_eq_true rfl) hn)) rfl 10 (by decide) w_608 rfl rfl rfl d_Main_back_15 ?_
    refine r_get (v := .int (s0.1 24 3)) K hw i_Image (sh_Image (Nat.le_trans (Nat.le_of_ble_eq_true rfl) hn)) rfl 3 (by decide) w_124 rfl rfl rfl d_Main_back_18 ?_
    refine r_putI K hw i_Main t_Main t_Main_ok n_Main (sh_Main (Nat.le_trans (Nat.le_of_ble_eq_true rfl) hn)) rfl 1 (by decide) w_599 rfl rfl rfl rfl rfl d_Main_back_21 (fun s_2 f_s_2 H locs hw => ?_)
    replace hF := ltN hF f_s_2
    refine lv_aload_n hx hb d_Main_back_24 rfl (lv_at hl 0 rfl) ?_
    refine lv_aload_n hx hb d_Main_back_25 rfl (lv_at hl 0 rfl) ?_
    refine r_get (v := .ref (ad 24)) K hw i_Main (sh_Main (Nat.le_trans (Nat.le_of_ble_eq_true rfl) hn)) rfl 10 (by decide) w_608 rfl rfl rfl d_Main_back_26 ?_
    refine r_get (v := .int (s_2.1 24 4)) K hw i_Image (sh_Image (Nat.le_trans (Nat.le_of_ble_eq_true rfl) hn)) rfl 4 (by decide) w_125 rfl rfl rfl d_Main_back_29 ?_
    refine r_putI K hw i_Main t_Main t_Main_ok n_Main (sh_Main (Nat.le_trans (Nat.le_of_ble_eq_true rfl) hn)) rfl 4 (by decide) w_602 rfl rfl rfl rfl rfl d_Main_back_32 (fun s_3 f_s_3 H locs hw => ?_)
    replace hF := ltN hF f_s_3
    refine lv_iconst (v := 0) hx hb d_Main_back_35 (by decide) ?_
    refine lv_istore_n (lv' := [(1, .int (0 : Int32)), (0, .ref (ad 20))]) hx hb d_Main_back_36 rfl hl (by decide) rfl (fun ls hl => ?_)
    exact q_Main_back_37 hn K FU _ _ _ _ _  hw (lv_sub hl [1, 0] rfl) hF
  · replace hF := ifN hF c_1
    refine lv_bipush (v := -3) hx hb d_Main_back_10 (by decide) ?_
    obtain ⟨hF, hG⟩ := sE2 hF
    subst hF
    subst hG
    exact r_iret K hw d_Main_back_12
end S_Main_back
noncomputable abbrev F_Main_back := F_Main_back_0
theorem c_Main_back {l : Launch} {D : va_G} {cA : Nat → ClassId} {ad : Nat → Nat} {s0 τ : St} {nC : Nat} (hn : 33 ≤ nC) {r : Int32}   (hF : F_Main_back s0 = (some (r, τ))) : MI l D cA ad (shC.take nC) y_Main_back (wT y_Main_back b_Main_back 2 (some .int)) rm_Main_back [.ref (ad 20)] s0 r τ := fun sz => m_start (Qc := fun A => QcI D cA ad (shC.take nC) A r τ) (by decide +kernel) w_942 (Nat.le_of_ble_eq_true rfl) (fun p e s m below meth c ls K hl hw => q_Main_back_0 hn K _ _ _ _   hw hl hF)

/-! Main.sheet(III)I -/
abbrev b_Main_sheet : ByteArray := prog_1_method_30_code
def y_Main_sheet : MethodName := ⟨R_Main, "sheet", "(III)I"⟩
theorem a_Main_sheet : y_Main_sheet.cls = R_Main ∧ y_Main_sheet.cls ≠ "java/lang/invoke/MethodHandle" ∧ y_Main_sheet.cls ≠ "java/lang/invoke/VarHandle" ∧ (parseMethodDescriptor y_Main_sheet.desc).map (fun d => d.parameters.length) = some 3 := by decide +kernel
abbrev rm_Main_sheet : Room := { frames := 2, cells := 0, slots := 0, locals := 45 }
theorem w_946 : Cond.code y_Main_sheet b_Main_sheet 4 (some .int) ∈ TB := tb_in 946 (by decide +kernel) (by decide +kernel)
theorem d_Main_sheet_0 : decode b_Main_sheet 0 = .ok (.iload_n 1, 1) := by decide +kernel
theorem d_Main_sheet_1 : decode b_Main_sheet 1 = .ok (.invokestatic 255, 3) := by decide +kernel
theorem d_Main_sheet_4 : decode b_Main_sheet 4 = .ok (.ifCond .eq 12, 3) := by decide +kernel
theorem d_Main_sheet_7 : decode b_Main_sheet 7 = .ok (.iload_n 2, 1) := by decide +kernel
theorem d_Main_sheet_8 : decode b_Main_sheet 8 = .ok (.iconst (-1), 1) := by decide +kernel
theorem d_Main_sheet_9 : decode b_Main_sheet 9 = .ok (.iconst 2, 1) := by decide +kernel
theorem d_Main_sheet_10 : decode b_Main_sheet 10 = .ok (.invokestatic 108, 3) := by decide +kernel
theorem d_Main_sheet_13 : decode b_Main_sheet 13 = .ok (.ifCond .ne 6, 3) := by decide +kernel
theorem d_Main_sheet_16 : decode b_Main_sheet 16 = .ok (.bipush (-2), 2) := by decide +kernel
theorem d_Main_sheet_18 : decode b_Main_sheet 18 = .ok (.ireturn, 1) := by decide +kernel
theorem d_Main_sheet_19 : decode b_Main_sheet 19 = .ok (.iload_n 2, 1) := by decide +kernel
theorem d_Main_sheet_20 : decode b_Main_sheet 20 = .ok (.iconst (-1), 1) := by decide +kernel
theorem d_Main_sheet_21 : decode b_Main_sheet 21 = .ok (.if_icmp .ne 16, 3) := by decide +kernel
theorem d_Main_sheet_24 : decode b_Main_sheet 24 = .ok (.aload_n 0, 1) := by decide +kernel
theorem d_Main_sheet_25 : decode b_Main_sheet 25 = .ok (.getfield 30, 3) := by decide +kernel
theorem d_Main_sheet_28 : decode b_Main_sheet 28 = .ok (.iload_n 1, 1) := by decide +kernel
theorem d_Main_sheet_29 : decode b_Main_sheet 29 = .ok (.aaload, 1) := by decide +kernel
theorem d_Main_sheet_30 : decode b_Main_sheet 30 = .ok (.iconst (-1), 1) := by decide +kernel
theorem d_Main_sheet_31 : decode b_Main_sheet 31 = .ok (.iconst 0, 1) := by decide +kernel
theorem d_Main_sheet_32 : decode b_Main_sheet 32 = .ok (.invokevirtual 258, 3) := by decide +kernel
theorem d_Main_sheet_35 : decode b_Main_sheet 35 = .ok (.iconst 1, 1) := by decide +kernel
theorem d_Main_sheet_36 : decode b_Main_sheet 36 = .ok (.ireturn, 1) := by decide +kernel
theorem d_Main_sheet_37 : decode b_Main_sheet 37 = .ok (.iload_n 3, 1) := by decide +kernel
theorem d_Main_sheet_38 : decode b_Main_sheet 38 = .ok (.bipush 40, 2) := by decide +kernel
theorem d_Main_sheet_40 : decode b_Main_sheet 40 = .ok (.if_icmp .le 6, 3) := by decide +kernel
theorem d_Main_sheet_43 : decode b_Main_sheet 43 = .ok (.bipush (-2), 2) := by decide +kernel
theorem d_Main_sheet_45 : decode b_Main_sheet 45 = .ok (.ireturn, 1) := by decide +kernel
theorem d_Main_sheet_46 : decode b_Main_sheet 46 = .ok (.iload_n 3, 1) := by decide +kernel
theorem d_Main_sheet_47 : decode b_Main_sheet 47 = .ok (.ifCond .ge 6, 3) := by decide +kernel
theorem d_Main_sheet_50 : decode b_Main_sheet 50 = .ok (.bipush (-14), 2) := by decide +kernel
theorem d_Main_sheet_52 : decode b_Main_sheet 52 = .ok (.ireturn, 1) := by decide +kernel
theorem d_Main_sheet_53 : decode b_Main_sheet 53 = .ok (.aload_n 0, 1) := by decide +kernel
theorem d_Main_sheet_54 : decode b_Main_sheet 54 = .ok (.getfield 30, 3) := by decide +kernel
theorem d_Main_sheet_57 : decode b_Main_sheet 57 = .ok (.iload_n 1, 1) := by decide +kernel
theorem d_Main_sheet_58 : decode b_Main_sheet 58 = .ok (.aaload, 1) := by decide +kernel
theorem d_Main_sheet_59 : decode b_Main_sheet 59 = .ok (.iload_n 2, 1) := by decide +kernel
theorem d_Main_sheet_60 : decode b_Main_sheet 60 = .ok (.iload_n 3, 1) := by decide +kernel
theorem d_Main_sheet_61 : decode b_Main_sheet 61 = .ok (.invokevirtual 258, 3) := by decide +kernel
theorem d_Main_sheet_64 : decode b_Main_sheet 64 = .ok (.iconst 1, 1) := by decide +kernel
theorem d_Main_sheet_65 : decode b_Main_sheet 65 = .ok (.ireturn, 1) := by decide +kernel
section S_Main_sheet
variable {p : Program} {l : Launch} {e : Env} {s : State} {m : MethodId} {args : Array Value} {below : List Frame} {meth : Method} {c : Code} {D : va_G} {cA : Nat → ClassId} {ad : Nat → Nat} {nC : Nat} {A : Nat → Prop} {r : Int32} {τ : St}
noncomputable def F_Main_sheet_0 (s0 : St) (v1 : Int32) (v2 : Int32) (v3 : Int32) : Option (Int32 × St) := (ob1 (F_Main_isSheet v1) (fun r_1 => (if r_1 = 0 then (some ((-2 : Int32), s0)) else (if ¬ (F_Main_isWithin v2 (-1 : Int32) (2 : Int32)) = 0 then (if ¬ v2 = (-1 : Int32) then (if v3 ≤ (40 : Int32) then (if 0 ≤ v3 then (if inB v1 4 = true then (ob1 (F_Sheet_become s0 (33 + v1.toNatClampNeg) v2 v3) (fun s_8 => (some ((1 : Int32), s_8)))) else none) else (some ((-14 : Int32), s0))) else (some ((-2 : Int32), s0))) else (if inB v1 4 = true then (ob1 (F_Sheet_become s0 (33 + v1.toNatClampNeg) (-1 : Int32) (0 : Int32)) (fun s_10 => (some ((1 : Int32), s_10)))) else none)) else (some ((-2 : Int32), s0))))))
set_option maxHeartbeats 4000000 in
set_option maxRecDepth 100000 in
theorem q_Main_sheet_0 (hn : 41 ≤ nC) (K : Fx p s m args meth c b_Main_sheet 4 R_Main (some .int))  : ∀ (H : Heap) (locs : List Loc) (ls : Array Slot) (s0 : St) (v1 : Int32) (v2 : Int32) (v3 : Int32), Wh D cA ad (shC.take nC) A s s0 H locs → lv_has ls 4 [(0, .ref (ad 20)), (1, .int v1), (2, .int v2), (3, .int v3)] → F_Main_sheet_0 s0 v1 v2 v3 = (some (r, τ)) → W p l e rm_Main_sheet s m args below meth c H locs 0 0 (MQ below (QcI D cA ad (shC.take nC) A r τ) args s 0 0 A) (F0 m 0 ls []) := by
  have hx := K.1.1; have hb := K.1.2.1
  intro H locs ls s0 v1 v2 v3 hw hl hF
  unfold F_Main_sheet_0 at hF
  refine lv_iload_n hx hb d_Main_sheet_0 rfl (lv_at hl 1 rfl) ?_
  obtain ⟨r_1, h_r_1, hF⟩ := ob1E hF
  refine r_callSI (As := [.int v1]) (rest := []) K hw hl.1 (c_Main_isSheet (l := l) (D := D) (cA := cA) (ad := ad) (s0 := s0) (Nat.le_trans (Nat.le_of_ble_eq_true rfl) hn)  h_r_1) (tb_gS w_874 w_875 w_63 w_876) a_Main_isSheet ⟨rfl, rfl, Nat.le_of_ble_eq_true rfl, Nat.le_of_ble_eq_true rfl⟩ rfl rfl (Nat.le_of_ble_eq_true rfl) d_Main_sheet_1 (fun H locs hw => ?_)
  refine lv_if_eq (tgt := 16) hx hb d_Main_sheet_4 (by decide) (fun c_2 => ?_) (fun c_2 => ?_)
  · replace hF := ifT hF c_2
    refine lv_bipush (v := -2) hx hb d_Main_sheet_16 (by decide) ?_
    obtain ⟨hF, hG⟩ := sE2 hF
    subst hF
    subst hG
    exact r_iret K hw d_Main_sheet_18
  · replace hF := ifF hF c_2
    refine lv_iload_n hx hb d_Main_sheet_7 rfl (lv_at hl 2 rfl) ?_
    refine lv_iconst (v := -1) hx hb d_Main_sheet_8 (by decide) ?_
    refine lv_iconst (v := 2) hx hb d_Main_sheet_9 (by decide) ?_
    refine r_callSI (As := [.int v2, .int (-1 : Int32), .int (2 : Int32)]) (rest := []) K hw hl.1 (c_Main_isWithin (l := l) (D := D) (cA := cA) (ad := ad) (s0 := s0) (Nat.le_trans (Nat.le_of_ble_eq_true rfl) hn)  rfl) (tb_gS w_640 w_347 w_63 w_348) a_Main_isWithin ⟨rfl, rfl, Nat.le_of_ble_eq_true rfl, Nat.le_of_ble_eq_true rfl⟩ rfl rfl (Nat.le_of_ble_eq_true rfl) d_Main_sheet_10 (fun H locs hw => ?_)
    refine lv_if_ne (tgt := 19) hx hb d_Main_sheet_13 (by decide) (fun c_3 => ?_) (fun c_3 => ?_)
    · replace hF := ifT hF c_3
      refine lv_iload_n hx hb d_Main_sheet_19 rfl (lv_at hl 2 rfl) ?_
      refine lv_iconst (v := -1) hx hb d_Main_sheet_20 (by decide) ?_
      refine lv_icmp_ne (tgt := 37) hx hb d_Main_sheet_21 (by decide) (fun c_4 => ?_) (fun c_4 => ?_)
      · replace hF := ifT hF c_4
        refine lv_iload_n hx hb d_Main_sheet_37 rfl (lv_at hl 3 rfl) ?_
        refine lv_bipush (v := 40) hx hb d_Main_sheet_38 (by decide) ?_
        refine lv_icmp_le (tgt := 46) hx hb d_Main_sheet_40 (by decide) (fun c_5 => ?_) (fun c_5 => ?_)
        · replace hF := ifT hF c_5
          refine lv_iload_n hx hb d_Main_sheet_46 rfl (lv_at hl 3 rfl) ?_
          refine lv_if_ge (tgt := 53) hx hb d_Main_sheet_47 (by decide) (fun c_6 => ?_) (fun c_6 => ?_)
          · replace hF := ifT hF c_6
            refine lv_aload_n hx hb d_Main_sheet_53 rfl (lv_at hl 0 rfl) ?_
            refine r_get (v := .ref (ad 23)) K hw i_Main (sh_Main (Nat.le_trans (Nat.le_of_ble_eq_true rfl) hn)) rfl 9 (by decide) w_607 rfl rfl rfl d_Main_sheet_54 ?_
            refine lv_iload_n hx hb d_Main_sheet_57 rfl (lv_at hl 1 rfl) ?_
            obtain ⟨g_7, hF⟩ := ifG hF
            refine r_aald (k := v1.toNatClampNeg) K hw (sh_a23 (Nat.le_trans (Nat.le_of_ble_eq_true rfl) hn)) (rfl : (TYS cA)[3]? = some (cA 3, _)) rfl (inB_vp g_7) d_Main_sheet_58 ?_
            refine lv_iload_n hx hb d_Main_sheet_59 rfl (lv_at hl 2 rfl) ?_
            refine lv_iload_n hx hb d_Main_sheet_60 rfl (lv_at hl 3 rfl) ?_
            obtain ⟨s_8, h_s_8, hF⟩ := ob1E hF
            refine r_callVV (As := [.int v2, .int v3]) (rest := []) K hw hl.1 (c_Sheet_become (l := l) (D := D) (cA := cA) (ad := ad) (s0 := s0) (Nat.le_trans (Nat.le_of_ble_eq_true rfl) hn) (P_Sheet_of g_7) h_s_8) (sh_Sheet (P_Sheet_of g_7) (Nat.le_trans (Nat.le_of_ble_eq_true rfl) hn)) rfl (tb_gV w_906 w_907 w_908 w_67 w_909) a_Sheet_become ⟨rfl, rfl, Nat.le_of_ble_eq_true rfl, Nat.le_of_ble_eq_true rfl⟩ rfl rfl (Nat.le_of_ble_eq_true rfl) d_Main_sheet_61 (fun H locs hw => ?_)
            refine lv_iconst (v := 1) hx hb d_Main_sheet_64 (by decide) ?_
            obtain ⟨hF, hG⟩ := sE2 hF
            subst hF
            subst hG
            exact r_iret K hw d_Main_sheet_65
          · replace hF := ifF hF c_6
            refine lv_bipush (v := -14) hx hb d_Main_sheet_50 (by decide) ?_
            obtain ⟨hF, hG⟩ := sE2 hF
            subst hF
            subst hG
            exact r_iret K hw d_Main_sheet_52
        · replace hF := ifF hF c_5
          refine lv_bipush (v := -2) hx hb d_Main_sheet_43 (by decide) ?_
          obtain ⟨hF, hG⟩ := sE2 hF
          subst hF
          subst hG
          exact r_iret K hw d_Main_sheet_45
      · replace hF := ifN hF c_4
        refine lv_aload_n hx hb d_Main_sheet_24 rfl (lv_at hl 0 rfl) ?_
        refine r_get (v := .ref (ad 23)) K hw i_Main (sh_Main (Nat.le_trans (Nat.le_of_ble_eq_true rfl) hn)) rfl 9 (by decide) w_607 rfl rfl rfl d_Main_sheet_25 ?_
        refine lv_iload_n hx hb d_Main_sheet_28 rfl (lv_at hl 1 rfl) ?_
        obtain ⟨g_9, hF⟩ := ifG hF
        refine r_aald (k := v1.toNatClampNeg) K hw (sh_a23 (Nat.le_trans (Nat.le_of_ble_eq_true rfl) hn)) (rfl : (TYS cA)[3]? = some (cA 3, _)) rfl (inB_vp g_9) d_Main_sheet_29 ?_
        refine lv_iconst (v := -1) hx hb d_Main_sheet_30 (by decide) ?_
        refine lv_iconst (v := 0) hx hb d_Main_sheet_31 (by decide) ?_
        obtain ⟨s_10, h_s_10, hF⟩ := ob1E hF
        refine r_callVV (As := [.int (-1 : Int32), .int (0 : Int32)]) (rest := []) K hw hl.1 (c_Sheet_become (l := l) (D := D) (cA := cA) (ad := ad) (s0 := s0) (Nat.le_trans (Nat.le_of_ble_eq_true rfl) hn) (P_Sheet_of g_9) h_s_10) (sh_Sheet (P_Sheet_of g_9) (Nat.le_trans (Nat.le_of_ble_eq_true rfl) hn)) rfl (tb_gV w_906 w_907 w_908 w_67 w_909) a_Sheet_become ⟨rfl, rfl, Nat.le_of_ble_eq_true rfl, Nat.le_of_ble_eq_true rfl⟩ rfl rfl (Nat.le_of_ble_eq_true rfl) d_Main_sheet_32 (fun H locs hw => ?_)
        refine lv_iconst (v := 1) hx hb d_Main_sheet_35 (by decide) ?_
        obtain ⟨hF, hG⟩ := sE2 hF
        subst hF
        subst hG
        exact r_iret K hw d_Main_sheet_36
    · replace hF := ifN hF c_3
      refine lv_bipush (v := -2) hx hb d_Main_sheet_16 (by decide) ?_
      obtain ⟨hF, hG⟩ := sE2 hF
      subst hF
      subst hG
      exact r_iret K hw d_Main_sheet_18
end S_Main_sheet
noncomputable abbrev F_Main_sheet := F_Main_sheet_0
theorem c_Main_sheet {l : Launch} {D : va_G} {cA : Nat → ClassId} {ad : Nat → Nat} {s0 τ : St} {nC : Nat} (hn : 41 ≤ nC) {r : Int32} {v1 : Int32} {v2 : Int32} {v3 : Int32}  (hF : F_Main_sheet s0 v1 v2 v3 = (some (r, τ))) : MI l D cA ad (shC.take nC) y_Main_sheet (wT y_Main_sheet b_Main_sheet 4 (some .int)) rm_Main_sheet [.ref (ad 20), .int v1, .int v2, .int v3] s0 r τ := fun sz => m_start (Qc := fun A => QcI D cA ad (shC.take nC) A r τ) (by decide +kernel) w_946 (Nat.le_of_ble_eq_true rfl) (fun p e s m below meth c ls K hl hw => q_Main_sheet_0 hn K _ _ _ _ _ _ _  hw hl hF)

/-! Main.cell(III)I -/
abbrev b_Main_cell : ByteArray := prog_1_method_31_code
def y_Main_cell : MethodName := ⟨R_Main, "cell", "(III)I"⟩
theorem a_Main_cell : y_Main_cell.cls = R_Main ∧ y_Main_cell.cls ≠ "java/lang/invoke/MethodHandle" ∧ y_Main_cell.cls ≠ "java/lang/invoke/VarHandle" ∧ (parseMethodDescriptor y_Main_cell.desc).map (fun d => d.parameters.length) = some 3 := by decide +kernel
abbrev rm_Main_cell : Room := { frames := 3, cells := 0, slots := 0, locals := 65 }
theorem w_951 : Cond.methodLink R_Main 284 y_Sheet_hasPlace ∈ TB := tb_in 951 (by decide +kernel) (by decide +kernel)
theorem w_950 : Cond.code y_Main_cell b_Main_cell 4 (some .int) ∈ TB := tb_in 950 (by decide +kernel) (by decide +kernel)
theorem d_Main_cell_0 : decode b_Main_cell 0 = .ok (.iload_n 1, 1) := by decide +kernel
theorem d_Main_cell_1 : decode b_Main_cell 1 = .ok (.invokestatic 255, 3) := by decide +kernel
theorem d_Main_cell_4 : decode b_Main_cell 4 = .ok (.ifCond .ne 6, 3) := by decide +kernel
theorem d_Main_cell_7 : decode b_Main_cell 7 = .ok (.bipush (-2), 2) := by decide +kernel
theorem d_Main_cell_9 : decode b_Main_cell 9 = .ok (.ireturn, 1) := by decide +kernel
theorem d_Main_cell_10 : decode b_Main_cell 10 = .ok (.aload_n 0, 1) := by decide +kernel
theorem d_Main_cell_11 : decode b_Main_cell 11 = .ok (.getfield 30, 3) := by decide +kernel
theorem d_Main_cell_14 : decode b_Main_cell 14 = .ok (.iload_n 1, 1) := by decide +kernel
theorem d_Main_cell_15 : decode b_Main_cell 15 = .ok (.aaload, 1) := by decide +kernel
theorem d_Main_cell_16 : decode b_Main_cell 16 = .ok (.getfield 281, 3) := by decide +kernel
theorem d_Main_cell_19 : decode b_Main_cell 19 = .ok (.iconst (-1), 1) := by decide +kernel
theorem d_Main_cell_20 : decode b_Main_cell 20 = .ok (.if_icmp .ne 6, 3) := by decide +kernel
theorem d_Main_cell_23 : decode b_Main_cell 23 = .ok (.bipush (-11), 2) := by decide +kernel
theorem d_Main_cell_25 : decode b_Main_cell 25 = .ok (.ireturn, 1) := by decide +kernel
theorem d_Main_cell_26 : decode b_Main_cell 26 = .ok (.aload_n 0, 1) := by decide +kernel
theorem d_Main_cell_27 : decode b_Main_cell 27 = .ok (.getfield 30, 3) := by decide +kernel
theorem d_Main_cell_30 : decode b_Main_cell 30 = .ok (.iload_n 1, 1) := by decide +kernel
theorem d_Main_cell_31 : decode b_Main_cell 31 = .ok (.aaload, 1) := by decide +kernel
theorem d_Main_cell_32 : decode b_Main_cell 32 = .ok (.iload_n 2, 1) := by decide +kernel
theorem d_Main_cell_33 : decode b_Main_cell 33 = .ok (.invokevirtual 284, 3) := by decide +kernel
theorem d_Main_cell_36 : decode b_Main_cell 36 = .ok (.ifCond .ne 6, 3) := by decide +kernel
theorem d_Main_cell_39 : decode b_Main_cell 39 = .ok (.bipush (-12), 2) := by decide +kernel
theorem d_Main_cell_41 : decode b_Main_cell 41 = .ok (.ireturn, 1) := by decide +kernel
theorem d_Main_cell_42 : decode b_Main_cell 42 = .ok (.aload_n 0, 1) := by decide +kernel
theorem d_Main_cell_43 : decode b_Main_cell 43 = .ok (.getfield 30, 3) := by decide +kernel
theorem d_Main_cell_46 : decode b_Main_cell 46 = .ok (.iload_n 1, 1) := by decide +kernel
theorem d_Main_cell_47 : decode b_Main_cell 47 = .ok (.aaload, 1) := by decide +kernel
theorem d_Main_cell_48 : decode b_Main_cell 48 = .ok (.iload_n 2, 1) := by decide +kernel
theorem d_Main_cell_49 : decode b_Main_cell 49 = .ok (.iload_n 3, 1) := by decide +kernel
theorem d_Main_cell_50 : decode b_Main_cell 50 = .ok (.invokevirtual 261, 3) := by decide +kernel
theorem d_Main_cell_53 : decode b_Main_cell 53 = .ok (.iconst 1, 1) := by decide +kernel
theorem d_Main_cell_54 : decode b_Main_cell 54 = .ok (.ireturn, 1) := by decide +kernel
section S_Main_cell
variable {p : Program} {l : Launch} {e : Env} {s : State} {m : MethodId} {args : Array Value} {below : List Frame} {meth : Method} {c : Code} {D : va_G} {cA : Nat → ClassId} {ad : Nat → Nat} {nC : Nat} {A : Nat → Prop} {r : Int32} {τ : St}
noncomputable def F_Main_cell_0 (s0 : St) (v1 : Int32) (v2 : Int32) (v3 : Int32) : Option (Int32 × St) := (ob1 (F_Main_isSheet v1) (fun r_1 => (if ¬ r_1 = 0 then (if inB v1 4 = true then (if ¬ (s0.1 (33 + v1.toNatClampNeg) 1) = (-1 : Int32) then (if inB v1 4 = true then (ob1 (F_Sheet_hasPlace s0 (33 + v1.toNatClampNeg) v2) (fun r_6 => (if ¬ r_6 = 0 then (if inB v1 4 = true then (ob1 (F_Sheet_put s0 (33 + v1.toNatClampNeg) v2 v3) (fun s_9 => (some ((1 : Int32), s_9)))) else none) else (some ((-12 : Int32), s0))))) else none) else (some ((-11 : Int32), s0))) else none) else (some ((-2 : Int32), s0)))))
set_option maxHeartbeats 4000000 in
set_option maxRecDepth 100000 in
theorem q_Main_cell_0 (hn : 41 ≤ nC) (K : Fx p s m args meth c b_Main_cell 4 R_Main (some .int))  : ∀ (H : Heap) (locs : List Loc) (ls : Array Slot) (s0 : St) (v1 : Int32) (v2 : Int32) (v3 : Int32), Wh D cA ad (shC.take nC) A s s0 H locs → lv_has ls 4 [(0, .ref (ad 20)), (1, .int v1), (2, .int v2), (3, .int v3)] → F_Main_cell_0 s0 v1 v2 v3 = (some (r, τ)) → W p l e rm_Main_cell s m args below meth c H locs 0 0 (MQ below (QcI D cA ad (shC.take nC) A r τ) args s 0 0 A) (F0 m 0 ls []) := by
  have hx := K.1.1; have hb := K.1.2.1
  intro H locs ls s0 v1 v2 v3 hw hl hF
  unfold F_Main_cell_0 at hF
  refine lv_iload_n hx hb d_Main_cell_0 rfl (lv_at hl 1 rfl) ?_
  obtain ⟨r_1, h_r_1, hF⟩ := ob1E hF
  refine r_callSI (As := [.int v1]) (rest := []) K hw hl.1 (c_Main_isSheet (l := l) (D := D) (cA := cA) (ad := ad) (s0 := s0) (Nat.le_trans (Nat.le_of_ble_eq_true rfl) hn)  h_r_1) (tb_gS w_874 w_875 w_63 w_876) a_Main_isSheet ⟨rfl, rfl, Nat.le_of_ble_eq_true rfl, Nat.le_of_ble_eq_true rfl⟩ rfl rfl (Nat.le_of_ble_eq_true rfl) d_Main_cell_1 (fun H locs hw => ?_)
  refine lv_if_ne (tgt := 10) hx hb d_Main_cell_4 (by decide) (fun c_2 => ?_) (fun c_2 => ?_)
  · replace hF := ifT hF c_2
    refine lv_aload_n hx hb d_Main_cell_10 rfl (lv_at hl 0 rfl) ?_
    refine r_get (v := .ref (ad 23)) K hw i_Main (sh_Main (Nat.le_trans (Nat.le_of_ble_eq_true rfl) hn)) rfl 9 (by decide) w_607 rfl rfl rfl d_Main_cell_11 ?_
    refine lv_iload_n hx hb d_Main_cell_14 rfl (lv_at hl 1 rfl) ?_
    obtain ⟨g_3, hF⟩ := ifG hF
    refine r_aald (k := v1.toNatClampNeg) K hw (sh_a23 (Nat.le_trans (Nat.le_of_ble_eq_true rfl) hn)) (rfl : (TYS cA)[3]? = some (cA 3, _)) rfl (inB_vp g_3) d_Main_cell_15 ?_
    refine r_get (v := .int (s0.1 (33 + v1.toNatClampNeg) 1)) K hw i_Sheet (sh_Sheet (P_Sheet_of g_3) (Nat.le_trans (Nat.le_of_ble_eq_true rfl) hn)) rfl 1 (by decide) w_192 rfl rfl rfl d_Main_cell_16 ?_
    refine lv_iconst (v := -1) hx hb d_Main_cell_19 (by decide) ?_
    refine lv_icmp_ne (tgt := 26) hx hb d_Main_cell_20 (by decide) (fun c_4 => ?_) (fun c_4 => ?_)
    · replace hF := ifT hF c_4
      refine lv_aload_n hx hb d_Main_cell_26 rfl (lv_at hl 0 rfl) ?_
      refine r_get (v := .ref (ad 23)) K hw i_Main (sh_Main (Nat.le_trans (Nat.le_of_ble_eq_true rfl) hn)) rfl 9 (by decide) w_607 rfl rfl rfl d_Main_cell_27 ?_
      refine lv_iload_n hx hb d_Main_cell_30 rfl (lv_at hl 1 rfl) ?_
      obtain ⟨g_5, hF⟩ := ifG hF
      refine r_aald (k := v1.toNatClampNeg) K hw (sh_a23 (Nat.le_trans (Nat.le_of_ble_eq_true rfl) hn)) (rfl : (TYS cA)[3]? = some (cA 3, _)) rfl (inB_vp g_5) d_Main_cell_31 ?_
      refine lv_iload_n hx hb d_Main_cell_32 rfl (lv_at hl 2 rfl) ?_
      obtain ⟨r_6, h_r_6, hF⟩ := ob1E hF
      refine r_callVI (As := [.int v2]) (rest := []) K hw hl.1 (c_Sheet_hasPlace (l := l) (D := D) (cA := cA) (ad := ad) (s0 := s0) (Nat.le_trans (Nat.le_of_ble_eq_true rfl) hn) (P_Sheet_of g_5) h_r_6) (sh_Sheet (P_Sheet_of g_5) (Nat.le_trans (Nat.le_of_ble_eq_true rfl) hn)) rfl (tb_gV w_951 w_886 w_887 w_67 w_888) a_Sheet_hasPlace ⟨rfl, rfl, Nat.le_of_ble_eq_true rfl, Nat.le_of_ble_eq_true rfl⟩ rfl rfl (Nat.le_of_ble_eq_true rfl) d_Main_cell_33 (fun H locs hw => ?_)
      refine lv_if_ne (tgt := 42) hx hb d_Main_cell_36 (by decide) (fun c_7 => ?_) (fun c_7 => ?_)
      · replace hF := ifT hF c_7
        refine lv_aload_n hx hb d_Main_cell_42 rfl (lv_at hl 0 rfl) ?_
        refine r_get (v := .ref (ad 23)) K hw i_Main (sh_Main (Nat.le_trans (Nat.le_of_ble_eq_true rfl) hn)) rfl 9 (by decide) w_607 rfl rfl rfl d_Main_cell_43 ?_
        refine lv_iload_n hx hb d_Main_cell_46 rfl (lv_at hl 1 rfl) ?_
        obtain ⟨g_8, hF⟩ := ifG hF
        refine r_aald (k := v1.toNatClampNeg) K hw (sh_a23 (Nat.le_trans (Nat.le_of_ble_eq_true rfl) hn)) (rfl : (TYS cA)[3]? = some (cA 3, _)) rfl (inB_vp g_8) d_Main_cell_47 ?_
        refine lv_iload_n hx hb d_Main_cell_48 rfl (lv_at hl 2 rfl) ?_
        refine lv_iload_n hx hb d_Main_cell_49 rfl (lv_at hl 3 rfl) ?_
        obtain ⟨s_9, h_s_9, hF⟩ := ob1E hF
        refine r_callVV (As := [.int v2, .int v3]) (rest := []) K hw hl.1 (c_Sheet_put (l := l) (D := D) (cA := cA) (ad := ad) (s0 := s0) (Nat.le_trans (Nat.le_of_ble_eq_true rfl) hn) (P_Sheet_of g_8) h_s_9) (sh_Sheet (P_Sheet_of g_8) (Nat.le_trans (Nat.le_of_ble_eq_true rfl) hn)) rfl (tb_gV w_911 w_912 w_913 w_67 w_914) a_Sheet_put ⟨rfl, rfl, Nat.le_of_ble_eq_true rfl, Nat.le_of_ble_eq_true rfl⟩ rfl rfl (Nat.le_of_ble_eq_true rfl) d_Main_cell_50 (fun H locs hw => ?_)
        refine lv_iconst (v := 1) hx hb d_Main_cell_53 (by decide) ?_
        obtain ⟨hF, hG⟩ := sE2 hF
        subst hF
        subst hG
        exact r_iret K hw d_Main_cell_54
      · replace hF := ifN hF c_7
        refine lv_bipush (v := -12) hx hb d_Main_cell_39 (by decide) ?_
        obtain ⟨hF, hG⟩ := sE2 hF
        subst hF
        subst hG
        exact r_iret K hw d_Main_cell_41
    · replace hF := ifN hF c_4
      refine lv_bipush (v := -11) hx hb d_Main_cell_23 (by decide) ?_
      obtain ⟨hF, hG⟩ := sE2 hF
      subst hF
      subst hG
      exact r_iret K hw d_Main_cell_25
  · replace hF := ifN hF c_2
    refine lv_bipush (v := -2) hx hb d_Main_cell_7 (by decide) ?_
    obtain ⟨hF, hG⟩ := sE2 hF
    subst hF
    subst hG
    exact r_iret K hw d_Main_cell_9
end S_Main_cell
noncomputable abbrev F_Main_cell := F_Main_cell_0
theorem c_Main_cell {l : Launch} {D : va_G} {cA : Nat → ClassId} {ad : Nat → Nat} {s0 τ : St} {nC : Nat} (hn : 41 ≤ nC) {r : Int32} {v1 : Int32} {v2 : Int32} {v3 : Int32}  (hF : F_Main_cell s0 v1 v2 v3 = (some (r, τ))) : MI l D cA ad (shC.take nC) y_Main_cell (wT y_Main_cell b_Main_cell 4 (some .int)) rm_Main_cell [.ref (ad 20), .int v1, .int v2, .int v3] s0 r τ := fun sz => m_start (Qc := fun A => QcI D cA ad (shC.take nC) A r τ) (by decide +kernel) w_950 (Nat.le_of_ble_eq_true rfl) (fun p e s m below meth c ls K hl hw => q_Main_cell_0 hn K _ _ _ _ _ _ _  hw hl hF)

/-! Sheet.hasPlaces(II)Z -/
abbrev b_Sheet_hasPlaces : ByteArray := prog_7_method_4_code
def y_Sheet_hasPlaces : MethodName := ⟨R_Sheet, "hasPlaces", "(II)Z"⟩
theorem a_Sheet_hasPlaces : y_Sheet_hasPlaces.cls = R_Sheet ∧ y_Sheet_hasPlaces.cls ≠ "java/lang/invoke/MethodHandle" ∧ y_Sheet_hasPlaces.cls ≠ "java/lang/invoke/VarHandle" ∧ (parseMethodDescriptor y_Sheet_hasPlaces.desc).map (fun d => d.parameters.length) = some 2 := by decide +kernel
abbrev rm_Sheet_hasPlaces : Room := { frames := 1, cells := 0, slots := 0, locals := 22 }
theorem w_959 : Cond.code y_Sheet_hasPlaces b_Sheet_hasPlaces 3 (some .boolean) ∈ TB := tb_in 959 (by decide +kernel) (by decide +kernel)
theorem d_Sheet_hasPlaces_0 : decode b_Sheet_hasPlaces 0 = .ok (.iload_n 1, 1) := by decide +kernel
theorem d_Sheet_hasPlaces_1 : decode b_Sheet_hasPlaces 1 = .ok (.ifCond .lt 29, 3) := by decide +kernel
theorem d_Sheet_hasPlaces_4 : decode b_Sheet_hasPlaces 4 = .ok (.iload_n 2, 1) := by decide +kernel
theorem d_Sheet_hasPlaces_5 : decode b_Sheet_hasPlaces 5 = .ok (.iconst 0, 1) := by decide +kernel
theorem d_Sheet_hasPlaces_6 : decode b_Sheet_hasPlaces 6 = .ok (.aload_n 0, 1) := by decide +kernel
theorem d_Sheet_hasPlaces_7 : decode b_Sheet_hasPlaces 7 = .ok (.getfield 23, 3) := by decide +kernel
theorem d_Sheet_hasPlaces_10 : decode b_Sheet_hasPlaces 10 = .ok (.invokestatic 26, 3) := by decide +kernel
theorem d_Sheet_hasPlaces_13 : decode b_Sheet_hasPlaces 13 = .ok (.ifCond .eq 17, 3) := by decide +kernel
theorem d_Sheet_hasPlaces_16 : decode b_Sheet_hasPlaces 16 = .ok (.iload_n 1, 1) := by decide +kernel
theorem d_Sheet_hasPlaces_17 : decode b_Sheet_hasPlaces 17 = .ok (.aload_n 0, 1) := by decide +kernel
theorem d_Sheet_hasPlaces_18 : decode b_Sheet_hasPlaces 18 = .ok (.getfield 23, 3) := by decide +kernel
theorem d_Sheet_hasPlaces_21 : decode b_Sheet_hasPlaces 21 = .ok (.iload_n 2, 1) := by decide +kernel
theorem d_Sheet_hasPlaces_22 : decode b_Sheet_hasPlaces 22 = .ok (.isub, 1) := by decide +kernel
theorem d_Sheet_hasPlaces_23 : decode b_Sheet_hasPlaces 23 = .ok (.if_icmp .gt 7, 3) := by decide +kernel
theorem d_Sheet_hasPlaces_26 : decode b_Sheet_hasPlaces 26 = .ok (.iconst 1, 1) := by decide +kernel
theorem d_Sheet_hasPlaces_27 : decode b_Sheet_hasPlaces 27 = .ok (.goto 4, 3) := by decide +kernel
theorem d_Sheet_hasPlaces_30 : decode b_Sheet_hasPlaces 30 = .ok (.iconst 0, 1) := by decide +kernel
theorem d_Sheet_hasPlaces_31 : decode b_Sheet_hasPlaces 31 = .ok (.ireturn, 1) := by decide +kernel
section S_Sheet_hasPlaces
variable {p : Program} {l : Launch} {e : Env} {s : State} {m : MethodId} {args : Array Value} {below : List Frame} {meth : Method} {c : Code} {D : va_G} {cA : Nat → ClassId} {ad : Nat → Nat} {nC : Nat} {A : Nat → Prop} {r : Int32} {τ : St}
noncomputable def F_Sheet_hasPlaces_0 (s0 : St) (v0 : Nat) (v1 : Int32) (v2 : Int32) : Int32 := (if v1 < 0 then (0 : Int32) else (if (F_Main_isWithin v2 (0 : Int32) (s0.1 v0 2)) = 0 then (0 : Int32) else (if ((s0.1 v0 2) - v2) < v1 then (0 : Int32) else (1 : Int32))))
set_option maxHeartbeats 4000000 in
set_option maxRecDepth 100000 in
theorem q_Sheet_hasPlaces_0 (hn : 37 ≤ nC) (s0 : St) (K : Fx p s m args meth c b_Sheet_hasPlaces 3 R_Sheet (some .boolean))  : ∀ (H : Heap) (locs : List Loc) (ls : Array Slot) (v0 : Nat) (v1 : Int32) (v2 : Int32) (g_v0 : P_Sheet v0), Wh D cA ad (shC.take nC) A s s0 H locs → lv_has ls 3 [(0, .ref (ad v0)), (1, .int v1), (2, .int v2)] → F_Sheet_hasPlaces_0 s0 v0 v1 v2 = r → W p l e rm_Sheet_hasPlaces s m args below meth c H locs 0 0 (MQ below (QcI D cA ad (shC.take nC) A r s0) args s 0 0 A) (F0 m 0 ls []) := by
  have hx := K.1.1; have hb := K.1.2.1
  intro H locs ls v0 v1 v2 g_v0 hw hl hF
  unfold F_Sheet_hasPlaces_0 at hF
  refine lv_iload_n hx hb d_Sheet_hasPlaces_0 rfl (lv_at hl 1 rfl) ?_
  refine lv_if_lt (tgt := 30) hx hb d_Sheet_hasPlaces_1 (by decide) (fun c_1 => ?_) (fun c_1 => ?_)
  · replace hF := ifT hF c_1
    refine lv_iconst (v := 0) hx hb d_Sheet_hasPlaces_30 (by decide) ?_
    subst hF
    exact r_zret K hw (by decide) d_Sheet_hasPlaces_31
  · replace hF := ifF hF c_1
    refine lv_iload_n hx hb d_Sheet_hasPlaces_4 rfl (lv_at hl 2 rfl) ?_
    refine lv_iconst (v := 0) hx hb d_Sheet_hasPlaces_5 (by decide) ?_
    refine lv_aload_n hx hb d_Sheet_hasPlaces_6 rfl (lv_at hl 0 rfl) ?_
    refine r_get (v := .int (s0.1 v0 2)) K hw i_Sheet (sh_Sheet g_v0 (Nat.le_trans (Nat.le_of_ble_eq_true rfl) hn)) rfl 2 (by decide) w_193 rfl rfl rfl d_Sheet_hasPlaces_7 ?_
    refine r_callNI (As := [.int v2, .int (0 : Int32), .int (s0.1 v0 2)]) (rest := []) K hw hl.1 (c_Main_isWithin (l := l) (D := D) (cA := cA) (ad := ad) (s0 := s0) (Nat.le_trans (Nat.le_of_ble_eq_true rfl) hn)  rfl) (nw_889) w_347 w_63 w_348 a_Main_isWithin.2 ⟨rfl, rfl, Nat.le_of_ble_eq_true rfl, Nat.le_of_ble_eq_true rfl⟩ rfl rfl (Nat.le_of_ble_eq_true rfl) d_Sheet_hasPlaces_10 (fun H locs hw => ?_)
    refine lv_if_eq (tgt := 30) hx hb d_Sheet_hasPlaces_13 (by decide) (fun c_2 => ?_) (fun c_2 => ?_)
    · replace hF := ifT hF c_2
      refine lv_iconst (v := 0) hx hb d_Sheet_hasPlaces_30 (by decide) ?_
      subst hF
      exact r_zret K hw (by decide) d_Sheet_hasPlaces_31
    · replace hF := ifF hF c_2
      refine lv_iload_n hx hb d_Sheet_hasPlaces_16 rfl (lv_at hl 1 rfl) ?_
      refine lv_aload_n hx hb d_Sheet_hasPlaces_17 rfl (lv_at hl 0 rfl) ?_
      refine r_get (v := .int (s0.1 v0 2)) K hw i_Sheet (sh_Sheet g_v0 (Nat.le_trans (Nat.le_of_ble_eq_true rfl) hn)) rfl 2 (by decide) w_193 rfl rfl rfl d_Sheet_hasPlaces_18 ?_
      refine lv_iload_n hx hb d_Sheet_hasPlaces_21 rfl (lv_at hl 2 rfl) ?_
      refine lv_isub hx hb d_Sheet_hasPlaces_22 ?_
      refine lv_icmp_gt (tgt := 30) hx hb d_Sheet_hasPlaces_23 (by decide) (fun c_3 => ?_) (fun c_3 => ?_)
      · replace hF := ifT hF c_3
        refine lv_iconst (v := 0) hx hb d_Sheet_hasPlaces_30 (by decide) ?_
        subst hF
        exact r_zret K hw (by decide) d_Sheet_hasPlaces_31
      · replace hF := ifF hF c_3
        refine lv_iconst (v := 1) hx hb d_Sheet_hasPlaces_26 (by decide) ?_
        refine lv_goto (tgt := 31) hx hb d_Sheet_hasPlaces_27 (by decide) ?_
        subst hF
        exact r_zret K hw (by decide) d_Sheet_hasPlaces_31
end S_Sheet_hasPlaces
noncomputable abbrev F_Sheet_hasPlaces := F_Sheet_hasPlaces_0
theorem c_Sheet_hasPlaces {l : Launch} {D : va_G} {cA : Nat → ClassId} {ad : Nat → Nat} {s0 : St} {nC : Nat} (hn : 37 ≤ nC) {r : Int32} {v0 : Nat} {v1 : Int32} {v2 : Int32} (g_v0 : P_Sheet v0) (hF : F_Sheet_hasPlaces s0 v0 v1 v2 = r) : MI l D cA ad (shC.take nC) y_Sheet_hasPlaces (wT y_Sheet_hasPlaces b_Sheet_hasPlaces 3 (some .boolean)) rm_Sheet_hasPlaces [.ref (ad v0), .int v1, .int v2] s0 r s0 := fun sz => m_start (Qc := fun A => QcI D cA ad (shC.take nC) A r s0) (by decide +kernel) w_959 (Nat.le_of_ble_eq_true rfl) (fun p e s m below meth c ls K hl hw => q_Sheet_hasPlaces_0 hn s0 K _ _ _ _ _ _ g_v0 hw hl hF)

/-! Main.copy(IIIII)I -/
abbrev b_Main_copy : ByteArray := prog_1_method_32_code
def y_Main_copy : MethodName := ⟨R_Main, "copy", "(IIIII)I"⟩
theorem a_Main_copy : y_Main_copy.cls = R_Main ∧ y_Main_copy.cls ≠ "java/lang/invoke/MethodHandle" ∧ y_Main_copy.cls ≠ "java/lang/invoke/VarHandle" ∧ (parseMethodDescriptor y_Main_copy.desc).map (fun d => d.parameters.length) = some 5 := by decide +kernel
abbrev rm_Main_copy : Room := { frames := 2, cells := 0, slots := 0, locals := 60 }
theorem w_956 : Cond.methodLink R_Main 287 y_Sheet_hasPlaces ∈ TB := tb_in 956 (by decide +kernel) (by decide +kernel)
theorem w_957 : Cond.instanceMethod y_Sheet_hasPlaces ∈ TB := tb_in 957 (by decide +kernel) (by decide +kernel)
theorem w_958 : Cond.selects R_Sheet y_Sheet_hasPlaces y_Sheet_hasPlaces ∈ TB := tb_in 958 (by decide +kernel) (by decide +kernel)
theorem w_190 : Cond.fieldLink R_Main 290 R_Sheet "numbers" "[I" ∈ TB := tb_in 190 (by decide +kernel) (by decide +kernel)
theorem w_960 : Cond.methodLink R_Main 293 arraycopyName ∈ TB := tb_in 960 (by decide +kernel) (by decide +kernel)
theorem w_962 : Cond.native arraycopyName ∈ TB := tb_in 962 (by decide +kernel) (by decide +kernel)
theorem w_961 : Cond.static arraycopyName ∈ TB := tb_in 961 (by decide +kernel) (by decide +kernel)
theorem w_82 : Cond.initialized "java/lang/System" ∈ TB := tb_in 82 (by decide +kernel) (by decide +kernel)
theorem w_955 : Cond.code y_Main_copy b_Main_copy 8 (some .int) ∈ TB := tb_in 955 (by decide +kernel) (by decide +kernel)
theorem d_Main_copy_0 : decode b_Main_copy 0 = .ok (.iload_n 1, 1) := by decide +kernel
theorem d_Main_copy_1 : decode b_Main_copy 1 = .ok (.invokestatic 255, 3) := by decide +kernel
theorem d_Main_copy_4 : decode b_Main_copy 4 = .ok (.ifCond .eq 10, 3) := by decide +kernel
theorem d_Main_copy_7 : decode b_Main_copy 7 = .ok (.iload_n 3, 1) := by decide +kernel
theorem d_Main_copy_8 : decode b_Main_copy 8 = .ok (.invokestatic 255, 3) := by decide +kernel
theorem d_Main_copy_11 : decode b_Main_copy 11 = .ok (.ifCond .ne 6, 3) := by decide +kernel
theorem d_Main_copy_14 : decode b_Main_copy 14 = .ok (.bipush (-2), 2) := by decide +kernel
theorem d_Main_copy_16 : decode b_Main_copy 16 = .ok (.ireturn, 1) := by decide +kernel
theorem d_Main_copy_17 : decode b_Main_copy 17 = .ok (.aload_n 0, 1) := by decide +kernel
theorem d_Main_copy_18 : decode b_Main_copy 18 = .ok (.getfield 30, 3) := by decide +kernel
theorem d_Main_copy_21 : decode b_Main_copy 21 = .ok (.iload_n 1, 1) := by decide +kernel
theorem d_Main_copy_22 : decode b_Main_copy 22 = .ok (.aaload, 1) := by decide +kernel
theorem d_Main_copy_23 : decode b_Main_copy 23 = .ok (.astore 6, 2) := by decide +kernel
theorem d_Main_copy_25 : decode b_Main_copy 25 = .ok (.aload_n 0, 1) := by decide +kernel
theorem d_Main_copy_26 : decode b_Main_copy 26 = .ok (.getfield 30, 3) := by decide +kernel
theorem d_Main_copy_29 : decode b_Main_copy 29 = .ok (.iload_n 3, 1) := by decide +kernel
theorem d_Main_copy_30 : decode b_Main_copy 30 = .ok (.aaload, 1) := by decide +kernel
theorem d_Main_copy_31 : decode b_Main_copy 31 = .ok (.astore 7, 2) := by decide +kernel
theorem d_Main_copy_33 : decode b_Main_copy 33 = .ok (.aload 6, 2) := by decide +kernel
theorem d_Main_copy_35 : decode b_Main_copy 35 = .ok (.getfield 281, 3) := by decide +kernel
theorem d_Main_copy_38 : decode b_Main_copy 38 = .ok (.iconst (-1), 1) := by decide +kernel
theorem d_Main_copy_39 : decode b_Main_copy 39 = .ok (.if_icmp .eq 12, 3) := by decide +kernel
theorem d_Main_copy_42 : decode b_Main_copy 42 = .ok (.aload 7, 2) := by decide +kernel
theorem d_Main_copy_44 : decode b_Main_copy 44 = .ok (.getfield 281, 3) := by decide +kernel
theorem d_Main_copy_47 : decode b_Main_copy 47 = .ok (.iconst (-1), 1) := by decide +kernel
theorem d_Main_copy_48 : decode b_Main_copy 48 = .ok (.if_icmp .ne 6, 3) := by decide +kernel
theorem d_Main_copy_51 : decode b_Main_copy 51 = .ok (.bipush (-11), 2) := by decide +kernel
theorem d_Main_copy_53 : decode b_Main_copy 53 = .ok (.ireturn, 1) := by decide +kernel
theorem d_Main_copy_54 : decode b_Main_copy 54 = .ok (.aload 6, 2) := by decide +kernel
theorem d_Main_copy_56 : decode b_Main_copy 56 = .ok (.getfield 281, 3) := by decide +kernel
theorem d_Main_copy_59 : decode b_Main_copy 59 = .ok (.aload 7, 2) := by decide +kernel
theorem d_Main_copy_61 : decode b_Main_copy 61 = .ok (.getfield 281, 3) := by decide +kernel
theorem d_Main_copy_64 : decode b_Main_copy 64 = .ok (.if_icmp .eq 6, 3) := by decide +kernel
theorem d_Main_copy_67 : decode b_Main_copy 67 = .ok (.bipush (-13), 2) := by decide +kernel
theorem d_Main_copy_69 : decode b_Main_copy 69 = .ok (.ireturn, 1) := by decide +kernel
theorem d_Main_copy_70 : decode b_Main_copy 70 = .ok (.aload 6, 2) := by decide +kernel
theorem d_Main_copy_72 : decode b_Main_copy 72 = .ok (.iload_n 2, 1) := by decide +kernel
theorem d_Main_copy_73 : decode b_Main_copy 73 = .ok (.iload 5, 2) := by decide +kernel
theorem d_Main_copy_75 : decode b_Main_copy 75 = .ok (.invokevirtual 287, 3) := by decide +kernel
theorem d_Main_copy_78 : decode b_Main_copy 78 = .ok (.ifCond .eq 15, 3) := by decide +kernel
theorem d_Main_copy_81 : decode b_Main_copy 81 = .ok (.aload 7, 2) := by decide +kernel
theorem d_Main_copy_83 : decode b_Main_copy 83 = .ok (.iload 4, 2) := by decide +kernel
theorem d_Main_copy_85 : decode b_Main_copy 85 = .ok (.iload 5, 2) := by decide +kernel
theorem d_Main_copy_87 : decode b_Main_copy 87 = .ok (.invokevirtual 287, 3) := by decide +kernel
theorem d_Main_copy_90 : decode b_Main_copy 90 = .ok (.ifCond .ne 6, 3) := by decide +kernel
theorem d_Main_copy_93 : decode b_Main_copy 93 = .ok (.bipush (-12), 2) := by decide +kernel
theorem d_Main_copy_95 : decode b_Main_copy 95 = .ok (.ireturn, 1) := by decide +kernel
theorem d_Main_copy_96 : decode b_Main_copy 96 = .ok (.aload 6, 2) := by decide +kernel
theorem d_Main_copy_98 : decode b_Main_copy 98 = .ok (.getfield 290, 3) := by decide +kernel
theorem d_Main_copy_101 : decode b_Main_copy 101 = .ok (.iload_n 2, 1) := by decide +kernel
theorem d_Main_copy_102 : decode b_Main_copy 102 = .ok (.aload 7, 2) := by decide +kernel
theorem d_Main_copy_104 : decode b_Main_copy 104 = .ok (.getfield 290, 3) := by decide +kernel
theorem d_Main_copy_107 : decode b_Main_copy 107 = .ok (.iload 4, 2) := by decide +kernel
theorem d_Main_copy_109 : decode b_Main_copy 109 = .ok (.iload 5, 2) := by decide +kernel
theorem d_Main_copy_111 : decode b_Main_copy 111 = .ok (.invokestatic 293, 3) := by decide +kernel
theorem d_Main_copy_114 : decode b_Main_copy 114 = .ok (.iload 5, 2) := by decide +kernel
theorem d_Main_copy_116 : decode b_Main_copy 116 = .ok (.ireturn, 1) := by decide +kernel
section S_Main_copy
variable {p : Program} {l : Launch} {e : Env} {s : State} {m : MethodId} {args : Array Value} {below : List Frame} {meth : Method} {c : Code} {D : va_G} {cA : Nat → ClassId} {ad : Nat → Nat} {nC : Nat} {A : Nat → Prop} {r : Int32} {τ : St}
noncomputable def F_Main_copy_0 (s0 : St) (v1 : Int32) (v2 : Int32) (v3 : Int32) (v4 : Int32) (v5 : Int32) : Option (Int32 × St) := (ob1 (F_Main_isSheet v1) (fun r_1 => (if r_1 = 0 then (some ((-2 : Int32), s0)) else (ob1 (F_Main_isSheet v3) (fun r_3 => (if ¬ r_3 = 0 then (if inB v1 4 = true then (if inB v3 4 = true then (if (s0.1 (33 + v1.toNatClampNeg) 1) = (-1 : Int32) then (some ((-11 : Int32), s0)) else (if ¬ (s0.1 (33 + v3.toNatClampNeg) 1) = (-1 : Int32) then (if (s0.1 (33 + v1.toNatClampNeg) 1) = (s0.1 (33 + v3.toNatClampNeg) 1) then (if (F_Sheet_hasPlaces s0 (33 + v1.toNatClampNeg) v2 v5) = 0 then (some ((-12 : Int32), s0)) else (if ¬ (F_Sheet_hasPlaces s0 (33 + v3.toNatClampNeg) v4 v5) = 0 then (if ¬ v2 < 0 then (if ¬ v4 < 0 then (if ¬ v5 < 0 then (if v2.toNatClampNeg + v5.toNatClampNeg ≤ 40 then (if v4.toNatClampNeg + v5.toNatClampNeg ≤ 40 then (lt (cpS s0 ((33 + v1.toNatClampNeg) + 4) ((33 + v3.toNatClampNeg) + 4) v2 v4 v5) (fun s_17 => (some (v5, s_17)))) else none) else none) else none) else none) else none) else (some ((-12 : Int32), s0)))) else (some ((-13 : Int32), s0))) else (some ((-11 : Int32), s0)))) else none) else none) else (some ((-2 : Int32), s0))))))))
set_option maxHeartbeats 4000000 in
set_option maxRecDepth 100000 in
theorem q_Main_copy_0 (hn : 41 ≤ nC) (K : Fx p s m args meth c b_Main_copy 8 R_Main (some .int))  : ∀ (H : Heap) (locs : List Loc) (ls : Array Slot) (s0 : St) (v1 : Int32) (v2 : Int32) (v3 : Int32) (v4 : Int32) (v5 : Int32), Wh D cA ad (shC.take nC) A s s0 H locs → lv_has ls 8 [(0, .ref (ad 20)), (1, .int v1), (2, .int v2), (3, .int v3), (4, .int v4), (5, .int v5)] → F_Main_copy_0 s0 v1 v2 v3 v4 v5 = (some (r, τ)) → W p l e rm_Main_copy s m args below meth c H locs 0 0 (MQ below (QcI D cA ad (shC.take nC) A r τ) args s 0 0 A) (F0 m 0 ls []) := by
  have hx := K.1.1; have hb := K.1.2.1
  intro H locs ls s0 v1 v2 v3 v4 v5 hw hl hF
  unfold F_Main_copy_0 at hF
  refine lv_iload_n hx hb d_Main_copy_0 rfl (lv_at hl 1 rfl) ?_
  obtain ⟨r_1, h_r_1, hF⟩ := ob1E hF
  refine r_callSI (As := [.int v1]) (rest := []) K hw hl.1 (c_Main_isSheet (l := l) (D := D) (cA := cA) (ad := ad) (s0 := s0) (Nat.le_trans (Nat.le_of_ble_eq_true rfl) hn)  h_r_1) (tb_gS w_874 w_875 w_63 w_876) a_Main_isSheet ⟨rfl, rfl, Nat.le_of_ble_eq_true rfl, Nat.le_of_ble_eq_true rfl⟩ rfl rfl (Nat.le_of_ble_eq_true rfl) d_Main_copy_1 (fun H locs hw => ?_)
  refine lv_if_eq (tgt := 14) hx hb d_Main_copy_4 (by decide) (fun c_2 => ?_) (fun c_2 => ?_)
  · replace hF := ifT hF c_2
    refine lv_bipush (v := -2) hx hb d_Main_copy_14 (by decide) ?_
    obtain ⟨hF, hG⟩ := sE2 hF
    subst hF
    subst hG
    exact r_iret K hw d_Main_copy_16
  · replace hF := ifF hF c_2
    refine lv_iload_n hx hb d_Main_copy_7 rfl (lv_at hl 3 rfl) ?_
    obtain ⟨r_3, h_r_3, hF⟩ := ob1E hF
    refine r_callSI (As := [.int v3]) (rest := []) K hw hl.1 (c_Main_isSheet (l := l) (D := D) (cA := cA) (ad := ad) (s0 := s0) (Nat.le_trans (Nat.le_of_ble_eq_true rfl) hn)  h_r_3) (tb_gS w_874 w_875 w_63 w_876) a_Main_isSheet ⟨rfl, rfl, Nat.le_of_ble_eq_true rfl, Nat.le_of_ble_eq_true rfl⟩ rfl rfl (Nat.le_of_ble_eq_true rfl) d_Main_copy_8 (fun H locs hw => ?_)
    refine lv_if_ne (tgt := 17) hx hb d_Main_copy_11 (by decide) (fun c_4 => ?_) (fun c_4 => ?_)
    · replace hF := ifT hF c_4
      refine lv_aload_n hx hb d_Main_copy_17 rfl (lv_at hl 0 rfl) ?_
      refine r_get (v := .ref (ad 23)) K hw i_Main (sh_Main (Nat.le_trans (Nat.le_of_ble_eq_true rfl) hn)) rfl 9 (by decide) w_607 rfl rfl rfl d_Main_copy_18 ?_
      refine lv_iload_n hx hb d_Main_copy_21 rfl (lv_at hl 1 rfl) ?_
      obtain ⟨g_5, hF⟩ := ifG hF
      refine r_aald (k := v1.toNatClampNeg) K hw (sh_a23 (Nat.le_trans (Nat.le_of_ble_eq_true rfl) hn)) (rfl : (TYS cA)[3]? = some (cA 3, _)) rfl (inB_vp g_5) d_Main_copy_22 ?_
      refine lv_astore (lv' := [(6, .ref (ad (33 + v1.toNatClampNeg))), (0, .ref (ad 20)), (1, .int v1), (2, .int v2), (3, .int v3), (4, .int v4), (5, .int v5)]) hx hb d_Main_copy_23 hl (by decide) rfl (fun ls hl => ?_)
      refine lv_aload_n hx hb d_Main_copy_25 rfl (lv_at hl 1 rfl) ?_
      refine r_get (v := .ref (ad 23)) K hw i_Main (sh_Main (Nat.le_trans (Nat.le_of_ble_eq_true rfl) hn)) rfl 9 (by decide) w_607 rfl rfl rfl d_Main_copy_26 ?_
      refine lv_iload_n hx hb d_Main_copy_29 rfl (lv_at hl 4 rfl) ?_
      obtain ⟨g_6, hF⟩ := ifG hF
      refine r_aald (k := v3.toNatClampNeg) K hw (sh_a23 (Nat.le_trans (Nat.le_of_ble_eq_true rfl) hn)) (rfl : (TYS cA)[3]? = some (cA 3, _)) rfl (inB_vp g_6) d_Main_copy_30 ?_
      refine lv_astore (lv' := [(7, .ref (ad (33 + v3.toNatClampNeg))), (6, .ref (ad (33 + v1.toNatClampNeg))), (0, .ref (ad 20)), (1, .int v1), (2, .int v2), (3, .int v3), (4, .int v4), (5, .int v5)]) hx hb d_Main_copy_31 hl (by decide) rfl (fun ls hl => ?_)
      refine lv_aload hx hb d_Main_copy_33 (lv_at hl 1 rfl) ?_
      refine r_get (v := .int (s0.1 (33 + v1.toNatClampNeg) 1)) K hw i_Sheet (sh_Sheet (P_Sheet_of g_5) (Nat.le_trans (Nat.le_of_ble_eq_true rfl) hn)) rfl 1 (by decide) w_192 rfl rfl rfl d_Main_copy_35 ?_
      refine lv_iconst (v := -1) hx hb d_Main_copy_38 (by decide) ?_
      refine lv_icmp_eq (tgt := 51) hx hb d_Main_copy_39 (by decide) (fun c_7 => ?_) (fun c_7 => ?_)
      · replace hF := ifT hF c_7
        refine lv_bipush (v := -11) hx hb d_Main_copy_51 (by decide) ?_
        obtain ⟨hF, hG⟩ := sE2 hF
        subst hF
        subst hG
        exact r_iret K hw d_Main_copy_53
      · replace hF := ifF hF c_7
        refine lv_aload hx hb d_Main_copy_42 (lv_at hl 0 rfl) ?_
        refine r_get (v := .int (s0.1 (33 + v3.toNatClampNeg) 1)) K hw i_Sheet (sh_Sheet (P_Sheet_of g_6) (Nat.le_trans (Nat.le_of_ble_eq_true rfl) hn)) rfl 1 (by decide) w_192 rfl rfl rfl d_Main_copy_44 ?_
        refine lv_iconst (v := -1) hx hb d_Main_copy_47 (by decide) ?_
        refine lv_icmp_ne (tgt := 54) hx hb d_Main_copy_48 (by decide) (fun c_8 => ?_) (fun c_8 => ?_)
        · replace hF := ifT hF c_8
          refine lv_aload hx hb d_Main_copy_54 (lv_at hl 1 rfl) ?_
          refine r_get (v := .int (s0.1 (33 + v1.toNatClampNeg) 1)) K hw i_Sheet (sh_Sheet (P_Sheet_of g_5) (Nat.le_trans (Nat.le_of_ble_eq_true rfl) hn)) rfl 1 (by decide) w_192 rfl rfl rfl d_Main_copy_56 ?_
          refine lv_aload hx hb d_Main_copy_59 (lv_at hl 0 rfl) ?_
          refine r_get (v := .int (s0.1 (33 + v3.toNatClampNeg) 1)) K hw i_Sheet (sh_Sheet (P_Sheet_of g_6) (Nat.le_trans (Nat.le_of_ble_eq_true rfl) hn)) rfl 1 (by decide) w_192 rfl rfl rfl d_Main_copy_61 ?_
          refine lv_icmp_eq (tgt := 70) hx hb d_Main_copy_64 (by decide) (fun c_9 => ?_) (fun c_9 => ?_)
          · replace hF := ifT hF c_9
            refine lv_aload hx hb d_Main_copy_70 (lv_at hl 1 rfl) ?_
            refine lv_iload_n hx hb d_Main_copy_72 rfl (lv_at hl 4 rfl) ?_
            refine lv_iload hx hb d_Main_copy_73 (lv_at hl 7 rfl) ?_
            refine r_callVI (As := [.int v2, .int v5]) (rest := []) K hw hl.1 (c_Sheet_hasPlaces (l := l) (D := D) (cA := cA) (ad := ad) (s0 := s0) (Nat.le_trans (Nat.le_of_ble_eq_true rfl) hn) (P_Sheet_of g_5) rfl) (sh_Sheet (P_Sheet_of g_5) (Nat.le_trans (Nat.le_of_ble_eq_true rfl) hn)) rfl (tb_gV w_956 w_957 w_958 w_67 w_959) a_Sheet_hasPlaces ⟨rfl, rfl, Nat.le_of_ble_eq_true rfl, Nat.le_of_ble_eq_true rfl⟩ rfl rfl (Nat.le_of_ble_eq_true rfl) d_Main_copy_75 (fun H locs hw => ?_)
            refine lv_if_eq (tgt := 93) hx hb d_Main_copy_78 (by decide) (fun c_10 => ?_) (fun c_10 => ?_)
            · replace hF := ifT hF c_10
              refine lv_bipush (v := -12) hx hb d_Main_copy_93 (by decide) ?_
              obtain ⟨hF, hG⟩ := sE2 hF
              subst hF
              subst hG
              exact r_iret K hw d_Main_copy_95
            · replace hF := ifF hF c_10
              refine lv_aload hx hb d_Main_copy_81 (lv_at hl 0 rfl) ?_
              refine lv_iload hx hb d_Main_copy_83 (lv_at hl 6 rfl) ?_
              refine lv_iload hx hb d_Main_copy_85 (lv_at hl 7 rfl) ?_
              refine r_callVI (As := [.int v4, .int v5]) (rest := []) K hw hl.1 (c_Sheet_hasPlaces (l := l) (D := D) (cA := cA) (ad := ad) (s0 := s0) (Nat.le_trans (Nat.le_of_ble_eq_true rfl) hn) (P_Sheet_of g_6) rfl) (sh_Sheet (P_Sheet_of g_6) (Nat.le_trans (Nat.le_of_ble_eq_true rfl) hn)) rfl (tb_gV w_956 w_957 w_958 w_67 w_959) a_Sheet_hasPlaces ⟨rfl, rfl, Nat.le_of_ble_eq_true rfl, Nat.le_of_ble_eq_true rfl⟩ rfl rfl (Nat.le_of_ble_eq_true rfl) d_Main_copy_87 (fun H locs hw => ?_)
              refine lv_if_ne (tgt := 96) hx hb d_Main_copy_90 (by decide) (fun c_11 => ?_) (fun c_11 => ?_)
              · replace hF := ifT hF c_11
                refine lv_aload hx hb d_Main_copy_96 (lv_at hl 1 rfl) ?_
                refine r_get (v := .ref (ad ((33 + v1.toNatClampNeg) + 4))) K hw i_Sheet (sh_Sheet (P_Sheet_of g_5) (Nat.le_trans (Nat.le_of_ble_eq_true rfl) hn)) rfl 0 (by decide) w_190 rfl rfl rfl d_Main_copy_98 ?_
                refine lv_iload_n hx hb d_Main_copy_101 rfl (lv_at hl 4 rfl) ?_
                refine lv_aload hx hb d_Main_copy_102 (lv_at hl 0 rfl) ?_
                refine r_get (v := .ref (ad ((33 + v3.toNatClampNeg) + 4))) K hw i_Sheet (sh_Sheet (P_Sheet_of g_6) (Nat.le_trans (Nat.le_of_ble_eq_true rfl) hn)) rfl 0 (by decide) w_190 rfl rfl rfl d_Main_copy_104 ?_
                refine lv_iload hx hb d_Main_copy_107 (lv_at hl 6 rfl) ?_
                refine lv_iload hx hb d_Main_copy_109 (lv_at hl 7 rfl) ?_
                obtain ⟨g_12, hF⟩ := ifG hF
                obtain ⟨g_13, hF⟩ := ifG hF
                obtain ⟨g_14, hF⟩ := ifG hF
                obtain ⟨g_15, hF⟩ := ifG hF
                obtain ⟨g_16, hF⟩ := ifG hF
                refine k_copy (rest := []) K hw hl.1 w_960 w_962 w_961 w_82 (sh_numbersOf (P_Sheet_of g_5) (Nat.le_trans (Nat.le_of_ble_eq_true rfl) hn)) (sh_numbersOf (P_Sheet_of g_6) (Nat.le_trans (Nat.le_of_ble_eq_true rfl) hn)) g_12 g_13 g_14 g_15 g_16 (Nat.le_of_ble_eq_true rfl) (Nat.le_of_ble_eq_true rfl) d_Main_copy_111 (fun s_17 f_s_17 H locs hw => ?_)
                replace hF := ltN hF f_s_17
                refine lv_iload hx hb d_Main_copy_114 (lv_at hl 7 rfl) ?_
                obtain ⟨hF, hG⟩ := sE2 hF
                subst hF
                subst hG
                exact r_iret K hw d_Main_copy_116
              · replace hF := ifN hF c_11
                refine lv_bipush (v := -12) hx hb d_Main_copy_93 (by decide) ?_
                obtain ⟨hF, hG⟩ := sE2 hF
                subst hF
                subst hG
                exact r_iret K hw d_Main_copy_95
          · replace hF := ifF hF c_9
            refine lv_bipush (v := -13) hx hb d_Main_copy_67 (by decide) ?_
            obtain ⟨hF, hG⟩ := sE2 hF
            subst hF
            subst hG
            exact r_iret K hw d_Main_copy_69
        · replace hF := ifN hF c_8
          refine lv_bipush (v := -11) hx hb d_Main_copy_51 (by decide) ?_
          obtain ⟨hF, hG⟩ := sE2 hF
          subst hF
          subst hG
          exact r_iret K hw d_Main_copy_53
    · replace hF := ifN hF c_4
      refine lv_bipush (v := -2) hx hb d_Main_copy_14 (by decide) ?_
      obtain ⟨hF, hG⟩ := sE2 hF
      subst hF
      subst hG
      exact r_iret K hw d_Main_copy_16
end S_Main_copy
noncomputable abbrev F_Main_copy := F_Main_copy_0
theorem c_Main_copy {l : Launch} {D : va_G} {cA : Nat → ClassId} {ad : Nat → Nat} {s0 τ : St} {nC : Nat} (hn : 41 ≤ nC) {r : Int32} {v1 : Int32} {v2 : Int32} {v3 : Int32} {v4 : Int32} {v5 : Int32}  (hF : F_Main_copy s0 v1 v2 v3 v4 v5 = (some (r, τ))) : MI l D cA ad (shC.take nC) y_Main_copy (wT y_Main_copy b_Main_copy 8 (some .int)) rm_Main_copy [.ref (ad 20), .int v1, .int v2, .int v3, .int v4, .int v5] s0 r τ := fun sz => m_start (Qc := fun A => QcI D cA ad (shC.take nC) A r τ) (by decide +kernel) w_955 (Nat.le_of_ble_eq_true rfl) (fun p e s m below meth c ls K hl hw => q_Main_copy_0 hn K _ _ _ _ _ _ _ _ _  hw hl hF)
