/-! Model.match(III)I -/
abbrev b_Model_match : ByteArray := prog_13_method_40_code
def y_Model_match : MethodName := ⟨R_Model, "match", "(III)I"⟩
theorem a_Model_match : y_Model_match.cls = R_Model ∧ y_Model_match.cls ≠ "java/lang/invoke/MethodHandle" ∧ y_Model_match.cls ≠ "java/lang/invoke/VarHandle" ∧ (parseMethodDescriptor y_Model_match.desc).map (fun d => d.parameters.length) = some 3 := by decide +kernel
abbrev rm_Model_match : Room := { frames := 6, cells := 0, slots := 0, locals := 153 }
theorem w_1222 : Cond.methodLink R_Model 220 y_Model_tellTwo ∈ TB := tb_in 1222 (by decide +kernel) (by decide +kernel)
theorem w_1224 : Cond.instanceMethod y_Model_tellTwo ∈ TB := tb_in 1224 (by decide +kernel) (by decide +kernel)
theorem w_43 : Cond.selects R_Model y_Model_tellTwo y_Model_tellTwo ∈ TB := tb_in 43 (by decide +kernel) (by decide +kernel)
theorem w_1221 : Cond.code y_Model_match b_Model_match 4 (some .int) ∈ TB := tb_in 1221 (by decide +kernel) (by decide +kernel)
theorem d_Model_match_0 : decode b_Model_match 0 = .ok (.aload_n 0, 1) := by decide +kernel
theorem d_Model_match_1 : decode b_Model_match 1 = .ok (.iload_n 1, 1) := by decide +kernel
theorem d_Model_match_2 : decode b_Model_match 2 = .ok (.invokevirtual 220, 3) := by decide +kernel
theorem d_Model_match_5 : decode b_Model_match 5 = .ok (.ifCond .ne 6, 3) := by decide +kernel
theorem d_Model_match_8 : decode b_Model_match 8 = .ok (.bipush (-100), 2) := by decide +kernel
theorem d_Model_match_10 : decode b_Model_match 10 = .ok (.ireturn, 1) := by decide +kernel
theorem d_Model_match_11 : decode b_Model_match 11 = .ok (.iload_n 2, 1) := by decide +kernel
theorem d_Model_match_12 : decode b_Model_match 12 = .ok (.iconst 0, 1) := by decide +kernel
theorem d_Model_match_13 : decode b_Model_match 13 = .ok (.bipush 40, 2) := by decide +kernel
theorem d_Model_match_15 : decode b_Model_match 15 = .ok (.invokestatic 78, 3) := by decide +kernel
theorem d_Model_match_18 : decode b_Model_match 18 = .ok (.ifCond .eq 12, 3) := by decide +kernel
theorem d_Model_match_21 : decode b_Model_match 21 = .ok (.iload_n 3, 1) := by decide +kernel
theorem d_Model_match_22 : decode b_Model_match 22 = .ok (.iconst 0, 1) := by decide +kernel
theorem d_Model_match_23 : decode b_Model_match 23 = .ok (.iconst 3, 1) := by decide +kernel
theorem d_Model_match_24 : decode b_Model_match 24 = .ok (.invokestatic 78, 3) := by decide +kernel
theorem d_Model_match_27 : decode b_Model_match 27 = .ok (.ifCond .ne 7, 3) := by decide +kernel
theorem d_Model_match_30 : decode b_Model_match 30 = .ok (.sipush (-200), 3) := by decide +kernel
theorem d_Model_match_33 : decode b_Model_match 33 = .ok (.ireturn, 1) := by decide +kernel
theorem d_Model_match_34 : decode b_Model_match 34 = .ok (.aload_n 0, 1) := by decide +kernel
theorem d_Model_match_35 : decode b_Model_match 35 = .ok (.iload_n 1, 1) := by decide +kernel
theorem d_Model_match_36 : decode b_Model_match 36 = .ok (.bipush 10, 2) := by decide +kernel
theorem d_Model_match_38 : decode b_Model_match 38 = .ok (.idiv, 1) := by decide +kernel
theorem d_Model_match_39 : decode b_Model_match 39 = .ok (.iload_n 1, 1) := by decide +kernel
theorem d_Model_match_40 : decode b_Model_match 40 = .ok (.bipush 10, 2) := by decide +kernel
theorem d_Model_match_42 : decode b_Model_match 42 = .ok (.irem, 1) := by decide +kernel
theorem d_Model_match_43 : decode b_Model_match 43 = .ok (.iconst 0, 1) := by decide +kernel
theorem d_Model_match_44 : decode b_Model_match 44 = .ok (.invokevirtual 210, 3) := by decide +kernel
theorem d_Model_match_47 : decode b_Model_match 47 = .ok (.aload_n 0, 1) := by decide +kernel
theorem d_Model_match_48 : decode b_Model_match 48 = .ok (.iload_n 1, 1) := by decide +kernel
theorem d_Model_match_49 : decode b_Model_match 49 = .ok (.bipush 10, 2) := by decide +kernel
theorem d_Model_match_51 : decode b_Model_match 51 = .ok (.idiv, 1) := by decide +kernel
theorem d_Model_match_52 : decode b_Model_match 52 = .ok (.iload_n 1, 1) := by decide +kernel
theorem d_Model_match_53 : decode b_Model_match 53 = .ok (.bipush 10, 2) := by decide +kernel
theorem d_Model_match_55 : decode b_Model_match 55 = .ok (.irem, 1) := by decide +kernel
theorem d_Model_match_56 : decode b_Model_match 56 = .ok (.iload_n 2, 1) := by decide +kernel
theorem d_Model_match_57 : decode b_Model_match 57 = .ok (.invokevirtual 213, 3) := by decide +kernel
theorem d_Model_match_60 : decode b_Model_match 60 = .ok (.iload_n 3, 1) := by decide +kernel
theorem d_Model_match_61 : decode b_Model_match 61 = .ok (.ifCond .ne 10, 3) := by decide +kernel
theorem d_Model_match_64 : decode b_Model_match 64 = .ok (.aload_n 0, 1) := by decide +kernel
theorem d_Model_match_65 : decode b_Model_match 65 = .ok (.getfield 187, 3) := by decide +kernel
theorem d_Model_match_68 : decode b_Model_match 68 = .ok (.goto 31, 3) := by decide +kernel
theorem d_Model_match_71 : decode b_Model_match 71 = .ok (.iload_n 3, 1) := by decide +kernel
theorem d_Model_match_72 : decode b_Model_match 72 = .ok (.iconst 1, 1) := by decide +kernel
theorem d_Model_match_73 : decode b_Model_match 73 = .ok (.if_icmp .ne 10, 3) := by decide +kernel
theorem d_Model_match_76 : decode b_Model_match 76 = .ok (.aload_n 0, 1) := by decide +kernel
theorem d_Model_match_77 : decode b_Model_match 77 = .ok (.getfield 184, 3) := by decide +kernel
theorem d_Model_match_80 : decode b_Model_match 80 = .ok (.goto 19, 3) := by decide +kernel
theorem d_Model_match_83 : decode b_Model_match 83 = .ok (.iload_n 3, 1) := by decide +kernel
theorem d_Model_match_84 : decode b_Model_match 84 = .ok (.iconst 2, 1) := by decide +kernel
theorem d_Model_match_85 : decode b_Model_match 85 = .ok (.if_icmp .ne 10, 3) := by decide +kernel
theorem d_Model_match_88 : decode b_Model_match 88 = .ok (.aload_n 0, 1) := by decide +kernel
theorem d_Model_match_89 : decode b_Model_match 89 = .ok (.getfield 194, 3) := by decide +kernel
theorem d_Model_match_92 : decode b_Model_match 92 = .ok (.goto 7, 3) := by decide +kernel
theorem d_Model_match_95 : decode b_Model_match 95 = .ok (.aload_n 0, 1) := by decide +kernel
theorem d_Model_match_96 : decode b_Model_match 96 = .ok (.getfield 200, 3) := by decide +kernel
theorem d_Model_match_99 : decode b_Model_match 99 = .ok (.ireturn, 1) := by decide +kernel
section S_Model_match
variable {p : Program} {l : Launch} {e : Env} {s : State} {m : MethodId} {args : Array Value} {below : List Frame} {meth : Method} {c : Code} {D : va_G} {cA : Nat → ClassId} {ad : Nat → Nat} {nC : Nat} {A : Nat → Prop} {r : Int32} {τ : St}
noncomputable def F_Model_match_0 (s0 : St) (v1 : Int32) (v2 : Int32) (v3 : Int32) : Option (Int32 × St) := (ob1 (F_Model_tellTwo s0 v1) (fun r_1 => (if ¬ r_1 = 0 then (if (F_Model_in v2 (0 : Int32) (40 : Int32)) = 0 then (some ((-200 : Int32), s0)) else (if ¬ (F_Model_in v3 (0 : Int32) (3 : Int32)) = 0 then (ob1 (F_Model_begins s0 (v1 / (10 : Int32)) (jrem v1 (10 : Int32)) (0 : Int32)) (fun s_5 => (ob1 (F_Model_goesOn s_5 (v1 / (10 : Int32)) (jrem v1 (10 : Int32)) v2) (fun s_6 => (if ¬ v3 = 0 then (if ¬ v3 = (1 : Int32) then (if ¬ v3 = (2 : Int32) then (some ((s_6.1 0 35), s_6)) else (some ((s_6.1 0 34), s_6))) else (some ((s_6.1 0 33), s_6))) else (some ((s_6.1 0 32), s_6))))))) else (some ((-200 : Int32), s0)))) else (some ((-100 : Int32), s0)))))
set_option maxHeartbeats 4000000 in
set_option maxRecDepth 100000 in
theorem q_Model_match_0 (K : Fx p s m args meth c b_Model_match 4 R_Model (some .int))  : ∀ (H : Heap) (locs : List Loc) (ls : Array Slot) (s0 : St) (v1 : Int32) (v2 : Int32) (v3 : Int32), Wh D cA ad shM A s s0 H locs → lv_has ls 4 [(0, .ref (ad 0)), (1, .int v1), (2, .int v2), (3, .int v3)] → F_Model_match_0 s0 v1 v2 v3 = (some (r, τ)) → W p l e rm_Model_match s m args below meth c H locs 0 0 (MQ below (QcI D cA ad shM A r τ) args s 0 0 A) (F0 m 0 ls []) := by
  have hx := K.1.1; have hb := K.1.2.1
  intro H locs ls s0 v1 v2 v3 hw hl hF
  unfold F_Model_match_0 at hF
  refine lv_aload_n hx hb d_Model_match_0 rfl (lv_at hl 0 rfl) ?_
  refine lv_iload_n hx hb d_Model_match_1 rfl (lv_at hl 1 rfl) ?_
  obtain ⟨r_1, h_r_1, hF⟩ := ob1E hF
  refine r_callVI (As := [.int v1]) (rest := []) K hw hl.1 (c_Model_tellTwo (l := l) (D := D) (cA := cA) (ad := ad) (s0 := s0)   h_r_1) sh_Model rfl (tb_gV w_1222 w_1224 w_43 w_80 w_1225) a_Model_tellTwo ⟨rfl, rfl, Nat.le_of_ble_eq_true rfl, Nat.le_of_ble_eq_true rfl⟩ rfl rfl (Nat.le_of_ble_eq_true rfl) d_Model_match_2 (fun H locs hw => ?_)
  refine lv_if_ne (tgt := 11) hx hb d_Model_match_5 (by decide) (fun c_2 => ?_) (fun c_2 => ?_)
  · replace hF := ifT hF c_2
    refine lv_iload_n hx hb d_Model_match_11 rfl (lv_at hl 2 rfl) ?_
    refine lv_iconst (v := 0) hx hb d_Model_match_12 (by decide) ?_
    refine lv_bipush (v := 40) hx hb d_Model_match_13 (by decide) ?_
    refine r_callSI (As := [.int v2, .int (0 : Int32), .int (40 : Int32)]) (rest := []) K hw hl.1 (c_Model_in (l := l) (D := D) (cA := cA) (ad := ad) (s0 := s0)   rfl) (tb_gS w_986 w_987 w_80 w_988) a_Model_in ⟨rfl, rfl, Nat.le_of_ble_eq_true rfl, Nat.le_of_ble_eq_true rfl⟩ rfl rfl (Nat.le_of_ble_eq_true rfl) d_Model_match_15 (fun H locs hw => ?_)
    refine lv_if_eq (tgt := 30) hx hb d_Model_match_18 (by decide) (fun c_3 => ?_) (fun c_3 => ?_)
    · replace hF := ifT hF c_3
      refine lv_sipush (v := -200) hx hb d_Model_match_30 (by decide) ?_
      obtain ⟨hF, hG⟩ := sE2 hF
      subst hF
      subst hG
      exact r_iret K hw d_Model_match_33
    · replace hF := ifF hF c_3
      refine lv_iload_n hx hb d_Model_match_21 rfl (lv_at hl 3 rfl) ?_
      refine lv_iconst (v := 0) hx hb d_Model_match_22 (by decide) ?_
      refine lv_iconst (v := 3) hx hb d_Model_match_23 (by decide) ?_
      refine r_callSI (As := [.int v3, .int (0 : Int32), .int (3 : Int32)]) (rest := []) K hw hl.1 (c_Model_in (l := l) (D := D) (cA := cA) (ad := ad) (s0 := s0)   rfl) (tb_gS w_986 w_987 w_80 w_988) a_Model_in ⟨rfl, rfl, Nat.le_of_ble_eq_true rfl, Nat.le_of_ble_eq_true rfl⟩ rfl rfl (Nat.le_of_ble_eq_true rfl) d_Model_match_24 (fun H locs hw => ?_)
      refine lv_if_ne (tgt := 34) hx hb d_Model_match_27 (by decide) (fun c_4 => ?_) (fun c_4 => ?_)
      · replace hF := ifT hF c_4
        refine lv_aload_n hx hb d_Model_match_34 rfl (lv_at hl 0 rfl) ?_
        refine lv_iload_n hx hb d_Model_match_35 rfl (lv_at hl 1 rfl) ?_
        refine lv_bipush (v := 10) hx hb d_Model_match_36 (by decide) ?_
        refine lv_idiv hx hb d_Model_match_38 (by decide) ?_
        refine lv_iload_n hx hb d_Model_match_39 rfl (lv_at hl 1 rfl) ?_
        refine lv_bipush (v := 10) hx hb d_Model_match_40 (by decide) ?_
        refine lv_irem hx hb d_Model_match_42 (by decide) ?_
        refine lv_iconst (v := 0) hx hb d_Model_match_43 (by decide) ?_
        obtain ⟨s_5, h_s_5, hF⟩ := ob1E hF
        refine r_callVV (As := [.int (v1 / (10 : Int32)), .int (jrem v1 (10 : Int32)), .int (0 : Int32)]) (rest := []) K hw hl.1 (c_Model_begins (l := l) (D := D) (cA := cA) (ad := ad) (s0 := s0)   h_s_5) sh_Model rfl (tb_gV w_1230 w_1232 w_45 w_80 w_1233) a_Model_begins ⟨rfl, rfl, Nat.le_of_ble_eq_true rfl, Nat.le_of_ble_eq_true rfl⟩ rfl rfl (Nat.le_of_ble_eq_true rfl) d_Model_match_44 (fun H locs hw => ?_)
        refine lv_aload_n hx hb d_Model_match_47 rfl (lv_at hl 0 rfl) ?_
        refine lv_iload_n hx hb d_Model_match_48 rfl (lv_at hl 1 rfl) ?_
        refine lv_bipush (v := 10) hx hb d_Model_match_49 (by decide) ?_
        refine lv_idiv hx hb d_Model_match_51 (by decide) ?_
        refine lv_iload_n hx hb d_Model_match_52 rfl (lv_at hl 1 rfl) ?_
        refine lv_bipush (v := 10) hx hb d_Model_match_53 (by decide) ?_
        refine lv_irem hx hb d_Model_match_55 (by decide) ?_
        refine lv_iload_n hx hb d_Model_match_56 rfl (lv_at hl 2 rfl) ?_
        obtain ⟨s_6, h_s_6, hF⟩ := ob1E hF
        refine r_callVV (As := [.int (v1 / (10 : Int32)), .int (jrem v1 (10 : Int32)), .int v2]) (rest := []) K hw hl.1 (c_Model_goesOn (l := l) (D := D) (cA := cA) (ad := ad) (s0 := s_5)   h_s_6) sh_Model rfl (tb_gV w_1234 w_1236 w_46 w_80 w_1237) a_Model_goesOn ⟨rfl, rfl, Nat.le_of_ble_eq_true rfl, Nat.le_of_ble_eq_true rfl⟩ rfl rfl (Nat.le_of_ble_eq_true rfl) d_Model_match_57 (fun H locs hw => ?_)
        refine lv_iload_n hx hb d_Model_match_60 rfl (lv_at hl 3 rfl) ?_
        refine lv_if_ne (tgt := 71) hx hb d_Model_match_61 (by decide) (fun c_7 => ?_) (fun c_7 => ?_)
        · replace hF := ifT hF c_7
          refine lv_iload_n hx hb d_Model_match_71 rfl (lv_at hl 3 rfl) ?_
          refine lv_iconst (v := 1) hx hb d_Model_match_72 (by decide) ?_
          refine lv_icmp_ne (tgt := 83) hx hb d_Model_match_73 (by decide) (fun c_8 => ?_) (fun c_8 => ?_)
          · replace hF := ifT hF c_8
            refine lv_iload_n hx hb d_Model_match_83 rfl (lv_at hl 3 rfl) ?_
            refine lv_iconst (v := 2) hx hb d_Model_match_84 (by decide) ?_
            refine lv_icmp_ne (tgt := 95) hx hb d_Model_match_85 (by decide) (fun c_9 => ?_) (fun c_9 => ?_)
            · replace hF := ifT hF c_9
              refine lv_aload_n hx hb d_Model_match_95 rfl (lv_at hl 0 rfl) ?_
              refine r_get (v := .int (s_6.1 0 35)) K hw i_Model sh_Model rfl 35 (by decide) w_1060 rfl rfl rfl d_Model_match_96 ?_
              obtain ⟨hF, hG⟩ := sE2 hF
              subst hF
              subst hG
              exact r_iret K hw d_Model_match_99
            · replace hF := ifN hF c_9
              refine lv_aload_n hx hb d_Model_match_88 rfl (lv_at hl 0 rfl) ?_
              refine r_get (v := .int (s_6.1 0 34)) K hw i_Model sh_Model rfl 34 (by decide) w_1059 rfl rfl rfl d_Model_match_89 ?_
              refine lv_goto (tgt := 99) hx hb d_Model_match_92 (by decide) ?_
              obtain ⟨hF, hG⟩ := sE2 hF
              subst hF
              subst hG
              exact r_iret K hw d_Model_match_99
          · replace hF := ifN hF c_8
            refine lv_aload_n hx hb d_Model_match_76 rfl (lv_at hl 0 rfl) ?_
            refine r_get (v := .int (s_6.1 0 33)) K hw i_Model sh_Model rfl 33 (by decide) w_1058 rfl rfl rfl d_Model_match_77 ?_
            refine lv_goto (tgt := 99) hx hb d_Model_match_80 (by decide) ?_
            obtain ⟨hF, hG⟩ := sE2 hF
            subst hF
            subst hG
            exact r_iret K hw d_Model_match_99
        · replace hF := ifN hF c_7
          refine lv_aload_n hx hb d_Model_match_64 rfl (lv_at hl 0 rfl) ?_
          refine r_get (v := .int (s_6.1 0 32)) K hw i_Model sh_Model rfl 32 (by decide) w_1057 rfl rfl rfl d_Model_match_65 ?_
          refine lv_goto (tgt := 99) hx hb d_Model_match_68 (by decide) ?_
          obtain ⟨hF, hG⟩ := sE2 hF
          subst hF
          subst hG
          exact r_iret K hw d_Model_match_99
      · replace hF := ifN hF c_4
        refine lv_sipush (v := -200) hx hb d_Model_match_30 (by decide) ?_
        obtain ⟨hF, hG⟩ := sE2 hF
        subst hF
        subst hG
        exact r_iret K hw d_Model_match_33
  · replace hF := ifN hF c_2
    refine lv_bipush (v := -100) hx hb d_Model_match_8 (by decide) ?_
    obtain ⟨hF, hG⟩ := sE2 hF
    subst hF
    subst hG
    exact r_iret K hw d_Model_match_10
end S_Model_match
noncomputable abbrev F_Model_match := F_Model_match_0
theorem c_Model_match {l : Launch} {D : va_G} {cA : Nat → ClassId} {ad : Nat → Nat} {s0 τ : St} {r : Int32} {v1 : Int32} {v2 : Int32} {v3 : Int32}  (hF : F_Model_match s0 v1 v2 v3 = (some (r, τ))) : MI l D cA ad shM y_Model_match (wT y_Model_match b_Model_match 4 (some .int)) rm_Model_match [.ref (ad 0), .int v1, .int v2, .int v3] s0 r τ := fun sz => m_start (Qc := fun A => QcI D cA ad shM A r τ) (by decide +kernel) w_1221 (Nat.le_of_ble_eq_true rfl) (fun p e s m below meth c ls K hl hw => q_Model_match_0 K _ _ _ _ _ _ _  hw hl hF)

/-! Model.winner(II)I -/
abbrev b_Model_winner : ByteArray := prog_13_method_41_code
def y_Model_winner : MethodName := ⟨R_Model, "winne\x72", "(II)I"⟩
theorem a_Model_winner : y_Model_winner.cls = R_Model ∧ y_Model_winner.cls ≠ "java/lang/invoke/MethodHandle" ∧ y_Model_winner.cls ≠ "java/lang/invoke/VarHandle" ∧ (parseMethodDescriptor y_Model_winner.desc).map (fun d => d.parameters.length) = some 2 := by decide +kernel
abbrev rm_Model_winner : Room := { frames := 0, cells := 0, slots := 0, locals := 0 }
theorem w_1264 : Cond.code y_Model_winner b_Model_winner 3 (some .int) ∈ TB := tb_in 1264 (by decide +kernel) (by decide +kernel)
theorem d_Model_winner_0 : decode b_Model_winner 0 = .ok (.aload_n 0, 1) := by decide +kernel
theorem d_Model_winner_1 : decode b_Model_winner 1 = .ok (.getfield 187, 3) := by decide +kernel
theorem d_Model_winner_4 : decode b_Model_winner 4 = .ok (.ifCond .le 7, 3) := by decide +kernel
theorem d_Model_winner_7 : decode b_Model_winner 7 = .ok (.iload_n 1, 1) := by decide +kernel
theorem d_Model_winner_8 : decode b_Model_winner 8 = .ok (.goto 15, 3) := by decide +kernel
theorem d_Model_winner_11 : decode b_Model_winner 11 = .ok (.aload_n 0, 1) := by decide +kernel
theorem d_Model_winner_12 : decode b_Model_winner 12 = .ok (.getfield 187, 3) := by decide +kernel
theorem d_Model_winner_15 : decode b_Model_winner 15 = .ok (.ifCond .ge 7, 3) := by decide +kernel
theorem d_Model_winner_18 : decode b_Model_winner 18 = .ok (.iload_n 2, 1) := by decide +kernel
theorem d_Model_winner_19 : decode b_Model_winner 19 = .ok (.goto 4, 3) := by decide +kernel
theorem d_Model_winner_22 : decode b_Model_winner 22 = .ok (.iconst (-1), 1) := by decide +kernel
theorem d_Model_winner_23 : decode b_Model_winner 23 = .ok (.ireturn, 1) := by decide +kernel
section S_Model_winner
variable {p : Program} {l : Launch} {e : Env} {s : State} {m : MethodId} {args : Array Value} {below : List Frame} {meth : Method} {c : Code} {D : va_G} {cA : Nat → ClassId} {ad : Nat → Nat} {nC : Nat} {A : Nat → Prop} {r : Int32} {τ : St}
noncomputable def F_Model_winner_0 (s0 : St) (v1 : Int32) (v2 : Int32) : Int32 := (if (s0.1 0 32) ≤ 0 then (if 0 ≤ (s0.1 0 32) then (-1 : Int32) else v2) else v1)
set_option maxHeartbeats 4000000 in
set_option maxRecDepth 100000 in
theorem q_Model_winner_0 (s0 : St) (K : Fx p s m args meth c b_Model_winner 3 R_Model (some .int))  : ∀ (H : Heap) (locs : List Loc) (ls : Array Slot) (v1 : Int32) (v2 : Int32), Wh D cA ad shM A s s0 H locs → lv_has ls 3 [(0, .ref (ad 0)), (1, .int v1), (2, .int v2)] → F_Model_winner_0 s0 v1 v2 = r → W p l e rm_Model_winner s m args below meth c H locs 0 0 (MQ below (QcI D cA ad shM A r s0) args s 0 0 A) (F0 m 0 ls []) := by
  have hx := K.1.1; have hb := K.1.2.1
  intro H locs ls v1 v2 hw hl hF
  unfold F_Model_winner_0 at hF
  refine lv_aload_n hx hb d_Model_winner_0 rfl (lv_at hl 0 rfl) ?_
  refine r_get (v := .int (s0.1 0 32)) K hw i_Model sh_Model rfl 32 (by decide) w_1057 rfl rfl rfl d_Model_winner_1 ?_
  refine lv_if_le (tgt := 11) hx hb d_Model_winner_4 (by decide) (fun c_1 => ?_) (fun c_1 => ?_)
  · replace hF := ifT hF c_1
    refine lv_aload_n hx hb d_Model_winner_11 rfl (lv_at hl 0 rfl) ?_
    refine r_get (v := .int (s0.1 0 32)) K hw i_Model sh_Model rfl 32 (by decide) w_1057 rfl rfl rfl d_Model_winner_12 ?_
    refine lv_if_ge (tgt := 22) hx hb d_Model_winner_15 (by decide) (fun c_2 => ?_) (fun c_2 => ?_)
    · replace hF := ifT hF c_2
      refine lv_iconst (v := -1) hx hb d_Model_winner_22 (by decide) ?_
      subst hF
      exact r_iret K hw d_Model_winner_23
    · replace hF := ifF hF c_2
      refine lv_iload_n hx hb d_Model_winner_18 rfl (lv_at hl 2 rfl) ?_
      refine lv_goto (tgt := 23) hx hb d_Model_winner_19 (by decide) ?_
      subst hF
      exact r_iret K hw d_Model_winner_23
  · replace hF := ifF hF c_1
    refine lv_iload_n hx hb d_Model_winner_7 rfl (lv_at hl 1 rfl) ?_
    refine lv_goto (tgt := 23) hx hb d_Model_winner_8 (by decide) ?_
    subst hF
    exact r_iret K hw d_Model_winner_23
end S_Model_winner
noncomputable abbrev F_Model_winner := F_Model_winner_0
theorem c_Model_winner {l : Launch} {D : va_G} {cA : Nat → ClassId} {ad : Nat → Nat} {s0 : St} {r : Int32} {v1 : Int32} {v2 : Int32}  (hF : F_Model_winner s0 v1 v2 = r) : MI l D cA ad shM y_Model_winner (wT y_Model_winner b_Model_winner 3 (some .int)) rm_Model_winner [.ref (ad 0), .int v1, .int v2] s0 r s0 := fun sz => m_start (Qc := fun A => QcI D cA ad shM A r s0) (by decide +kernel) w_1264 (Nat.le_of_ble_eq_true rfl) (fun p e s m below meth c ls K hl hw => q_Model_winner_0 s0 K _ _ _ _ _  hw hl hF)

/-! Model.wins(III)I -/
abbrev b_Model_wins : ByteArray := prog_13_method_42_code
def y_Model_wins : MethodName := ⟨R_Model, "wins", "(III)I"⟩
theorem a_Model_wins : y_Model_wins.cls = R_Model ∧ y_Model_wins.cls ≠ "java/lang/invoke/MethodHandle" ∧ y_Model_wins.cls ≠ "java/lang/invoke/VarHandle" ∧ (parseMethodDescriptor y_Model_wins.desc).map (fun d => d.parameters.length) = some 3 := by decide +kernel
abbrev rm_Model_wins : Room := { frames := 7, cells := 0, slots := 0, locals := 175 }
theorem w_1261 : Cond.methodLink R_Model 223 y_Model_winner ∈ TB := tb_in 1261 (by decide +kernel) (by decide +kernel)
theorem w_1263 : Cond.instanceMethod y_Model_winner ∈ TB := tb_in 1263 (by decide +kernel) (by decide +kernel)
theorem w_51 : Cond.selects R_Model y_Model_winner y_Model_winner ∈ TB := tb_in 51 (by decide +kernel) (by decide +kernel)
theorem w_1256 : Cond.code y_Model_wins b_Model_wins 5 (some .int) ∈ TB := tb_in 1256 (by decide +kernel) (by decide +kernel)
theorem d_Model_wins_0 : decode b_Model_wins 0 = .ok (.aload_n 0, 1) := by decide +kernel
theorem d_Model_wins_1 : decode b_Model_wins 1 = .ok (.iload_n 1, 1) := by decide +kernel
theorem d_Model_wins_2 : decode b_Model_wins 2 = .ok (.iload_n 2, 1) := by decide +kernel
theorem d_Model_wins_3 : decode b_Model_wins 3 = .ok (.invokevirtual 86, 3) := by decide +kernel
theorem d_Model_wins_6 : decode b_Model_wins 6 = .ok (.ifCond .ne 6, 3) := by decide +kernel
theorem d_Model_wins_9 : decode b_Model_wins 9 = .ok (.bipush (-5), 2) := by decide +kernel
theorem d_Model_wins_11 : decode b_Model_wins 11 = .ok (.ireturn, 1) := by decide +kernel
theorem d_Model_wins_12 : decode b_Model_wins 12 = .ok (.iload_n 3, 1) := by decide +kernel
theorem d_Model_wins_13 : decode b_Model_wins 13 = .ok (.iconst 0, 1) := by decide +kernel
theorem d_Model_wins_14 : decode b_Model_wins 14 = .ok (.iconst 1, 1) := by decide +kernel
theorem d_Model_wins_15 : decode b_Model_wins 15 = .ok (.invokestatic 78, 3) := by decide +kernel
theorem d_Model_wins_18 : decode b_Model_wins 18 = .ok (.ifCond .ne 6, 3) := by decide +kernel
theorem d_Model_wins_21 : decode b_Model_wins 21 = .ok (.bipush (-7), 2) := by decide +kernel
theorem d_Model_wins_23 : decode b_Model_wins 23 = .ok (.ireturn, 1) := by decide +kernel
theorem d_Model_wins_24 : decode b_Model_wins 24 = .ok (.aload_n 0, 1) := by decide +kernel
theorem d_Model_wins_25 : decode b_Model_wins 25 = .ok (.iload_n 1, 1) := by decide +kernel
theorem d_Model_wins_26 : decode b_Model_wins 26 = .ok (.iload_n 2, 1) := by decide +kernel
theorem d_Model_wins_27 : decode b_Model_wins 27 = .ok (.invokevirtual 216, 3) := by decide +kernel
theorem d_Model_wins_30 : decode b_Model_wins 30 = .ok (.aload_n 0, 1) := by decide +kernel
theorem d_Model_wins_31 : decode b_Model_wins 31 = .ok (.getfield 187, 3) := by decide +kernel
theorem d_Model_wins_34 : decode b_Model_wins 34 = .ok (.bipush 30, 2) := by decide +kernel
theorem d_Model_wins_36 : decode b_Model_wins 36 = .ok (.if_icmp .eq 12, 3) := by decide +kernel
theorem d_Model_wins_39 : decode b_Model_wins 39 = .ok (.aload_n 0, 1) := by decide +kernel
theorem d_Model_wins_40 : decode b_Model_wins 40 = .ok (.getfield 187, 3) := by decide +kernel
theorem d_Model_wins_43 : decode b_Model_wins 43 = .ok (.bipush (-30), 2) := by decide +kernel
theorem d_Model_wins_45 : decode b_Model_wins 45 = .ok (.if_icmp .ne 7, 3) := by decide +kernel
theorem d_Model_wins_48 : decode b_Model_wins 48 = .ok (.iconst 1, 1) := by decide +kernel
theorem d_Model_wins_49 : decode b_Model_wins 49 = .ok (.goto 4, 3) := by decide +kernel
theorem d_Model_wins_52 : decode b_Model_wins 52 = .ok (.iconst 0, 1) := by decide +kernel
theorem d_Model_wins_53 : decode b_Model_wins 53 = .ok (.istore 4, 2) := by decide +kernel
theorem d_Model_wins_55 : decode b_Model_wins 55 = .ok (.iload_n 3, 1) := by decide +kernel
theorem d_Model_wins_56 : decode b_Model_wins 56 = .ok (.ifCond .ne 12, 3) := by decide +kernel
theorem d_Model_wins_59 : decode b_Model_wins 59 = .ok (.aload_n 0, 1) := by decide +kernel
theorem d_Model_wins_60 : decode b_Model_wins 60 = .ok (.iload_n 1, 1) := by decide +kernel
theorem d_Model_wins_61 : decode b_Model_wins 61 = .ok (.iload_n 2, 1) := by decide +kernel
theorem d_Model_wins_62 : decode b_Model_wins 62 = .ok (.invokevirtual 223, 3) := by decide +kernel
theorem d_Model_wins_65 : decode b_Model_wins 65 = .ok (.goto 16, 3) := by decide +kernel
theorem d_Model_wins_68 : decode b_Model_wins 68 = .ok (.iload 4, 2) := by decide +kernel
theorem d_Model_wins_70 : decode b_Model_wins 70 = .ok (.ifCond .eq 10, 3) := by decide +kernel
theorem d_Model_wins_73 : decode b_Model_wins 73 = .ok (.aload_n 0, 1) := by decide +kernel
theorem d_Model_wins_74 : decode b_Model_wins 74 = .ok (.getfield 203, 3) := by decide +kernel
theorem d_Model_wins_77 : decode b_Model_wins 77 = .ok (.goto 4, 3) := by decide +kernel
theorem d_Model_wins_80 : decode b_Model_wins 80 = .ok (.iconst (-1), 1) := by decide +kernel
theorem d_Model_wins_81 : decode b_Model_wins 81 = .ok (.ireturn, 1) := by decide +kernel
section S_Model_wins
variable {p : Program} {l : Launch} {e : Env} {s : State} {m : MethodId} {args : Array Value} {below : List Frame} {meth : Method} {c : Code} {D : va_G} {cA : Nat → ClassId} {ad : Nat → Nat} {nC : Nat} {A : Nat → Prop} {r : Int32} {τ : St}
noncomputable def F_Model_wins_53 (s0 : St) (v1 : Int32) (v2 : Int32) (v3 : Int32) (t0 : Int32) : Option (Int32 × St) := (if ¬ v3 = 0 then (if t0 = 0 then (some ((-1 : Int32), s0)) else (some ((s0.1 0 36), s0))) else (some ((F_Model_winner s0 v1 v2), s0)))
set_option maxHeartbeats 4000000 in
set_option maxRecDepth 100000 in
theorem q_Model_wins_53 (K : Fx p s m args meth c b_Model_wins 5 R_Model (some .int))  : ∀ (H : Heap) (locs : List Loc) (ls : Array Slot) (s0 : St) (v1 : Int32) (v2 : Int32) (v3 : Int32) (t0 : Int32), Wh D cA ad shM A s s0 H locs → lv_has ls 5 [(0, .ref (ad 0)), (1, .int v1), (2, .int v2), (3, .int v3)] → F_Model_wins_53 s0 v1 v2 v3 t0 = (some (r, τ)) → W p l e rm_Model_wins s m args below meth c H locs 0 0 (MQ below (QcI D cA ad shM A r τ) args s 0 0 A) (F0 m 53 ls [.int t0]) := by
  have hx := K.1.1; have hb := K.1.2.1
  intro H locs ls s0 v1 v2 v3 t0 hw hl hF
  unfold F_Model_wins_53 at hF
  refine lv_istore (lv' := [(4, .int t0), (0, .ref (ad 0)), (1, .int v1), (2, .int v2), (3, .int v3)]) hx hb d_Model_wins_53 hl (by decide) rfl (fun ls hl => ?_)
  refine lv_iload_n hx hb d_Model_wins_55 rfl (lv_at hl 4 rfl) ?_
  refine lv_if_ne (tgt := 68) hx hb d_Model_wins_56 (by decide) (fun c_6 => ?_) (fun c_6 => ?_)
  · replace hF := ifT hF c_6
    refine lv_iload hx hb d_Model_wins_68 (lv_at hl 0 rfl) ?_
    refine lv_if_eq (tgt := 80) hx hb d_Model_wins_70 (by decide) (fun c_7 => ?_) (fun c_7 => ?_)
    · replace hF := ifT hF c_7
      refine lv_iconst (v := -1) hx hb d_Model_wins_80 (by decide) ?_
      obtain ⟨hF, hG⟩ := sE2 hF
      subst hF
      subst hG
      exact r_iret K hw d_Model_wins_81
    · replace hF := ifF hF c_7
      refine lv_aload_n hx hb d_Model_wins_73 rfl (lv_at hl 1 rfl) ?_
      refine r_get (v := .int (s0.1 0 36)) K hw i_Model sh_Model rfl 36 (by decide) w_1061 rfl rfl rfl d_Model_wins_74 ?_
      refine lv_goto (tgt := 81) hx hb d_Model_wins_77 (by decide) ?_
      obtain ⟨hF, hG⟩ := sE2 hF
      subst hF
      subst hG
      exact r_iret K hw d_Model_wins_81
  · replace hF := ifN hF c_6
    refine lv_aload_n hx hb d_Model_wins_59 rfl (lv_at hl 1 rfl) ?_
    refine lv_iload_n hx hb d_Model_wins_60 rfl (lv_at hl 2 rfl) ?_
    refine lv_iload_n hx hb d_Model_wins_61 rfl (lv_at hl 3 rfl) ?_
    refine r_callVI (As := [.int v1, .int v2]) (rest := []) K hw hl.1 (c_Model_winner (l := l) (D := D) (cA := cA) (ad := ad) (s0 := s0)   rfl) sh_Model rfl (tb_gV w_1261 w_1263 w_51 w_80 w_1264) a_Model_winner ⟨rfl, rfl, Nat.le_of_ble_eq_true rfl, Nat.le_of_ble_eq_true rfl⟩ rfl rfl (Nat.le_of_ble_eq_true rfl) d_Model_wins_62 (fun H locs hw => ?_)
    refine lv_goto (tgt := 81) hx hb d_Model_wins_65 (by decide) ?_
    obtain ⟨hF, hG⟩ := sE2 hF
    subst hF
    subst hG
    exact r_iret K hw d_Model_wins_81
noncomputable def F_Model_wins_48 (s0 : St) (v1 : Int32) (v2 : Int32) (v3 : Int32) : Option (Int32 × St) := (F_Model_wins_53 s0 v1 v2 v3 (1 : Int32))
set_option maxHeartbeats 4000000 in
set_option maxRecDepth 100000 in
theorem q_Model_wins_48 (K : Fx p s m args meth c b_Model_wins 5 R_Model (some .int))  : ∀ (H : Heap) (locs : List Loc) (ls : Array Slot) (s0 : St) (v1 : Int32) (v2 : Int32) (v3 : Int32), Wh D cA ad shM A s s0 H locs → lv_has ls 5 [(0, .ref (ad 0)), (1, .int v1), (2, .int v2), (3, .int v3)] → F_Model_wins_48 s0 v1 v2 v3 = (some (r, τ)) → W p l e rm_Model_wins s m args below meth c H locs 0 0 (MQ below (QcI D cA ad shM A r τ) args s 0 0 A) (F0 m 48 ls []) := by
  have hx := K.1.1; have hb := K.1.2.1
  intro H locs ls s0 v1 v2 v3 hw hl hF
  unfold F_Model_wins_48 at hF
  refine lv_iconst (v := 1) hx hb d_Model_wins_48 (by decide) ?_
  refine lv_goto (tgt := 53) hx hb d_Model_wins_49 (by decide) ?_
  exact q_Model_wins_53 K _ _ _ _ _ _ _ _  hw (lv_sub hl [0, 1, 2, 3] rfl) hF
noncomputable def F_Model_wins_0 (s0 : St) (v1 : Int32) (v2 : Int32) (v3 : Int32) : Option (Int32 × St) := (ob1 (F_Model_areTwo s0 v1 v2) (fun r_1 => (if ¬ r_1 = 0 then (if ¬ (F_Model_in v3 (0 : Int32) (1 : Int32)) = 0 then (ob1 (F_Model_bouts s0 v1 v2) (fun s_4 => (if (s_4.1 0 32) = (30 : Int32) then (F_Model_wins_48 s_4 v1 v2 v3) else (if ¬ (s_4.1 0 32) = (-30 : Int32) then (F_Model_wins_53 s_4 v1 v2 v3 (0 : Int32)) else (F_Model_wins_48 s_4 v1 v2 v3))))) else (some ((-7 : Int32), s0))) else (some ((-5 : Int32), s0)))))
set_option maxHeartbeats 4000000 in
set_option maxRecDepth 100000 in
theorem q_Model_wins_0 (K : Fx p s m args meth c b_Model_wins 5 R_Model (some .int))  : ∀ (H : Heap) (locs : List Loc) (ls : Array Slot) (s0 : St) (v1 : Int32) (v2 : Int32) (v3 : Int32), Wh D cA ad shM A s s0 H locs → lv_has ls 5 [(0, .ref (ad 0)), (1, .int v1), (2, .int v2), (3, .int v3)] → F_Model_wins_0 s0 v1 v2 v3 = (some (r, τ)) → W p l e rm_Model_wins s m args below meth c H locs 0 0 (MQ below (QcI D cA ad shM A r τ) args s 0 0 A) (F0 m 0 ls []) := by
  have hx := K.1.1; have hb := K.1.2.1
  intro H locs ls s0 v1 v2 v3 hw hl hF
  unfold F_Model_wins_0 at hF
  refine lv_aload_n hx hb d_Model_wins_0 rfl (lv_at hl 0 rfl) ?_
  refine lv_iload_n hx hb d_Model_wins_1 rfl (lv_at hl 1 rfl) ?_
  refine lv_iload_n hx hb d_Model_wins_2 rfl (lv_at hl 2 rfl) ?_
  obtain ⟨r_1, h_r_1, hF⟩ := ob1E hF
  refine r_callVI (As := [.int v1, .int v2]) (rest := []) K hw hl.1 (c_Model_areTwo (l := l) (D := D) (cA := cA) (ad := ad) (s0 := s0)   h_r_1) sh_Model rfl (tb_gV w_1226 w_1228 w_44 w_80 w_1229) a_Model_areTwo ⟨rfl, rfl, Nat.le_of_ble_eq_true rfl, Nat.le_of_ble_eq_true rfl⟩ rfl rfl (Nat.le_of_ble_eq_true rfl) d_Model_wins_3 (fun H locs hw => ?_)
  refine lv_if_ne (tgt := 12) hx hb d_Model_wins_6 (by decide) (fun c_2 => ?_) (fun c_2 => ?_)
  · replace hF := ifT hF c_2
    refine lv_iload_n hx hb d_Model_wins_12 rfl (lv_at hl 3 rfl) ?_
    refine lv_iconst (v := 0) hx hb d_Model_wins_13 (by decide) ?_
    refine lv_iconst (v := 1) hx hb d_Model_wins_14 (by decide) ?_
    refine r_callSI (As := [.int v3, .int (0 : Int32), .int (1 : Int32)]) (rest := []) K hw hl.1 (c_Model_in (l := l) (D := D) (cA := cA) (ad := ad) (s0 := s0)   rfl) (tb_gS w_986 w_987 w_80 w_988) a_Model_in ⟨rfl, rfl, Nat.le_of_ble_eq_true rfl, Nat.le_of_ble_eq_true rfl⟩ rfl rfl (Nat.le_of_ble_eq_true rfl) d_Model_wins_15 (fun H locs hw => ?_)
    refine lv_if_ne (tgt := 24) hx hb d_Model_wins_18 (by decide) (fun c_3 => ?_) (fun c_3 => ?_)
    · replace hF := ifT hF c_3
      refine lv_aload_n hx hb d_Model_wins_24 rfl (lv_at hl 0 rfl) ?_
      refine lv_iload_n hx hb d_Model_wins_25 rfl (lv_at hl 1 rfl) ?_
      refine lv_iload_n hx hb d_Model_wins_26 rfl (lv_at hl 2 rfl) ?_
      obtain ⟨s_4, h_s_4, hF⟩ := ob1E hF
      refine r_callVV (As := [.int v1, .int v2]) (rest := []) K hw hl.1 (c_Model_bouts (l := l) (D := D) (cA := cA) (ad := ad) (s0 := s0)   h_s_4) sh_Model rfl (tb_gV w_1257 w_1259 w_50 w_80 w_1260) a_Model_bouts ⟨rfl, rfl, Nat.le_of_ble_eq_true rfl, Nat.le_of_ble_eq_true rfl⟩ rfl rfl (Nat.le_of_ble_eq_true rfl) d_Model_wins_27 (fun H locs hw => ?_)
      refine lv_aload_n hx hb d_Model_wins_30 rfl (lv_at hl 0 rfl) ?_
      refine r_get (v := .int (s_4.1 0 32)) K hw i_Model sh_Model rfl 32 (by decide) w_1057 rfl rfl rfl d_Model_wins_31 ?_
      refine lv_bipush (v := 30) hx hb d_Model_wins_34 (by decide) ?_
      refine lv_icmp_eq (tgt := 48) hx hb d_Model_wins_36 (by decide) (fun c_5 => ?_) (fun c_5 => ?_)
      · replace hF := ifT hF c_5
        exact q_Model_wins_48 K _ _ _ _ _ _ _  hw (lv_sub hl [0, 1, 2, 3] rfl) hF
      · replace hF := ifF hF c_5
        refine lv_aload_n hx hb d_Model_wins_39 rfl (lv_at hl 0 rfl) ?_
        refine r_get (v := .int (s_4.1 0 32)) K hw i_Model sh_Model rfl 32 (by decide) w_1057 rfl rfl rfl d_Model_wins_40 ?_
        refine lv_bipush (v := -30) hx hb d_Model_wins_43 (by decide) ?_
        refine lv_icmp_ne (tgt := 52) hx hb d_Model_wins_45 (by decide) (fun c_8 => ?_) (fun c_8 => ?_)
        · replace hF := ifT hF c_8
          refine lv_iconst (v := 0) hx hb d_Model_wins_52 (by decide) ?_
          exact q_Model_wins_53 K _ _ _ _ _ _ _ _  hw (lv_sub hl [0, 1, 2, 3] rfl) hF
        · replace hF := ifN hF c_8
          exact q_Model_wins_48 K _ _ _ _ _ _ _  hw (lv_sub hl [0, 1, 2, 3] rfl) hF
    · replace hF := ifN hF c_3
      refine lv_bipush (v := -7) hx hb d_Model_wins_21 (by decide) ?_
      obtain ⟨hF, hG⟩ := sE2 hF
      subst hF
      subst hG
      exact r_iret K hw d_Model_wins_23
  · replace hF := ifN hF c_2
    refine lv_bipush (v := -5) hx hb d_Model_wins_9 (by decide) ?_
    obtain ⟨hF, hG⟩ := sE2 hF
    subst hF
    subst hG
    exact r_iret K hw d_Model_wins_11
end S_Model_wins
noncomputable abbrev F_Model_wins := F_Model_wins_0
theorem c_Model_wins {l : Launch} {D : va_G} {cA : Nat → ClassId} {ad : Nat → Nat} {s0 τ : St} {r : Int32} {v1 : Int32} {v2 : Int32} {v3 : Int32}  (hF : F_Model_wins s0 v1 v2 v3 = (some (r, τ))) : MI l D cA ad shM y_Model_wins (wT y_Model_wins b_Model_wins 5 (some .int)) rm_Model_wins [.ref (ad 0), .int v1, .int v2, .int v3] s0 r τ := fun sz => m_start (Qc := fun A => QcI D cA ad shM A r τ) (by decide +kernel) w_1256 (Nat.le_of_ble_eq_true rfl) (fun p e s m below meth c ls K hl hw => q_Model_wins_0 K _ _ _ _ _ _ _  hw hl hF)

/-! Model.fight(II)I -/
abbrev b_Model_fight : ByteArray := prog_13_method_43_code
def y_Model_fight : MethodName := ⟨R_Model, "fight", "(II)I"⟩
theorem a_Model_fight : y_Model_fight.cls = R_Model ∧ y_Model_fight.cls ≠ "java/lang/invoke/MethodHandle" ∧ y_Model_fight.cls ≠ "java/lang/invoke/VarHandle" ∧ (parseMethodDescriptor y_Model_fight.desc).map (fun d => d.parameters.length) = some 2 := by decide +kernel
abbrev rm_Model_fight : Room := { frames := 7, cells := 0, slots := 0, locals := 175 }
theorem w_1268 : Cond.code y_Model_fight b_Model_fight 3 (some .int) ∈ TB := tb_in 1268 (by decide +kernel) (by decide +kernel)
theorem d_Model_fight_0 : decode b_Model_fight 0 = .ok (.aload_n 0, 1) := by decide +kernel
theorem d_Model_fight_1 : decode b_Model_fight 1 = .ok (.iload_n 1, 1) := by decide +kernel
theorem d_Model_fight_2 : decode b_Model_fight 2 = .ok (.iload_n 2, 1) := by decide +kernel
theorem d_Model_fight_3 : decode b_Model_fight 3 = .ok (.invokevirtual 86, 3) := by decide +kernel
theorem d_Model_fight_6 : decode b_Model_fight 6 = .ok (.ifCond .ne 6, 3) := by decide +kernel
theorem d_Model_fight_9 : decode b_Model_fight 9 = .ok (.bipush (-100), 2) := by decide +kernel
theorem d_Model_fight_11 : decode b_Model_fight 11 = .ok (.ireturn, 1) := by decide +kernel
theorem d_Model_fight_12 : decode b_Model_fight 12 = .ok (.aload_n 0, 1) := by decide +kernel
theorem d_Model_fight_13 : decode b_Model_fight 13 = .ok (.iload_n 1, 1) := by decide +kernel
theorem d_Model_fight_14 : decode b_Model_fight 14 = .ok (.iload_n 2, 1) := by decide +kernel
theorem d_Model_fight_15 : decode b_Model_fight 15 = .ok (.invokevirtual 216, 3) := by decide +kernel
theorem d_Model_fight_18 : decode b_Model_fight 18 = .ok (.aload_n 0, 1) := by decide +kernel
theorem d_Model_fight_19 : decode b_Model_fight 19 = .ok (.getfield 19, 3) := by decide +kernel
theorem d_Model_fight_22 : decode b_Model_fight 22 = .ok (.iload_n 1, 1) := by decide +kernel
theorem d_Model_fight_23 : decode b_Model_fight 23 = .ok (.aload_n 0, 1) := by decide +kernel
theorem d_Model_fight_24 : decode b_Model_fight 24 = .ok (.getfield 184, 3) := by decide +kernel
theorem d_Model_fight_27 : decode b_Model_fight 27 = .ok (.iastore, 1) := by decide +kernel
theorem d_Model_fight_28 : decode b_Model_fight 28 = .ok (.aload_n 0, 1) := by decide +kernel
theorem d_Model_fight_29 : decode b_Model_fight 29 = .ok (.getfield 19, 3) := by decide +kernel
theorem d_Model_fight_32 : decode b_Model_fight 32 = .ok (.iload_n 2, 1) := by decide +kernel
theorem d_Model_fight_33 : decode b_Model_fight 33 = .ok (.aload_n 0, 1) := by decide +kernel
theorem d_Model_fight_34 : decode b_Model_fight 34 = .ok (.getfield 194, 3) := by decide +kernel
theorem d_Model_fight_37 : decode b_Model_fight 37 = .ok (.iastore, 1) := by decide +kernel
theorem d_Model_fight_38 : decode b_Model_fight 38 = .ok (.aload_n 0, 1) := by decide +kernel
theorem d_Model_fight_39 : decode b_Model_fight 39 = .ok (.getfield 187, 3) := by decide +kernel
theorem d_Model_fight_42 : decode b_Model_fight 42 = .ok (.ireturn, 1) := by decide +kernel
section S_Model_fight
variable {p : Program} {l : Launch} {e : Env} {s : State} {m : MethodId} {args : Array Value} {below : List Frame} {meth : Method} {c : Code} {D : va_G} {cA : Nat → ClassId} {ad : Nat → Nat} {nC : Nat} {A : Nat → Prop} {r : Int32} {τ : St}
noncomputable def F_Model_fight_0 (s0 : St) (v1 : Int32) (v2 : Int32) : Option (Int32 × St) := (ob1 (F_Model_areTwo s0 v1 v2) (fun r_1 => (if ¬ r_1 = 0 then (ob1 (F_Model_bouts s0 v1 v2) (fun s_3 => (if inB v1 6 = true then (lt (up1 s_3 4 v1.toNatClampNeg (s_3.1 0 33)) (fun s_5 => (if inB v2 6 = true then (lt (up1 s_5 4 v2.toNatClampNeg (s_5.1 0 34)) (fun s_7 => (some ((s_7.1 0 32), s_7)))) else none))) else none))) else (some ((-100 : Int32), s0)))))
set_option maxHeartbeats 4000000 in
set_option maxRecDepth 100000 in
theorem q_Model_fight_0 (K : Fx p s m args meth c b_Model_fight 3 R_Model (some .int))  : ∀ (H : Heap) (locs : List Loc) (ls : Array Slot) (s0 : St) (v1 : Int32) (v2 : Int32), Wh D cA ad shM A s s0 H locs → lv_has ls 3 [(0, .ref (ad 0)), (1, .int v1), (2, .int v2)] → F_Model_fight_0 s0 v1 v2 = (some (r, τ)) → W p l e rm_Model_fight s m args below meth c H locs 0 0 (MQ below (QcI D cA ad shM A r τ) args s 0 0 A) (F0 m 0 ls []) := by
  have hx := K.1.1; have hb := K.1.2.1
  intro H locs ls s0 v1 v2 hw hl hF
  unfold F_Model_fight_0 at hF
  refine lv_aload_n hx hb d_Model_fight_0 rfl (lv_at hl 0 rfl) ?_
  refine lv_iload_n hx hb d_Model_fight_1 rfl (lv_at hl 1 rfl) ?_
  refine lv_iload_n hx hb d_Model_fight_2 rfl (lv_at hl 2 rfl) ?_
  obtain ⟨r_1, h_r_1, hF⟩ := ob1E hF
  refine r_callVI (As := [.int v1, .int v2]) (rest := []) K hw hl.1 (c_Model_areTwo (l := l) (D := D) (cA := cA) (ad := ad) (s0 := s0)   h_r_1) sh_Model rfl (tb_gV w_1226 w_1228 w_44 w_80 w_1229) a_Model_areTwo ⟨rfl, rfl, Nat.le_of_ble_eq_true rfl, Nat.le_of_ble_eq_true rfl⟩ rfl rfl (Nat.le_of_ble_eq_true rfl) d_Model_fight_3 (fun H locs hw => ?_)
  refine lv_if_ne (tgt := 12) hx hb d_Model_fight_6 (by decide) (fun c_2 => ?_) (fun c_2 => ?_)
  · replace hF := ifT hF c_2
    refine lv_aload_n hx hb d_Model_fight_12 rfl (lv_at hl 0 rfl) ?_
    refine lv_iload_n hx hb d_Model_fight_13 rfl (lv_at hl 1 rfl) ?_
    refine lv_iload_n hx hb d_Model_fight_14 rfl (lv_at hl 2 rfl) ?_
    obtain ⟨s_3, h_s_3, hF⟩ := ob1E hF
    refine r_callVV (As := [.int v1, .int v2]) (rest := []) K hw hl.1 (c_Model_bouts (l := l) (D := D) (cA := cA) (ad := ad) (s0 := s0)   h_s_3) sh_Model rfl (tb_gV w_1257 w_1259 w_50 w_80 w_1260) a_Model_bouts ⟨rfl, rfl, Nat.le_of_ble_eq_true rfl, Nat.le_of_ble_eq_true rfl⟩ rfl rfl (Nat.le_of_ble_eq_true rfl) d_Model_fight_15 (fun H locs hw => ?_)
    refine lv_aload_n hx hb d_Model_fight_18 rfl (lv_at hl 0 rfl) ?_
    refine r_get (v := .ref (ad 4)) K hw i_Model sh_Model rfl 4 (by decide) w_1029 rfl rfl rfl d_Model_fight_19 ?_
    refine lv_iload_n hx hb d_Model_fight_22 rfl (lv_at hl 1 rfl) ?_
    refine lv_aload_n hx hb d_Model_fight_23 rfl (lv_at hl 0 rfl) ?_
    refine r_get (v := .int (s_3.1 0 33)) K hw i_Model sh_Model rfl 33 (by decide) w_1058 rfl rfl rfl d_Model_fight_24 ?_
    obtain ⟨g_4, hF⟩ := ifG hF
    refine r_iast (k := v1.toNatClampNeg) K hw (show shM[4]? = some (.inr (.inl 6)) from rfl) rfl (inB_vp g_4) d_Model_fight_27 (fun s_5 f_s_5 H locs hw => ?_)
    replace hF := ltN hF f_s_5
    refine lv_aload_n hx hb d_Model_fight_28 rfl (lv_at hl 0 rfl) ?_
    refine r_get (v := .ref (ad 4)) K hw i_Model sh_Model rfl 4 (by decide) w_1029 rfl rfl rfl d_Model_fight_29 ?_
    refine lv_iload_n hx hb d_Model_fight_32 rfl (lv_at hl 2 rfl) ?_
    refine lv_aload_n hx hb d_Model_fight_33 rfl (lv_at hl 0 rfl) ?_
    refine r_get (v := .int (s_5.1 0 34)) K hw i_Model sh_Model rfl 34 (by decide) w_1059 rfl rfl rfl d_Model_fight_34 ?_
    obtain ⟨g_6, hF⟩ := ifG hF
    refine r_iast (k := v2.toNatClampNeg) K hw (show shM[4]? = some (.inr (.inl 6)) from rfl) rfl (inB_vp g_6) d_Model_fight_37 (fun s_7 f_s_7 H locs hw => ?_)
    replace hF := ltN hF f_s_7
    refine lv_aload_n hx hb d_Model_fight_38 rfl (lv_at hl 0 rfl) ?_
    refine r_get (v := .int (s_7.1 0 32)) K hw i_Model sh_Model rfl 32 (by decide) w_1057 rfl rfl rfl d_Model_fight_39 ?_
    obtain ⟨hF, hG⟩ := sE2 hF
    subst hF
    subst hG
    exact r_iret K hw d_Model_fight_42
  · replace hF := ifN hF c_2
    refine lv_bipush (v := -100) hx hb d_Model_fight_9 (by decide) ?_
    obtain ⟨hF, hG⟩ := sE2 hF
    subst hF
    subst hG
    exact r_iret K hw d_Model_fight_11
end S_Model_fight
noncomputable abbrev F_Model_fight := F_Model_fight_0
theorem c_Model_fight {l : Launch} {D : va_G} {cA : Nat → ClassId} {ad : Nat → Nat} {s0 τ : St} {r : Int32} {v1 : Int32} {v2 : Int32}  (hF : F_Model_fight s0 v1 v2 = (some (r, τ))) : MI l D cA ad shM y_Model_fight (wT y_Model_fight b_Model_fight 3 (some .int)) rm_Model_fight [.ref (ad 0), .int v1, .int v2] s0 r τ := fun sz => m_start (Qc := fun A => QcI D cA ad shM A r τ) (by decide +kernel) w_1268 (Nat.le_of_ble_eq_true rfl) (fun p e s m below meth c ls K hl hw => q_Model_fight_0 K _ _ _ _ _ _  hw hl hF)

/-! Model.rest(I)I -/
abbrev b_Model_rest : ByteArray := prog_13_method_44_code
def y_Model_rest : MethodName := ⟨R_Model, "rest", "(I)I"⟩
theorem a_Model_rest : y_Model_rest.cls = R_Model ∧ y_Model_rest.cls ≠ "java/lang/invoke/MethodHandle" ∧ y_Model_rest.cls ≠ "java/lang/invoke/VarHandle" ∧ (parseMethodDescriptor y_Model_rest.desc).map (fun d => d.parameters.length) = some 1 := by decide +kernel
abbrev rm_Model_rest : Room := { frames := 1, cells := 0, slots := 0, locals := 22 }
theorem w_1272 : Cond.code y_Model_rest b_Model_rest 4 (some .int) ∈ TB := tb_in 1272 (by decide +kernel) (by decide +kernel)
theorem d_Model_rest_0 : decode b_Model_rest 0 = .ok (.iload_n 1, 1) := by decide +kernel
theorem d_Model_rest_1 : decode b_Model_rest 1 = .ok (.iconst 0, 1) := by decide +kernel
theorem d_Model_rest_2 : decode b_Model_rest 2 = .ok (.bipush 24, 2) := by decide +kernel
theorem d_Model_rest_4 : decode b_Model_rest 4 = .ok (.invokestatic 78, 3) := by decide +kernel
theorem d_Model_rest_7 : decode b_Model_rest 7 = .ok (.ifCond .ne 6, 3) := by decide +kernel
theorem d_Model_rest_10 : decode b_Model_rest 10 = .ok (.bipush (-2), 2) := by decide +kernel
theorem d_Model_rest_12 : decode b_Model_rest 12 = .ok (.ireturn, 1) := by decide +kernel
theorem d_Model_rest_13 : decode b_Model_rest 13 = .ok (.iconst 0, 1) := by decide +kernel
theorem d_Model_rest_14 : decode b_Model_rest 14 = .ok (.istore_n 2, 1) := by decide +kernel
theorem d_Model_rest_15 : decode b_Model_rest 15 = .ok (.iconst 0, 1) := by decide +kernel
theorem d_Model_rest_16 : decode b_Model_rest 16 = .ok (.istore_n 3, 1) := by decide +kernel
theorem d_Model_rest_17 : decode b_Model_rest 17 = .ok (.iload_n 3, 1) := by decide +kernel
theorem d_Model_rest_18 : decode b_Model_rest 18 = .ok (.aload_n 0, 1) := by decide +kernel
theorem d_Model_rest_19 : decode b_Model_rest 19 = .ok (.getfield 75, 3) := by decide +kernel
theorem d_Model_rest_22 : decode b_Model_rest 22 = .ok (.if_icmp .ge 38, 3) := by decide +kernel
theorem d_Model_rest_25 : decode b_Model_rest 25 = .ok (.aload_n 0, 1) := by decide +kernel
theorem d_Model_rest_26 : decode b_Model_rest 26 = .ok (.getfield 19, 3) := by decide +kernel
theorem d_Model_rest_29 : decode b_Model_rest 29 = .ok (.iload_n 3, 1) := by decide +kernel
theorem d_Model_rest_30 : decode b_Model_rest 30 = .ok (.aload_n 0, 1) := by decide +kernel
theorem d_Model_rest_31 : decode b_Model_rest 31 = .ok (.getfield 19, 3) := by decide +kernel
theorem d_Model_rest_34 : decode b_Model_rest 34 = .ok (.iload_n 3, 1) := by decide +kernel
theorem d_Model_rest_35 : decode b_Model_rest 35 = .ok (.iaload, 1) := by decide +kernel
theorem d_Model_rest_36 : decode b_Model_rest 36 = .ok (.iload_n 1, 1) := by decide +kernel
theorem d_Model_rest_37 : decode b_Model_rest 37 = .ok (.iadd, 1) := by decide +kernel
theorem d_Model_rest_38 : decode b_Model_rest 38 = .ok (.iconst 0, 1) := by decide +kernel
theorem d_Model_rest_39 : decode b_Model_rest 39 = .ok (.bipush 24, 2) := by decide +kernel
theorem d_Model_rest_41 : decode b_Model_rest 41 = .ok (.invokestatic 162, 3) := by decide +kernel
theorem d_Model_rest_44 : decode b_Model_rest 44 = .ok (.iastore, 1) := by decide +kernel
theorem d_Model_rest_45 : decode b_Model_rest 45 = .ok (.iload_n 2, 1) := by decide +kernel
theorem d_Model_rest_46 : decode b_Model_rest 46 = .ok (.aload_n 0, 1) := by decide +kernel
theorem d_Model_rest_47 : decode b_Model_rest 47 = .ok (.getfield 19, 3) := by decide +kernel
theorem d_Model_rest_50 : decode b_Model_rest 50 = .ok (.iload_n 3, 1) := by decide +kernel
theorem d_Model_rest_51 : decode b_Model_rest 51 = .ok (.iaload, 1) := by decide +kernel
theorem d_Model_rest_52 : decode b_Model_rest 52 = .ok (.iadd, 1) := by decide +kernel
theorem d_Model_rest_53 : decode b_Model_rest 53 = .ok (.istore_n 2, 1) := by decide +kernel
theorem d_Model_rest_54 : decode b_Model_rest 54 = .ok (.iinc 3 1, 3) := by decide +kernel
theorem d_Model_rest_57 : decode b_Model_rest 57 = .ok (.goto (-40), 3) := by decide +kernel
theorem d_Model_rest_60 : decode b_Model_rest 60 = .ok (.iload_n 2, 1) := by decide +kernel
theorem d_Model_rest_61 : decode b_Model_rest 61 = .ok (.ireturn, 1) := by decide +kernel
section S_Model_rest
variable {p : Program} {l : Launch} {e : Env} {s : State} {m : MethodId} {args : Array Value} {below : List Frame} {meth : Method} {c : Code} {D : va_G} {cA : Nat → ClassId} {ad : Nat → Nat} {nC : Nat} {A : Nat → Prop} {r : Int32} {τ : St}
noncomputable def F_Model_rest_17 : Nat → St → Int32 → Int32 → Int32 → Option (Int32 × St)
  | 0, _, _, _, _ => none
  | n + 1, s0, v1, v2, v3 => (if (s0.1 0 0) ≤ v3 then (some (v2, s0)) else (if inB v3 6 = true then (if inB v3 6 = true then (lt (up1 s0 4 v3.toNatClampNeg (F_Model_within ((s0.1 4 v3.toNatClampNeg) + v1) (0 : Int32) (24 : Int32))) (fun s_5 => (if inB v3 6 = true then (F_Model_rest_17 n s_5 v1 (v2 + (s_5.1 4 v3.toNatClampNeg)) (v3 + 1)) else none))) else none) else none))
set_option maxHeartbeats 4000000 in
set_option maxRecDepth 100000 in
theorem q_Model_rest_17 (K : Fx p s m args meth c b_Model_rest 4 R_Model (some .int))  : ∀ (n : Nat), ∀ (H : Heap) (locs : List Loc) (ls : Array Slot) (s0 : St) (v1 : Int32) (v2 : Int32) (v3 : Int32), Wh D cA ad shM A s s0 H locs → lv_has ls 4 [(0, .ref (ad 0)), (1, .int v1), (2, .int v2), (3, .int v3)] → F_Model_rest_17 n s0 v1 v2 v3 = (some (r, τ)) → W p l e rm_Model_rest s m args below meth c H locs 0 0 (MQ below (QcI D cA ad shM A r τ) args s 0 0 A) (F0 m 17 ls []) := by
  have hx := K.1.1; have hb := K.1.2.1
  intro n
  induction n with
  | zero =>
    intro H locs ls s0 v1 v2 v3 hw hl hF
    exact absurd hF (by rw [F_Model_rest_17]; exact nofun)
  | succ n ih =>
    intro H locs ls s0 v1 v2 v3 hw hl hF
    rw [F_Model_rest_17] at hF
    refine lv_iload_n hx hb d_Model_rest_17 rfl (lv_at hl 3 rfl) ?_
    refine lv_aload_n hx hb d_Model_rest_18 rfl (lv_at hl 0 rfl) ?_
    refine r_get (v := .int (s0.1 0 0)) K hw i_Model sh_Model rfl 0 (by decide) w_1025 rfl rfl rfl d_Model_rest_19 ?_
    refine lv_icmp_ge (tgt := 60) hx hb d_Model_rest_22 (by decide) (fun c_2 => ?_) (fun c_2 => ?_)
    · replace hF := ifT hF c_2
      refine lv_iload_n hx hb d_Model_rest_60 rfl (lv_at hl 2 rfl) ?_
      obtain ⟨hF, hG⟩ := sE2 hF
      subst hF
      subst hG
      exact r_iret K hw d_Model_rest_61
    · replace hF := ifF hF c_2
      refine lv_aload_n hx hb d_Model_rest_25 rfl (lv_at hl 0 rfl) ?_
      refine r_get (v := .ref (ad 4)) K hw i_Model sh_Model rfl 4 (by decide) w_1029 rfl rfl rfl d_Model_rest_26 ?_
      refine lv_iload_n hx hb d_Model_rest_29 rfl (lv_at hl 3 rfl) ?_
      refine lv_aload_n hx hb d_Model_rest_30 rfl (lv_at hl 0 rfl) ?_
      refine r_get (v := .ref (ad 4)) K hw i_Model sh_Model rfl 4 (by decide) w_1029 rfl rfl rfl d_Model_rest_31 ?_
      refine lv_iload_n hx hb d_Model_rest_34 rfl (lv_at hl 3 rfl) ?_
      obtain ⟨g_3, hF⟩ := ifG hF
      refine r_iald (k := v3.toNatClampNeg) K hw (show shM[4]? = some (.inr (.inl 6)) from rfl) rfl (inB_vp g_3) d_Model_rest_35 ?_
      refine lv_iload_n hx hb d_Model_rest_36 rfl (lv_at hl 1 rfl) ?_
      refine lv_iadd hx hb d_Model_rest_37 ?_
      refine lv_iconst (v := 0) hx hb d_Model_rest_38 (by decide) ?_
      refine lv_bipush (v := 24) hx hb d_Model_rest_39 (by decide) ?_
      refine r_callSI (As := [.int ((s0.1 4 v3.toNatClampNeg) + v1), .int (0 : Int32), .int (24 : Int32)]) (rest := [.int v3, .ref (ad 4)]) K hw hl.1 (c_Model_within (l := l) (D := D) (cA := cA) (ad := ad) (s0 := s0)   rfl) (tb_gS w_1196 w_1197 w_80 w_1198) a_Model_within ⟨rfl, rfl, Nat.le_of_ble_eq_true rfl, Nat.le_of_ble_eq_true rfl⟩ rfl rfl (Nat.le_of_ble_eq_true rfl) d_Model_rest_41 (fun H locs hw => ?_)
      obtain ⟨g_4, hF⟩ := ifG hF
      refine r_iast (k := v3.toNatClampNeg) K hw (show shM[4]? = some (.inr (.inl 6)) from rfl) rfl (inB_vp g_4) d_Model_rest_44 (fun s_5 f_s_5 H locs hw => ?_)
      replace hF := ltN hF f_s_5
      refine lv_iload_n hx hb d_Model_rest_45 rfl (lv_at hl 2 rfl) ?_
      refine lv_aload_n hx hb d_Model_rest_46 rfl (lv_at hl 0 rfl) ?_
      refine r_get (v := .ref (ad 4)) K hw i_Model sh_Model rfl 4 (by decide) w_1029 rfl rfl rfl d_Model_rest_47 ?_
      refine lv_iload_n hx hb d_Model_rest_50 rfl (lv_at hl 3 rfl) ?_
      obtain ⟨g_6, hF⟩ := ifG hF
      refine r_iald (k := v3.toNatClampNeg) K hw (show shM[4]? = some (.inr (.inl 6)) from rfl) rfl (inB_vp g_6) d_Model_rest_51 ?_
      refine lv_iadd hx hb d_Model_rest_52 ?_
      refine lv_istore_n (lv' := [(2, .int (v2 + (s_5.1 4 v3.toNatClampNeg))), (0, .ref (ad 0)), (1, .int v1), (3, .int v3)]) hx hb d_Model_rest_53 rfl hl (by decide) rfl (fun ls hl => ?_)
      refine lv_iinc (v := (v3 + 1)) (lv' := [(3, .int (v3 + 1)), (2, .int (v2 + (s_5.1 4 v3.toNatClampNeg))), (0, .ref (ad 0)), (1, .int v1)]) hx hb d_Model_rest_54 hl (k := 3) rfl rfl (by decide) rfl (fun ls hl => ?_)
      refine lv_goto (tgt := 17) hx hb d_Model_rest_57 (by decide) ?_
      exact ih _ _ _ _ _ _ _  hw (lv_sub hl [2, 3, 1, 0] rfl) hF
noncomputable def F_Model_rest_0 (s0 : St) (v1 : Int32) : Option (Int32 × St) := (if ¬ (F_Model_in v1 (0 : Int32) (24 : Int32)) = 0 then (F_Model_rest_17 FU s0 v1 (0 : Int32) (0 : Int32)) else (some ((-2 : Int32), s0)))
set_option maxHeartbeats 4000000 in
set_option maxRecDepth 100000 in
theorem q_Model_rest_0 (K : Fx p s m args meth c b_Model_rest 4 R_Model (some .int))  : ∀ (H : Heap) (locs : List Loc) (ls : Array Slot) (s0 : St) (v1 : Int32), Wh D cA ad shM A s s0 H locs → lv_has ls 4 [(0, .ref (ad 0)), (1, .int v1)] → F_Model_rest_0 s0 v1 = (some (r, τ)) → W p l e rm_Model_rest s m args below meth c H locs 0 0 (MQ below (QcI D cA ad shM A r τ) args s 0 0 A) (F0 m 0 ls []) := by
  have hx := K.1.1; have hb := K.1.2.1
  intro H locs ls s0 v1 hw hl hF
  unfold F_Model_rest_0 at hF
  refine lv_iload_n hx hb d_Model_rest_0 rfl (lv_at hl 1 rfl) ?_
  refine lv_iconst (v := 0) hx hb d_Model_rest_1 (by decide) ?_
  refine lv_bipush (v := 24) hx hb d_Model_rest_2 (by decide) ?_
  refine r_callSI (As := [.int v1, .int (0 : Int32), .int (24 : Int32)]) (rest := []) K hw hl.1 (c_Model_in (l := l) (D := D) (cA := cA) (ad := ad) (s0 := s0)   rfl) (tb_gS w_986 w_987 w_80 w_988) a_Model_in ⟨rfl, rfl, Nat.le_of_ble_eq_true rfl, Nat.le_of_ble_eq_true rfl⟩ rfl rfl (Nat.le_of_ble_eq_true rfl) d_Model_rest_4 (fun H locs hw => ?_)
  refine lv_if_ne (tgt := 13) hx hb d_Model_rest_7 (by decide) (fun c_1 => ?_) (fun c_1 => ?_)
  · replace hF := ifT hF c_1
    refine lv_iconst (v := 0) hx hb d_Model_rest_13 (by decide) ?_
    refine lv_istore_n (lv' := [(2, .int (0 : Int32)), (0, .ref (ad 0)), (1, .int v1)]) hx hb d_Model_rest_14 rfl hl (by decide) rfl (fun ls hl => ?_)
    refine lv_iconst (v := 0) hx hb d_Model_rest_15 (by decide) ?_
    refine lv_istore_n (lv' := [(3, .int (0 : Int32)), (2, .int (0 : Int32)), (0, .ref (ad 0)), (1, .int v1)]) hx hb d_Model_rest_16 rfl hl (by decide) rfl (fun ls hl => ?_)
    exact q_Model_rest_17 K FU _ _ _ _ _ _ _  hw (lv_sub hl [2, 3, 1, 0] rfl) hF
  · replace hF := ifN hF c_1
    refine lv_bipush (v := -2) hx hb d_Model_rest_10 (by decide) ?_
    obtain ⟨hF, hG⟩ := sE2 hF
    subst hF
    subst hG
    exact r_iret K hw d_Model_rest_12
end S_Model_rest
noncomputable abbrev F_Model_rest := F_Model_rest_0
theorem c_Model_rest {l : Launch} {D : va_G} {cA : Nat → ClassId} {ad : Nat → Nat} {s0 τ : St} {r : Int32} {v1 : Int32}  (hF : F_Model_rest s0 v1 = (some (r, τ))) : MI l D cA ad shM y_Model_rest (wT y_Model_rest b_Model_rest 4 (some .int)) rm_Model_rest [.ref (ad 0), .int v1] s0 r τ := fun sz => m_start (Qc := fun A => QcI D cA ad shM A r τ) (by decide +kernel) w_1272 (Nat.le_of_ble_eq_true rfl) (fun p e s m below meth c ls K hl hw => q_Model_rest_0 K _ _ _ _ _  hw hl hF)

/-! Model.planNumber(I)I -/
abbrev b_Model_planNumber : ByteArray := prog_13_method_45_code
def y_Model_planNumber : MethodName := ⟨R_Model, "planNumbe\x72", "(I)I"⟩
theorem a_Model_planNumber : y_Model_planNumber.cls = R_Model ∧ y_Model_planNumber.cls ≠ "java/lang/invoke/MethodHandle" ∧ y_Model_planNumber.cls ≠ "java/lang/invoke/VarHandle" ∧ (parseMethodDescriptor y_Model_planNumber.desc).map (fun d => d.parameters.length) = some 1 := by decide +kernel
abbrev rm_Model_planNumber : Room := { frames := 0, cells := 0, slots := 0, locals := 0 }
theorem w_1283 : Cond.code y_Model_planNumber b_Model_planNumber 1 (some .int) ∈ TB := tb_in 1283 (by decide +kernel) (by decide +kernel)
theorem d_Model_planNumber_0 : decode b_Model_planNumber 0 = .ok (.iload_n 0, 1) := by decide +kernel
theorem d_Model_planNumber_1 : decode b_Model_planNumber 1 = .ok (.bipush 64, 2) := by decide +kernel
theorem d_Model_planNumber_3 : decode b_Model_planNumber 3 = .ok (.idiv, 1) := by decide +kernel
theorem d_Model_planNumber_4 : decode b_Model_planNumber 4 = .ok (.sipush 1000, 3) := by decide +kernel
theorem d_Model_planNumber_7 : decode b_Model_planNumber 7 = .ok (.imul, 1) := by decide +kernel
theorem d_Model_planNumber_8 : decode b_Model_planNumber 8 = .ok (.iload_n 0, 1) := by decide +kernel
theorem d_Model_planNumber_9 : decode b_Model_planNumber 9 = .ok (.bipush 16, 2) := by decide +kernel
theorem d_Model_planNumber_11 : decode b_Model_planNumber 11 = .ok (.idiv, 1) := by decide +kernel
theorem d_Model_planNumber_12 : decode b_Model_planNumber 12 = .ok (.iconst 4, 1) := by decide +kernel
theorem d_Model_planNumber_13 : decode b_Model_planNumber 13 = .ok (.irem, 1) := by decide +kernel
theorem d_Model_planNumber_14 : decode b_Model_planNumber 14 = .ok (.bipush 100, 2) := by decide +kernel
theorem d_Model_planNumber_16 : decode b_Model_planNumber 16 = .ok (.imul, 1) := by decide +kernel
theorem d_Model_planNumber_17 : decode b_Model_planNumber 17 = .ok (.iadd, 1) := by decide +kernel
theorem d_Model_planNumber_18 : decode b_Model_planNumber 18 = .ok (.iload_n 0, 1) := by decide +kernel
theorem d_Model_planNumber_19 : decode b_Model_planNumber 19 = .ok (.iconst 4, 1) := by decide +kernel
theorem d_Model_planNumber_20 : decode b_Model_planNumber 20 = .ok (.idiv, 1) := by decide +kernel
theorem d_Model_planNumber_21 : decode b_Model_planNumber 21 = .ok (.iconst 4, 1) := by decide +kernel
theorem d_Model_planNumber_22 : decode b_Model_planNumber 22 = .ok (.irem, 1) := by decide +kernel
theorem d_Model_planNumber_23 : decode b_Model_planNumber 23 = .ok (.bipush 10, 2) := by decide +kernel
theorem d_Model_planNumber_25 : decode b_Model_planNumber 25 = .ok (.imul, 1) := by decide +kernel
theorem d_Model_planNumber_26 : decode b_Model_planNumber 26 = .ok (.iadd, 1) := by decide +kernel
theorem d_Model_planNumber_27 : decode b_Model_planNumber 27 = .ok (.iload_n 0, 1) := by decide +kernel
theorem d_Model_planNumber_28 : decode b_Model_planNumber 28 = .ok (.iconst 4, 1) := by decide +kernel
theorem d_Model_planNumber_29 : decode b_Model_planNumber 29 = .ok (.irem, 1) := by decide +kernel
theorem d_Model_planNumber_30 : decode b_Model_planNumber 30 = .ok (.iadd, 1) := by decide +kernel
theorem d_Model_planNumber_31 : decode b_Model_planNumber 31 = .ok (.ireturn, 1) := by decide +kernel
section S_Model_planNumber
variable {p : Program} {l : Launch} {e : Env} {s : State} {m : MethodId} {args : Array Value} {below : List Frame} {meth : Method} {c : Code} {D : va_G} {cA : Nat → ClassId} {ad : Nat → Nat} {nC : Nat} {A : Nat → Prop} {r : Int32} {τ : St}
noncomputable def F_Model_planNumber_0 (v0 : Int32) : Int32 := (((((v0 / (64 : Int32)) * (1000 : Int32)) + ((jrem (v0 / (16 : Int32)) (4 : Int32)) * (100 : Int32))) + ((jrem (v0 / (4 : Int32)) (4 : Int32)) * (10 : Int32))) + (jrem v0 (4 : Int32)))
set_option maxHeartbeats 4000000 in
set_option maxRecDepth 100000 in
theorem q_Model_planNumber_0 (s0 : St) (K : Fx p s m args meth c b_Model_planNumber 1 R_Model (some .int))  : ∀ (H : Heap) (locs : List Loc) (ls : Array Slot) (v0 : Int32), Wh D cA ad shM A s s0 H locs → lv_has ls 1 [(0, .int v0)] → F_Model_planNumber_0 v0 = r → W p l e rm_Model_planNumber s m args below meth c H locs 0 0 (MQ below (QcI D cA ad shM A r s0) args s 0 0 A) (F0 m 0 ls []) := by
  have hx := K.1.1; have hb := K.1.2.1
  intro H locs ls v0 hw hl hF
  unfold F_Model_planNumber_0 at hF
  refine lv_iload_n hx hb d_Model_planNumber_0 rfl (lv_at hl 0 rfl) ?_
  refine lv_bipush (v := 64) hx hb d_Model_planNumber_1 (by decide) ?_
  refine lv_idiv hx hb d_Model_planNumber_3 (by decide) ?_
  refine lv_sipush (v := 1000) hx hb d_Model_planNumber_4 (by decide) ?_
  refine lv_imul hx hb d_Model_planNumber_7 ?_
  refine lv_iload_n hx hb d_Model_planNumber_8 rfl (lv_at hl 0 rfl) ?_
  refine lv_bipush (v := 16) hx hb d_Model_planNumber_9 (by decide) ?_
  refine lv_idiv hx hb d_Model_planNumber_11 (by decide) ?_
  refine lv_iconst (v := 4) hx hb d_Model_planNumber_12 (by decide) ?_
  refine lv_irem hx hb d_Model_planNumber_13 (by decide) ?_
  refine lv_bipush (v := 100) hx hb d_Model_planNumber_14 (by decide) ?_
  refine lv_imul hx hb d_Model_planNumber_16 ?_
  refine lv_iadd hx hb d_Model_planNumber_17 ?_
  refine lv_iload_n hx hb d_Model_planNumber_18 rfl (lv_at hl 0 rfl) ?_
  refine lv_iconst (v := 4) hx hb d_Model_planNumber_19 (by decide) ?_
  refine lv_idiv hx hb d_Model_planNumber_20 (by decide) ?_
  refine lv_iconst (v := 4) hx hb d_Model_planNumber_21 (by decide) ?_
  refine lv_irem hx hb d_Model_planNumber_22 (by decide) ?_
  refine lv_bipush (v := 10) hx hb d_Model_planNumber_23 (by decide) ?_
  refine lv_imul hx hb d_Model_planNumber_25 ?_
  refine lv_iadd hx hb d_Model_planNumber_26 ?_
  refine lv_iload_n hx hb d_Model_planNumber_27 rfl (lv_at hl 0 rfl) ?_
  refine lv_iconst (v := 4) hx hb d_Model_planNumber_28 (by decide) ?_
  refine lv_irem hx hb d_Model_planNumber_29 (by decide) ?_
  refine lv_iadd hx hb d_Model_planNumber_30 ?_
  subst hF
  exact r_iret K hw d_Model_planNumber_31
end S_Model_planNumber
noncomputable abbrev F_Model_planNumber := F_Model_planNumber_0
theorem c_Model_planNumber {l : Launch} {D : va_G} {cA : Nat → ClassId} {ad : Nat → Nat} {s0 : St} {r : Int32} {v0 : Int32}  (hF : F_Model_planNumber v0 = r) : MI l D cA ad shM y_Model_planNumber (wT y_Model_planNumber b_Model_planNumber 1 (some .int)) rm_Model_planNumber [.int v0] s0 r s0 := fun sz => m_start (Qc := fun A => QcI D cA ad shM A r s0) (by decide +kernel) w_1283 (Nat.le_of_ble_eq_true rfl) (fun p e s m below meth c ls K hl hw => q_Model_planNumber_0 s0 K _ _ _ _  hw hl hF)

/-! Model.findsBest(II)V -/
abbrev b_Model_findsBest : ByteArray := prog_13_method_46_code
def y_Model_findsBest : MethodName := ⟨R_Model, "findsBest", "(II)V"⟩
theorem a_Model_findsBest : y_Model_findsBest.cls = R_Model ∧ y_Model_findsBest.cls ≠ "java/lang/invoke/MethodHandle" ∧ y_Model_findsBest.cls ≠ "java/lang/invoke/VarHandle" ∧ (parseMethodDescriptor y_Model_findsBest.desc).map (fun d => d.parameters.length) = some 2 := by decide +kernel
abbrev rm_Model_findsBest : Room := { frames := 7, cells := 0, slots := 0, locals := 175 }
theorem w_1064 : Cond.fieldLink R_Model 226 R_Model "bestPlan" "I" ∈ TB := tb_in 1064 (by decide +kernel) (by decide +kernel)
theorem w_1281 : Cond.methodLink R_Model 229 y_Model_planNumber ∈ TB := tb_in 1281 (by decide +kernel) (by decide +kernel)
theorem w_1282 : Cond.static y_Model_planNumber ∈ TB := tb_in 1282 (by decide +kernel) (by decide +kernel)
theorem w_1065 : Cond.fieldLink R_Model 232 R_Model "bestOve\x72" "I" ∈ TB := tb_in 1065 (by decide +kernel) (by decide +kernel)
theorem w_1066 : Cond.fieldLink R_Model 235 R_Model "bestHold" "I" ∈ TB := tb_in 1066 (by decide +kernel) (by decide +kernel)
theorem w_1280 : Cond.code y_Model_findsBest b_Model_findsBest 5 none ∈ TB := tb_in 1280 (by decide +kernel) (by decide +kernel)
theorem d_Model_findsBest_0 : decode b_Model_findsBest 0 = .ok (.aload_n 0, 1) := by decide +kernel
theorem d_Model_findsBest_1 : decode b_Model_findsBest 1 = .ok (.getfield 22, 3) := by decide +kernel
theorem d_Model_findsBest_4 : decode b_Model_findsBest 4 = .ok (.iload_n 1, 1) := by decide +kernel
theorem d_Model_findsBest_5 : decode b_Model_findsBest 5 = .ok (.iaload, 1) := by decide +kernel
theorem d_Model_findsBest_6 : decode b_Model_findsBest 6 = .ok (.istore_n 3, 1) := by decide +kernel
theorem d_Model_findsBest_7 : decode b_Model_findsBest 7 = .ok (.aload_n 0, 1) := by decide +kernel
theorem d_Model_findsBest_8 : decode b_Model_findsBest 8 = .ok (.iconst (-1), 1) := by decide +kernel
theorem d_Model_findsBest_9 : decode b_Model_findsBest 9 = .ok (.putfield 226, 3) := by decide +kernel
theorem d_Model_findsBest_12 : decode b_Model_findsBest 12 = .ok (.iconst 0, 1) := by decide +kernel
theorem d_Model_findsBest_13 : decode b_Model_findsBest 13 = .ok (.istore 4, 2) := by decide +kernel
theorem d_Model_findsBest_15 : decode b_Model_findsBest 15 = .ok (.iload 4, 2) := by decide +kernel
theorem d_Model_findsBest_17 : decode b_Model_findsBest 17 = .ok (.sipush 256, 3) := by decide +kernel
theorem d_Model_findsBest_20 : decode b_Model_findsBest 20 = .ok (.if_icmp .ge 93, 3) := by decide +kernel
theorem d_Model_findsBest_23 : decode b_Model_findsBest 23 = .ok (.aload_n 0, 1) := by decide +kernel
theorem d_Model_findsBest_24 : decode b_Model_findsBest 24 = .ok (.getfield 22, 3) := by decide +kernel
theorem d_Model_findsBest_27 : decode b_Model_findsBest 27 = .ok (.iload_n 1, 1) := by decide +kernel
theorem d_Model_findsBest_28 : decode b_Model_findsBest 28 = .ok (.iload 4, 2) := by decide +kernel
theorem d_Model_findsBest_30 : decode b_Model_findsBest 30 = .ok (.invokestatic 229, 3) := by decide +kernel
theorem d_Model_findsBest_33 : decode b_Model_findsBest 33 = .ok (.iastore, 1) := by decide +kernel
theorem d_Model_findsBest_34 : decode b_Model_findsBest 34 = .ok (.aload_n 0, 1) := by decide +kernel
theorem d_Model_findsBest_35 : decode b_Model_findsBest 35 = .ok (.iload_n 1, 1) := by decide +kernel
theorem d_Model_findsBest_36 : decode b_Model_findsBest 36 = .ok (.iload_n 2, 1) := by decide +kernel
theorem d_Model_findsBest_37 : decode b_Model_findsBest 37 = .ok (.invokevirtual 216, 3) := by decide +kernel
theorem d_Model_findsBest_40 : decode b_Model_findsBest 40 = .ok (.aload_n 0, 1) := by decide +kernel
theorem d_Model_findsBest_41 : decode b_Model_findsBest 41 = .ok (.getfield 226, 3) := by decide +kernel
theorem d_Model_findsBest_44 : decode b_Model_findsBest 44 = .ok (.iconst (-1), 1) := by decide +kernel
theorem d_Model_findsBest_45 : decode b_Model_findsBest 45 = .ok (.if_icmp .eq 36, 3) := by decide +kernel
theorem d_Model_findsBest_48 : decode b_Model_findsBest 48 = .ok (.aload_n 0, 1) := by decide +kernel
theorem d_Model_findsBest_49 : decode b_Model_findsBest 49 = .ok (.getfield 187, 3) := by decide +kernel
theorem d_Model_findsBest_52 : decode b_Model_findsBest 52 = .ok (.aload_n 0, 1) := by decide +kernel
theorem d_Model_findsBest_53 : decode b_Model_findsBest 53 = .ok (.getfield 232, 3) := by decide +kernel
theorem d_Model_findsBest_56 : decode b_Model_findsBest 56 = .ok (.if_icmp .gt 25, 3) := by decide +kernel
theorem d_Model_findsBest_59 : decode b_Model_findsBest 59 = .ok (.aload_n 0, 1) := by decide +kernel
theorem d_Model_findsBest_60 : decode b_Model_findsBest 60 = .ok (.getfield 187, 3) := by decide +kernel
theorem d_Model_findsBest_63 : decode b_Model_findsBest 63 = .ok (.aload_n 0, 1) := by decide +kernel
theorem d_Model_findsBest_64 : decode b_Model_findsBest 64 = .ok (.getfield 232, 3) := by decide +kernel
theorem d_Model_findsBest_67 : decode b_Model_findsBest 67 = .ok (.if_icmp .ne 40, 3) := by decide +kernel
theorem d_Model_findsBest_70 : decode b_Model_findsBest 70 = .ok (.aload_n 0, 1) := by decide +kernel
theorem d_Model_findsBest_71 : decode b_Model_findsBest 71 = .ok (.getfield 184, 3) := by decide +kernel
theorem d_Model_findsBest_74 : decode b_Model_findsBest 74 = .ok (.aload_n 0, 1) := by decide +kernel
theorem d_Model_findsBest_75 : decode b_Model_findsBest 75 = .ok (.getfield 235, 3) := by decide +kernel
theorem d_Model_findsBest_78 : decode b_Model_findsBest 78 = .ok (.if_icmp .le 29, 3) := by decide +kernel
theorem d_Model_findsBest_81 : decode b_Model_findsBest 81 = .ok (.aload_n 0, 1) := by decide +kernel
theorem d_Model_findsBest_82 : decode b_Model_findsBest 82 = .ok (.aload_n 0, 1) := by decide +kernel
theorem d_Model_findsBest_83 : decode b_Model_findsBest 83 = .ok (.getfield 22, 3) := by decide +kernel
theorem d_Model_findsBest_86 : decode b_Model_findsBest 86 = .ok (.iload_n 1, 1) := by decide +kernel
theorem d_Model_findsBest_87 : decode b_Model_findsBest 87 = .ok (.iaload, 1) := by decide +kernel
theorem d_Model_findsBest_88 : decode b_Model_findsBest 88 = .ok (.putfield 226, 3) := by decide +kernel
theorem d_Model_findsBest_91 : decode b_Model_findsBest 91 = .ok (.aload_n 0, 1) := by decide +kernel
theorem d_Model_findsBest_92 : decode b_Model_findsBest 92 = .ok (.aload_n 0, 1) := by decide +kernel
theorem d_Model_findsBest_93 : decode b_Model_findsBest 93 = .ok (.getfield 187, 3) := by decide +kernel
theorem d_Model_findsBest_96 : decode b_Model_findsBest 96 = .ok (.putfield 232, 3) := by decide +kernel
theorem d_Model_findsBest_99 : decode b_Model_findsBest 99 = .ok (.aload_n 0, 1) := by decide +kernel
theorem d_Model_findsBest_100 : decode b_Model_findsBest 100 = .ok (.aload_n 0, 1) := by decide +kernel
theorem d_Model_findsBest_101 : decode b_Model_findsBest 101 = .ok (.getfield 184, 3) := by decide +kernel
theorem d_Model_findsBest_104 : decode b_Model_findsBest 104 = .ok (.putfield 235, 3) := by decide +kernel
theorem d_Model_findsBest_107 : decode b_Model_findsBest 107 = .ok (.iinc 4 1, 3) := by decide +kernel
theorem d_Model_findsBest_110 : decode b_Model_findsBest 110 = .ok (.goto (-95), 3) := by decide +kernel
theorem d_Model_findsBest_113 : decode b_Model_findsBest 113 = .ok (.aload_n 0, 1) := by decide +kernel
theorem d_Model_findsBest_114 : decode b_Model_findsBest 114 = .ok (.getfield 22, 3) := by decide +kernel
theorem d_Model_findsBest_117 : decode b_Model_findsBest 117 = .ok (.iload_n 1, 1) := by decide +kernel
theorem d_Model_findsBest_118 : decode b_Model_findsBest 118 = .ok (.iload_n 3, 1) := by decide +kernel
theorem d_Model_findsBest_119 : decode b_Model_findsBest 119 = .ok (.iastore, 1) := by decide +kernel
theorem d_Model_findsBest_120 : decode b_Model_findsBest 120 = .ok (.return_, 1) := by decide +kernel
section S_Model_findsBest
variable {p : Program} {l : Launch} {e : Env} {s : State} {m : MethodId} {args : Array Value} {below : List Frame} {meth : Method} {c : Code} {D : va_G} {cA : Nat → ClassId} {ad : Nat → Nat} {nC : Nat} {A : Nat → Prop} {τ : St}
noncomputable def F_Model_findsBest_107 (k10 : (St → Int32 → Int32 → Int32 → Int32 → Option St)) (s0 : St) (v1 : Int32) (v2 : Int32) (v3 : Int32) (v4 : Int32) : Option St := (k10 s0 v1 v2 v3 (v4 + 1))
set_option maxHeartbeats 4000000 in
set_option maxRecDepth 100000 in
theorem q_Model_findsBest_107 (K : Fx p s m args meth c b_Model_findsBest 5 R_Model none) (k10 : (St → Int32 → Int32 → Int32 → Int32 → Option St)) (hk10 : ∀ (H : Heap) (locs : List Loc) (ls : Array Slot) (s0 : St) (v1 : Int32) (v2 : Int32) (v3 : Int32) (v4 : Int32), Wh D cA ad shM A s s0 H locs → lv_has ls 5 [(0, .ref (ad 0)), (1, .int v1), (2, .int v2), (3, .int v3), (4, .int v4)] → k10 s0 v1 v2 v3 v4 = (some τ) → W p l e rm_Model_findsBest s m args below meth c H locs 0 0 (MQ below (QcV D cA ad shM A τ) args s 0 0 A) (F0 m 15 ls [])) : ∀ (H : Heap) (locs : List Loc) (ls : Array Slot) (s0 : St) (v1 : Int32) (v2 : Int32) (v3 : Int32) (v4 : Int32), Wh D cA ad shM A s s0 H locs → lv_has ls 5 [(0, .ref (ad 0)), (1, .int v1), (2, .int v2), (3, .int v3), (4, .int v4)] → F_Model_findsBest_107 k10 s0 v1 v2 v3 v4 = (some τ) → W p l e rm_Model_findsBest s m args below meth c H locs 0 0 (MQ below (QcV D cA ad shM A τ) args s 0 0 A) (F0 m 107 ls []) := by
  have hx := K.1.1; have hb := K.1.2.1
  intro H locs ls s0 v1 v2 v3 v4 hw hl hF
  unfold F_Model_findsBest_107 at hF
  refine lv_iinc (v := (v4 + 1)) (lv' := [(4, .int (v4 + 1)), (0, .ref (ad 0)), (1, .int v1), (2, .int v2), (3, .int v3)]) hx hb d_Model_findsBest_107 hl (k := 4) rfl rfl (by decide) rfl (fun ls hl => ?_)
  refine lv_goto (tgt := 15) hx hb d_Model_findsBest_110 (by decide) ?_
  exact hk10 _ _ _ _ _ _ _ _  hw (lv_sub hl [1, 2, 3, 4, 0] rfl) hF
noncomputable def F_Model_findsBest_81 (k10 : (St → Int32 → Int32 → Int32 → Int32 → Option St)) (s0 : St) (v1 : Int32) (v2 : Int32) (v3 : Int32) (v4 : Int32) : Option St := (if inB v1 6 = true then (lt (up1 s0 0 39 (s0.1 5 v1.toNatClampNeg)) (fun s_11 => (lt (up1 s_11 0 40 (s_11.1 0 32)) (fun s_12 => (lt (up1 s_12 0 41 (s_12.1 0 33)) (fun s_13 => (F_Model_findsBest_107 k10 s_13 v1 v2 v3 v4))))))) else none)
set_option maxHeartbeats 4000000 in
set_option maxRecDepth 100000 in
theorem q_Model_findsBest_81 (K : Fx p s m args meth c b_Model_findsBest 5 R_Model none) (k10 : (St → Int32 → Int32 → Int32 → Int32 → Option St)) (hk10 : ∀ (H : Heap) (locs : List Loc) (ls : Array Slot) (s0 : St) (v1 : Int32) (v2 : Int32) (v3 : Int32) (v4 : Int32), Wh D cA ad shM A s s0 H locs → lv_has ls 5 [(0, .ref (ad 0)), (1, .int v1), (2, .int v2), (3, .int v3), (4, .int v4)] → k10 s0 v1 v2 v3 v4 = (some τ) → W p l e rm_Model_findsBest s m args below meth c H locs 0 0 (MQ below (QcV D cA ad shM A τ) args s 0 0 A) (F0 m 15 ls [])) : ∀ (H : Heap) (locs : List Loc) (ls : Array Slot) (s0 : St) (v1 : Int32) (v2 : Int32) (v3 : Int32) (v4 : Int32), Wh D cA ad shM A s s0 H locs → lv_has ls 5 [(0, .ref (ad 0)), (1, .int v1), (2, .int v2), (3, .int v3), (4, .int v4)] → F_Model_findsBest_81 k10 s0 v1 v2 v3 v4 = (some τ) → W p l e rm_Model_findsBest s m args below meth c H locs 0 0 (MQ below (QcV D cA ad shM A τ) args s 0 0 A) (F0 m 81 ls []) := by
  have hx := K.1.1; have hb := K.1.2.1
  intro H locs ls s0 v1 v2 v3 v4 hw hl hF
  unfold F_Model_findsBest_81 at hF
  refine lv_aload_n hx hb d_Model_findsBest_81 rfl (lv_at hl 0 rfl) ?_
  refine lv_aload_n hx hb d_Model_findsBest_82 rfl (lv_at hl 0 rfl) ?_
  refine r_get (v := .ref (ad 5)) K hw i_Model sh_Model rfl 5 (by decide) w_1030 rfl rfl rfl d_Model_findsBest_83 ?_
  refine lv_iload_n hx hb d_Model_findsBest_86 rfl (lv_at hl 1 rfl) ?_
  obtain ⟨g_10, hF⟩ := ifG hF
  refine r_iald (k := v1.toNatClampNeg) K hw (show shM[5]? = some (.inr (.inl 6)) from rfl) rfl (inB_vp g_10) d_Model_findsBest_87 ?_
  refine r_putI K hw i_Model t_Model t_Model_ok n_Model sh_Model rfl 39 (by decide) w_1064 rfl rfl rfl rfl rfl d_Model_findsBest_88 (fun s_11 f_s_11 H locs hw => ?_)
  replace hF := ltN hF f_s_11
  refine lv_aload_n hx hb d_Model_findsBest_91 rfl (lv_at hl 0 rfl) ?_
  refine lv_aload_n hx hb d_Model_findsBest_92 rfl (lv_at hl 0 rfl) ?_
  refine r_get (v := .int (s_11.1 0 32)) K hw i_Model sh_Model rfl 32 (by decide) w_1057 rfl rfl rfl d_Model_findsBest_93 ?_
  refine r_putI K hw i_Model t_Model t_Model_ok n_Model sh_Model rfl 40 (by decide) w_1065 rfl rfl rfl rfl rfl d_Model_findsBest_96 (fun s_12 f_s_12 H locs hw => ?_)
  replace hF := ltN hF f_s_12
  refine lv_aload_n hx hb d_Model_findsBest_99 rfl (lv_at hl 0 rfl) ?_
  refine lv_aload_n hx hb d_Model_findsBest_100 rfl (lv_at hl 0 rfl) ?_
  refine r_get (v := .int (s_12.1 0 33)) K hw i_Model sh_Model rfl 33 (by decide) w_1058 rfl rfl rfl d_Model_findsBest_101 ?_
  refine r_putI K hw i_Model t_Model t_Model_ok n_Model sh_Model rfl 41 (by decide) w_1066 rfl rfl rfl rfl rfl d_Model_findsBest_104 (fun s_13 f_s_13 H locs hw => ?_)
  replace hF := ltN hF f_s_13
  exact q_Model_findsBest_107 K k10 hk10 _ _ _ _ _ _ _ _  hw (lv_sub hl [0, 1, 2, 3, 4] rfl) hF
noncomputable def F_Model_findsBest_15 : Nat → St → Int32 → Int32 → Int32 → Int32 → Option St
  | 0, _, _, _, _, _ => none
  | n + 1, s0, v1, v2, v3, v4 => (if (256 : Int32) ≤ v4 then (if inB v1 6 = true then (lt (up1 s0 5 v1.toNatClampNeg v3) (fun s_5 => (some s_5))) else none) else (if inB v1 6 = true then (lt (up1 s0 5 v1.toNatClampNeg (F_Model_planNumber v4)) (fun s_7 => (ob1 (F_Model_bouts s_7 v1 v2) (fun s_8 => (if (s_8.1 0 39) = (-1 : Int32) then (F_Model_findsBest_81 (fun z0 zv1 zv2 zv3 zv4 => F_Model_findsBest_15 n z0 zv1 zv2 zv3 zv4) s_8 v1 v2 v3 v4) else (if (s_8.1 0 40) < (s_8.1 0 32) then (F_Model_findsBest_81 (fun z0 zv1 zv2 zv3 zv4 => F_Model_findsBest_15 n z0 zv1 zv2 zv3 zv4) s_8 v1 v2 v3 v4) else (if ¬ (s_8.1 0 32) = (s_8.1 0 40) then (F_Model_findsBest_107 (fun z0 zv1 zv2 zv3 zv4 => F_Model_findsBest_15 n z0 zv1 zv2 zv3 zv4) s_8 v1 v2 v3 v4) else (if (s_8.1 0 33) ≤ (s_8.1 0 41) then (F_Model_findsBest_107 (fun z0 zv1 zv2 zv3 zv4 => F_Model_findsBest_15 n z0 zv1 zv2 zv3 zv4) s_8 v1 v2 v3 v4) else (F_Model_findsBest_81 (fun z0 zv1 zv2 zv3 zv4 => F_Model_findsBest_15 n z0 zv1 zv2 zv3 zv4) s_8 v1 v2 v3 v4))))))))) else none))
set_option maxHeartbeats 4000000 in
set_option maxRecDepth 100000 in
theorem q_Model_findsBest_15 (K : Fx p s m args meth c b_Model_findsBest 5 R_Model none)  : ∀ (n : Nat), ∀ (H : Heap) (locs : List Loc) (ls : Array Slot) (s0 : St) (v1 : Int32) (v2 : Int32) (v3 : Int32) (v4 : Int32), Wh D cA ad shM A s s0 H locs → lv_has ls 5 [(0, .ref (ad 0)), (1, .int v1), (2, .int v2), (3, .int v3), (4, .int v4)] → F_Model_findsBest_15 n s0 v1 v2 v3 v4 = (some τ) → W p l e rm_Model_findsBest s m args below meth c H locs 0 0 (MQ below (QcV D cA ad shM A τ) args s 0 0 A) (F0 m 15 ls []) := by
  have hx := K.1.1; have hb := K.1.2.1
  intro n
  induction n with
  | zero =>
    intro H locs ls s0 v1 v2 v3 v4 hw hl hF
    exact absurd hF (by rw [F_Model_findsBest_15]; exact nofun)
  | succ n ih =>
    intro H locs ls s0 v1 v2 v3 v4 hw hl hF
    rw [F_Model_findsBest_15] at hF
    refine lv_iload hx hb d_Model_findsBest_15 (lv_at hl 4 rfl) ?_
    refine lv_sipush (v := 256) hx hb d_Model_findsBest_17 (by decide) ?_
    refine lv_icmp_ge (tgt := 113) hx hb d_Model_findsBest_20 (by decide) (fun c_3 => ?_) (fun c_3 => ?_)
    · replace hF := ifT hF c_3
      refine lv_aload_n hx hb d_Model_findsBest_113 rfl (lv_at hl 0 rfl) ?_
      refine r_get (v := .ref (ad 5)) K hw i_Model sh_Model rfl 5 (by decide) w_1030 rfl rfl rfl d_Model_findsBest_114 ?_
      refine lv_iload_n hx hb d_Model_findsBest_117 rfl (lv_at hl 1 rfl) ?_
      refine lv_iload_n hx hb d_Model_findsBest_118 rfl (lv_at hl 3 rfl) ?_
      obtain ⟨g_4, hF⟩ := ifG hF
      refine r_iast (k := v1.toNatClampNeg) K hw (show shM[5]? = some (.inr (.inl 6)) from rfl) rfl (inB_vp g_4) d_Model_findsBest_119 (fun s_5 f_s_5 H locs hw => ?_)
      replace hF := ltN hF f_s_5
      replace hF := sE1 hF
      subst hF
      exact r_vret K hw d_Model_findsBest_120
    · replace hF := ifF hF c_3
      refine lv_aload_n hx hb d_Model_findsBest_23 rfl (lv_at hl 0 rfl) ?_
      refine r_get (v := .ref (ad 5)) K hw i_Model sh_Model rfl 5 (by decide) w_1030 rfl rfl rfl d_Model_findsBest_24 ?_
      refine lv_iload_n hx hb d_Model_findsBest_27 rfl (lv_at hl 1 rfl) ?_
      refine lv_iload hx hb d_Model_findsBest_28 (lv_at hl 4 rfl) ?_
      refine r_callSI (As := [.int v4]) (rest := [.int v1, .ref (ad 5)]) K hw hl.1 (c_Model_planNumber (l := l) (D := D) (cA := cA) (ad := ad) (s0 := s0)   rfl) (tb_gS w_1281 w_1282 w_80 w_1283) a_Model_planNumber ⟨rfl, rfl, Nat.le_of_ble_eq_true rfl, Nat.le_of_ble_eq_true rfl⟩ rfl rfl (Nat.le_of_ble_eq_true rfl) d_Model_findsBest_30 (fun H locs hw => ?_)
      obtain ⟨g_6, hF⟩ := ifG hF
      refine r_iast (k := v1.toNatClampNeg) K hw (show shM[5]? = some (.inr (.inl 6)) from rfl) rfl (inB_vp g_6) d_Model_findsBest_33 (fun s_7 f_s_7 H locs hw => ?_)
      replace hF := ltN hF f_s_7
      refine lv_aload_n hx hb d_Model_findsBest_34 rfl (lv_at hl 0 rfl) ?_
      refine lv_iload_n hx hb d_Model_findsBest_35 rfl (lv_at hl 1 rfl) ?_
      refine lv_iload_n hx hb d_Model_findsBest_36 rfl (lv_at hl 2 rfl) ?_
      obtain ⟨s_8, h_s_8, hF⟩ := ob1E hF
      refine r_callVV (As := [.int v1, .int v2]) (rest := []) K hw hl.1 (c_Model_bouts (l := l) (D := D) (cA := cA) (ad := ad) (s0 := s_7)   h_s_8) sh_Model rfl (tb_gV w_1257 w_1259 w_50 w_80 w_1260) a_Model_bouts ⟨rfl, rfl, Nat.le_of_ble_eq_true rfl, Nat.le_of_ble_eq_true rfl⟩ rfl rfl (Nat.le_of_ble_eq_true rfl) d_Model_findsBest_37 (fun H locs hw => ?_)
      refine lv_aload_n hx hb d_Model_findsBest_40 rfl (lv_at hl 0 rfl) ?_
      refine r_get (v := .int (s_8.1 0 39)) K hw i_Model sh_Model rfl 39 (by decide) w_1064 rfl rfl rfl d_Model_findsBest_41 ?_
      refine lv_iconst (v := -1) hx hb d_Model_findsBest_44 (by decide) ?_
      refine lv_icmp_eq (tgt := 81) hx hb d_Model_findsBest_45 (by decide) (fun c_9 => ?_) (fun c_9 => ?_)
      · replace hF := ifT hF c_9
        exact q_Model_findsBest_81 K (fun z0 zv1 zv2 zv3 zv4 => F_Model_findsBest_15 n z0 zv1 zv2 zv3 zv4) ih _ _ _ _ _ _ _ _  hw (lv_sub hl [0, 1, 2, 3, 4] rfl) hF
      · replace hF := ifF hF c_9
        refine lv_aload_n hx hb d_Model_findsBest_48 rfl (lv_at hl 0 rfl) ?_
        refine r_get (v := .int (s_8.1 0 32)) K hw i_Model sh_Model rfl 32 (by decide) w_1057 rfl rfl rfl d_Model_findsBest_49 ?_
        refine lv_aload_n hx hb d_Model_findsBest_52 rfl (lv_at hl 0 rfl) ?_
        refine r_get (v := .int (s_8.1 0 40)) K hw i_Model sh_Model rfl 40 (by decide) w_1065 rfl rfl rfl d_Model_findsBest_53 ?_
        refine lv_icmp_gt (tgt := 81) hx hb d_Model_findsBest_56 (by decide) (fun c_14 => ?_) (fun c_14 => ?_)
        · replace hF := ifT hF c_14
          exact q_Model_findsBest_81 K (fun z0 zv1 zv2 zv3 zv4 => F_Model_findsBest_15 n z0 zv1 zv2 zv3 zv4) ih _ _ _ _ _ _ _ _  hw (lv_sub hl [0, 1, 2, 3, 4] rfl) hF
        · replace hF := ifF hF c_14
          refine lv_aload_n hx hb d_Model_findsBest_59 rfl (lv_at hl 0 rfl) ?_
          refine r_get (v := .int (s_8.1 0 32)) K hw i_Model sh_Model rfl 32 (by decide) w_1057 rfl rfl rfl d_Model_findsBest_60 ?_
          refine lv_aload_n hx hb d_Model_findsBest_63 rfl (lv_at hl 0 rfl) ?_
          refine r_get (v := .int (s_8.1 0 40)) K hw i_Model sh_Model rfl 40 (by decide) w_1065 rfl rfl rfl d_Model_findsBest_64 ?_
          refine lv_icmp_ne (tgt := 107) hx hb d_Model_findsBest_67 (by decide) (fun c_15 => ?_) (fun c_15 => ?_)
          · replace hF := ifT hF c_15
            exact q_Model_findsBest_107 K (fun z0 zv1 zv2 zv3 zv4 => F_Model_findsBest_15 n z0 zv1 zv2 zv3 zv4) ih _ _ _ _ _ _ _ _  hw (lv_sub hl [0, 1, 2, 3, 4] rfl) hF
          · replace hF := ifN hF c_15
            refine lv_aload_n hx hb d_Model_findsBest_70 rfl (lv_at hl 0 rfl) ?_
            refine r_get (v := .int (s_8.1 0 33)) K hw i_Model sh_Model rfl 33 (by decide) w_1058 rfl rfl rfl d_Model_findsBest_71 ?_
            refine lv_aload_n hx hb d_Model_findsBest_74 rfl (lv_at hl 0 rfl) ?_
            refine r_get (v := .int (s_8.1 0 41)) K hw i_Model sh_Model rfl 41 (by decide) w_1066 rfl rfl rfl d_Model_findsBest_75 ?_
            refine lv_icmp_le (tgt := 107) hx hb d_Model_findsBest_78 (by decide) (fun c_16 => ?_) (fun c_16 => ?_)
            · replace hF := ifT hF c_16
              exact q_Model_findsBest_107 K (fun z0 zv1 zv2 zv3 zv4 => F_Model_findsBest_15 n z0 zv1 zv2 zv3 zv4) ih _ _ _ _ _ _ _ _  hw (lv_sub hl [0, 1, 2, 3, 4] rfl) hF
            · replace hF := ifF hF c_16
              exact q_Model_findsBest_81 K (fun z0 zv1 zv2 zv3 zv4 => F_Model_findsBest_15 n z0 zv1 zv2 zv3 zv4) ih _ _ _ _ _ _ _ _  hw (lv_sub hl [0, 1, 2, 3, 4] rfl) hF
noncomputable def F_Model_findsBest_0 (s0 : St) (v1 : Int32) (v2 : Int32) : Option St := (if inB v1 6 = true then (lt (up1 s0 0 39 (-1 : Int32)) (fun s_2 => (F_Model_findsBest_15 FU s_2 v1 v2 (s0.1 5 v1.toNatClampNeg) (0 : Int32)))) else none)
set_option maxHeartbeats 4000000 in
set_option maxRecDepth 100000 in
theorem q_Model_findsBest_0 (K : Fx p s m args meth c b_Model_findsBest 5 R_Model none)  : ∀ (H : Heap) (locs : List Loc) (ls : Array Slot) (s0 : St) (v1 : Int32) (v2 : Int32), Wh D cA ad shM A s s0 H locs → lv_has ls 5 [(0, .ref (ad 0)), (1, .int v1), (2, .int v2)] → F_Model_findsBest_0 s0 v1 v2 = (some τ) → W p l e rm_Model_findsBest s m args below meth c H locs 0 0 (MQ below (QcV D cA ad shM A τ) args s 0 0 A) (F0 m 0 ls []) := by
  have hx := K.1.1; have hb := K.1.2.1
  intro H locs ls s0 v1 v2 hw hl hF
  unfold F_Model_findsBest_0 at hF
  refine lv_aload_n hx hb d_Model_findsBest_0 rfl (lv_at hl 0 rfl) ?_
  refine r_get (v := .ref (ad 5)) K hw i_Model sh_Model rfl 5 (by decide) w_1030 rfl rfl rfl d_Model_findsBest_1 ?_
  refine lv_iload_n hx hb d_Model_findsBest_4 rfl (lv_at hl 1 rfl) ?_
  obtain ⟨g_1, hF⟩ := ifG hF
  refine r_iald (k := v1.toNatClampNeg) K hw (show shM[5]? = some (.inr (.inl 6)) from rfl) rfl (inB_vp g_1) d_Model_findsBest_5 ?_
  refine lv_istore_n (lv' := [(3, .int (s0.1 5 v1.toNatClampNeg)), (0, .ref (ad 0)), (1, .int v1), (2, .int v2)]) hx hb d_Model_findsBest_6 rfl hl (by decide) rfl (fun ls hl => ?_)
  refine lv_aload_n hx hb d_Model_findsBest_7 rfl (lv_at hl 1 rfl) ?_
  refine lv_iconst (v := -1) hx hb d_Model_findsBest_8 (by decide) ?_
  refine r_putI K hw i_Model t_Model t_Model_ok n_Model sh_Model rfl 39 (by decide) w_1064 rfl rfl rfl rfl rfl d_Model_findsBest_9 (fun s_2 f_s_2 H locs hw => ?_)
  replace hF := ltN hF f_s_2
  refine lv_iconst (v := 0) hx hb d_Model_findsBest_12 (by decide) ?_
  refine lv_istore (lv' := [(4, .int (0 : Int32)), (3, .int (s0.1 5 v1.toNatClampNeg)), (0, .ref (ad 0)), (1, .int v1), (2, .int v2)]) hx hb d_Model_findsBest_13 hl (by decide) rfl (fun ls hl => ?_)
  exact q_Model_findsBest_15 K FU _ _ _ _ _ _ _ _  hw (lv_sub hl [2, 3, 4, 1, 0] rfl) hF
end S_Model_findsBest
noncomputable abbrev F_Model_findsBest := F_Model_findsBest_0
theorem c_Model_findsBest {l : Launch} {D : va_G} {cA : Nat → ClassId} {ad : Nat → Nat} {s0 τ : St} {v1 : Int32} {v2 : Int32}  (hF : F_Model_findsBest s0 v1 v2 = (some τ)) : MV l D cA ad shM y_Model_findsBest (wT y_Model_findsBest b_Model_findsBest 5 none) rm_Model_findsBest [.ref (ad 0), .int v1, .int v2] s0 τ := fun sz => m_start (Qc := fun A => QcV D cA ad shM A τ) (by decide +kernel) w_1280 (Nat.le_of_ble_eq_true rfl) (fun p e s m below meth c ls K hl hw => q_Model_findsBest_0 K _ _ _ _ _ _  hw hl hF)

/-! Model.best(III)I -/
abbrev b_Model_best : ByteArray := prog_13_method_47_code
def y_Model_best : MethodName := ⟨R_Model, "best", "(III)I"⟩
theorem a_Model_best : y_Model_best.cls = R_Model ∧ y_Model_best.cls ≠ "java/lang/invoke/MethodHandle" ∧ y_Model_best.cls ≠ "java/lang/invoke/VarHandle" ∧ (parseMethodDescriptor y_Model_best.desc).map (fun d => d.parameters.length) = some 3 := by decide +kernel
abbrev rm_Model_best : Room := { frames := 8, cells := 0, slots := 0, locals := 199 }
theorem w_1277 : Cond.methodLink R_Model 238 y_Model_findsBest ∈ TB := tb_in 1277 (by decide +kernel) (by decide +kernel)
theorem w_1279 : Cond.instanceMethod y_Model_findsBest ∈ TB := tb_in 1279 (by decide +kernel) (by decide +kernel)
theorem w_52 : Cond.selects R_Model y_Model_findsBest y_Model_findsBest ∈ TB := tb_in 52 (by decide +kernel) (by decide +kernel)
theorem w_1276 : Cond.code y_Model_best b_Model_best 4 (some .int) ∈ TB := tb_in 1276 (by decide +kernel) (by decide +kernel)
theorem d_Model_best_0 : decode b_Model_best 0 = .ok (.aload_n 0, 1) := by decide +kernel
theorem d_Model_best_1 : decode b_Model_best 1 = .ok (.iload_n 1, 1) := by decide +kernel
theorem d_Model_best_2 : decode b_Model_best 2 = .ok (.iload_n 2, 1) := by decide +kernel
theorem d_Model_best_3 : decode b_Model_best 3 = .ok (.invokevirtual 86, 3) := by decide +kernel
theorem d_Model_best_6 : decode b_Model_best 6 = .ok (.ifCond .ne 6, 3) := by decide +kernel
theorem d_Model_best_9 : decode b_Model_best 9 = .ok (.bipush (-100), 2) := by decide +kernel
theorem d_Model_best_11 : decode b_Model_best 11 = .ok (.ireturn, 1) := by decide +kernel
theorem d_Model_best_12 : decode b_Model_best 12 = .ok (.iload_n 3, 1) := by decide +kernel
theorem d_Model_best_13 : decode b_Model_best 13 = .ok (.iconst 0, 1) := by decide +kernel
theorem d_Model_best_14 : decode b_Model_best 14 = .ok (.iconst 2, 1) := by decide +kernel
theorem d_Model_best_15 : decode b_Model_best 15 = .ok (.invokestatic 78, 3) := by decide +kernel
theorem d_Model_best_18 : decode b_Model_best 18 = .ok (.ifCond .ne 7, 3) := by decide +kernel
theorem d_Model_best_21 : decode b_Model_best 21 = .ok (.sipush (-200), 3) := by decide +kernel
theorem d_Model_best_24 : decode b_Model_best 24 = .ok (.ireturn, 1) := by decide +kernel
theorem d_Model_best_25 : decode b_Model_best 25 = .ok (.aload_n 0, 1) := by decide +kernel
theorem d_Model_best_26 : decode b_Model_best 26 = .ok (.iload_n 1, 1) := by decide +kernel
theorem d_Model_best_27 : decode b_Model_best 27 = .ok (.iload_n 2, 1) := by decide +kernel
theorem d_Model_best_28 : decode b_Model_best 28 = .ok (.invokevirtual 238, 3) := by decide +kernel
theorem d_Model_best_31 : decode b_Model_best 31 = .ok (.iload_n 3, 1) := by decide +kernel
theorem d_Model_best_32 : decode b_Model_best 32 = .ok (.ifCond .ne 10, 3) := by decide +kernel
theorem d_Model_best_35 : decode b_Model_best 35 = .ok (.aload_n 0, 1) := by decide +kernel
theorem d_Model_best_36 : decode b_Model_best 36 = .ok (.getfield 226, 3) := by decide +kernel
theorem d_Model_best_39 : decode b_Model_best 39 = .ok (.goto 19, 3) := by decide +kernel
theorem d_Model_best_42 : decode b_Model_best 42 = .ok (.iload_n 3, 1) := by decide +kernel
theorem d_Model_best_43 : decode b_Model_best 43 = .ok (.iconst 1, 1) := by decide +kernel
theorem d_Model_best_44 : decode b_Model_best 44 = .ok (.if_icmp .ne 10, 3) := by decide +kernel
theorem d_Model_best_47 : decode b_Model_best 47 = .ok (.aload_n 0, 1) := by decide +kernel
theorem d_Model_best_48 : decode b_Model_best 48 = .ok (.getfield 232, 3) := by decide +kernel
theorem d_Model_best_51 : decode b_Model_best 51 = .ok (.goto 7, 3) := by decide +kernel
theorem d_Model_best_54 : decode b_Model_best 54 = .ok (.aload_n 0, 1) := by decide +kernel
theorem d_Model_best_55 : decode b_Model_best 55 = .ok (.getfield 235, 3) := by decide +kernel
theorem d_Model_best_58 : decode b_Model_best 58 = .ok (.ireturn, 1) := by decide +kernel
section S_Model_best
variable {p : Program} {l : Launch} {e : Env} {s : State} {m : MethodId} {args : Array Value} {below : List Frame} {meth : Method} {c : Code} {D : va_G} {cA : Nat → ClassId} {ad : Nat → Nat} {nC : Nat} {A : Nat → Prop} {r : Int32} {τ : St}
noncomputable def F_Model_best_0 (s0 : St) (v1 : Int32) (v2 : Int32) (v3 : Int32) : Option (Int32 × St) := (ob1 (F_Model_areTwo s0 v1 v2) (fun r_1 => (if ¬ r_1 = 0 then (if ¬ (F_Model_in v3 (0 : Int32) (2 : Int32)) = 0 then (ob1 (F_Model_findsBest s0 v1 v2) (fun s_4 => (if ¬ v3 = 0 then (if ¬ v3 = (1 : Int32) then (some ((s_4.1 0 41), s_4)) else (some ((s_4.1 0 40), s_4))) else (some ((s_4.1 0 39), s_4))))) else (some ((-200 : Int32), s0))) else (some ((-100 : Int32), s0)))))
set_option maxHeartbeats 4000000 in
set_option maxRecDepth 100000 in
theorem q_Model_best_0 (K : Fx p s m args meth c b_Model_best 4 R_Model (some .int))  : ∀ (H : Heap) (locs : List Loc) (ls : Array Slot) (s0 : St) (v1 : Int32) (v2 : Int32) (v3 : Int32), Wh D cA ad shM A s s0 H locs → lv_has ls 4 [(0, .ref (ad 0)), (1, .int v1), (2, .int v2), (3, .int v3)] → F_Model_best_0 s0 v1 v2 v3 = (some (r, τ)) → W p l e rm_Model_best s m args below meth c H locs 0 0 (MQ below (QcI D cA ad shM A r τ) args s 0 0 A) (F0 m 0 ls []) := by
  have hx := K.1.1; have hb := K.1.2.1
  intro H locs ls s0 v1 v2 v3 hw hl hF
  unfold F_Model_best_0 at hF
  refine lv_aload_n hx hb d_Model_best_0 rfl (lv_at hl 0 rfl) ?_
  refine lv_iload_n hx hb d_Model_best_1 rfl (lv_at hl 1 rfl) ?_
  refine lv_iload_n hx hb d_Model_best_2 rfl (lv_at hl 2 rfl) ?_
  obtain ⟨r_1, h_r_1, hF⟩ := ob1E hF
  refine r_callVI (As := [.int v1, .int v2]) (rest := []) K hw hl.1 (c_Model_areTwo (l := l) (D := D) (cA := cA) (ad := ad) (s0 := s0)   h_r_1) sh_Model rfl (tb_gV w_1226 w_1228 w_44 w_80 w_1229) a_Model_areTwo ⟨rfl, rfl, Nat.le_of_ble_eq_true rfl, Nat.le_of_ble_eq_true rfl⟩ rfl rfl (Nat.le_of_ble_eq_true rfl) d_Model_best_3 (fun H locs hw => ?_)
  refine lv_if_ne (tgt := 12) hx hb d_Model_best_6 (by decide) (fun c_2 => ?_) (fun c_2 => ?_)
  · replace hF := ifT hF c_2
    refine lv_iload_n hx hb d_Model_best_12 rfl (lv_at hl 3 rfl) ?_
    refine lv_iconst (v := 0) hx hb d_Model_best_13 (by decide) ?_
    refine lv_iconst (v := 2) hx hb d_Model_best_14 (by decide) ?_
    refine r_callSI (As := [.int v3, .int (0 : Int32), .int (2 : Int32)]) (rest := []) K hw hl.1 (c_Model_in (l := l) (D := D) (cA := cA) (ad := ad) (s0 := s0)   rfl) (tb_gS w_986 w_987 w_80 w_988) a_Model_in ⟨rfl, rfl, Nat.le_of_ble_eq_true rfl, Nat.le_of_ble_eq_true rfl⟩ rfl rfl (Nat.le_of_ble_eq_true rfl) d_Model_best_15 (fun H locs hw => ?_)
    refine lv_if_ne (tgt := 25) hx hb d_Model_best_18 (by decide) (fun c_3 => ?_) (fun c_3 => ?_)
    · replace hF := ifT hF c_3
      refine lv_aload_n hx hb d_Model_best_25 rfl (lv_at hl 0 rfl) ?_
      refine lv_iload_n hx hb d_Model_best_26 rfl (lv_at hl 1 rfl) ?_
      refine lv_iload_n hx hb d_Model_best_27 rfl (lv_at hl 2 rfl) ?_
      obtain ⟨s_4, h_s_4, hF⟩ := ob1E hF
      refine r_callVV (As := [.int v1, .int v2]) (rest := []) K hw hl.1 (c_Model_findsBest (l := l) (D := D) (cA := cA) (ad := ad) (s0 := s0)   h_s_4) sh_Model rfl (tb_gV w_1277 w_1279 w_52 w_80 w_1280) a_Model_findsBest ⟨rfl, rfl, Nat.le_of_ble_eq_true rfl, Nat.le_of_ble_eq_true rfl⟩ rfl rfl (Nat.le_of_ble_eq_true rfl) d_Model_best_28 (fun H locs hw => ?_)
      refine lv_iload_n hx hb d_Model_best_31 rfl (lv_at hl 3 rfl) ?_
      refine lv_if_ne (tgt := 42) hx hb d_Model_best_32 (by decide) (fun c_5 => ?_) (fun c_5 => ?_)
      · replace hF := ifT hF c_5
        refine lv_iload_n hx hb d_Model_best_42 rfl (lv_at hl 3 rfl) ?_
        refine lv_iconst (v := 1) hx hb d_Model_best_43 (by decide) ?_
        refine lv_icmp_ne (tgt := 54) hx hb d_Model_best_44 (by decide) (fun c_6 => ?_) (fun c_6 => ?_)
        · replace hF := ifT hF c_6
          refine lv_aload_n hx hb d_Model_best_54 rfl (lv_at hl 0 rfl) ?_
          refine r_get (v := .int (s_4.1 0 41)) K hw i_Model sh_Model rfl 41 (by decide) w_1066 rfl rfl rfl d_Model_best_55 ?_
          obtain ⟨hF, hG⟩ := sE2 hF
          subst hF
          subst hG
          exact r_iret K hw d_Model_best_58
        · replace hF := ifN hF c_6
          refine lv_aload_n hx hb d_Model_best_47 rfl (lv_at hl 0 rfl) ?_
          refine r_get (v := .int (s_4.1 0 40)) K hw i_Model sh_Model rfl 40 (by decide) w_1065 rfl rfl rfl d_Model_best_48 ?_
          refine lv_goto (tgt := 58) hx hb d_Model_best_51 (by decide) ?_
          obtain ⟨hF, hG⟩ := sE2 hF
          subst hF
          subst hG
          exact r_iret K hw d_Model_best_58
      · replace hF := ifN hF c_5
        refine lv_aload_n hx hb d_Model_best_35 rfl (lv_at hl 0 rfl) ?_
        refine r_get (v := .int (s_4.1 0 39)) K hw i_Model sh_Model rfl 39 (by decide) w_1064 rfl rfl rfl d_Model_best_36 ?_
        refine lv_goto (tgt := 58) hx hb d_Model_best_39 (by decide) ?_
        obtain ⟨hF, hG⟩ := sE2 hF
        subst hF
        subst hG
        exact r_iret K hw d_Model_best_58
    · replace hF := ifN hF c_3
      refine lv_sipush (v := -200) hx hb d_Model_best_21 (by decide) ?_
      obtain ⟨hF, hG⟩ := sE2 hF
      subst hF
      subst hG
      exact r_iret K hw d_Model_best_24
  · replace hF := ifN hF c_2
    refine lv_bipush (v := -100) hx hb d_Model_best_9 (by decide) ?_
    obtain ⟨hF, hG⟩ := sE2 hF
    subst hF
    subst hG
    exact r_iret K hw d_Model_best_11
end S_Model_best
noncomputable abbrev F_Model_best := F_Model_best_0
theorem c_Model_best {l : Launch} {D : va_G} {cA : Nat → ClassId} {ad : Nat → Nat} {s0 τ : St} {r : Int32} {v1 : Int32} {v2 : Int32} {v3 : Int32}  (hF : F_Model_best s0 v1 v2 v3 = (some (r, τ))) : MI l D cA ad shM y_Model_best (wT y_Model_best b_Model_best 4 (some .int)) rm_Model_best [.ref (ad 0), .int v1, .int v2, .int v3] s0 r τ := fun sz => m_start (Qc := fun A => QcI D cA ad shM A r τ) (by decide +kernel) w_1276 (Nat.le_of_ble_eq_true rfl) (fun p e s m below meth c ls K hl hw => q_Model_best_0 K _ _ _ _ _ _ _  hw hl hF)

/-! Model.couldBetter(II)Z -/
abbrev b_Model_couldBetter : ByteArray := prog_13_method_48_code
def y_Model_couldBetter : MethodName := ⟨R_Model, "couldBette\x72", "(II)Z"⟩
theorem a_Model_couldBetter : y_Model_couldBetter.cls = R_Model ∧ y_Model_couldBetter.cls ≠ "java/lang/invoke/MethodHandle" ∧ y_Model_couldBetter.cls ≠ "java/lang/invoke/VarHandle" ∧ (parseMethodDescriptor y_Model_couldBetter.desc).map (fun d => d.parameters.length) = some 2 := by decide +kernel
abbrev rm_Model_couldBetter : Room := { frames := 8, cells := 0, slots := 0, locals := 199 }
theorem w_1291 : Cond.code y_Model_couldBetter b_Model_couldBetter 4 (some .boolean) ∈ TB := tb_in 1291 (by decide +kernel) (by decide +kernel)
theorem d_Model_couldBetter_0 : decode b_Model_couldBetter 0 = .ok (.aload_n 0, 1) := by decide +kernel
theorem d_Model_couldBetter_1 : decode b_Model_couldBetter 1 = .ok (.iload_n 1, 1) := by decide +kernel
theorem d_Model_couldBetter_2 : decode b_Model_couldBetter 2 = .ok (.iload_n 2, 1) := by decide +kernel
theorem d_Model_couldBetter_3 : decode b_Model_couldBetter 3 = .ok (.invokevirtual 216, 3) := by decide +kernel
theorem d_Model_couldBetter_6 : decode b_Model_couldBetter 6 = .ok (.aload_n 0, 1) := by decide +kernel
theorem d_Model_couldBetter_7 : decode b_Model_couldBetter 7 = .ok (.getfield 187, 3) := by decide +kernel
theorem d_Model_couldBetter_10 : decode b_Model_couldBetter 10 = .ok (.istore_n 3, 1) := by decide +kernel
theorem d_Model_couldBetter_11 : decode b_Model_couldBetter 11 = .ok (.aload_n 0, 1) := by decide +kernel
theorem d_Model_couldBetter_12 : decode b_Model_couldBetter 12 = .ok (.iload_n 1, 1) := by decide +kernel
theorem d_Model_couldBetter_13 : decode b_Model_couldBetter 13 = .ok (.iload_n 2, 1) := by decide +kernel
theorem d_Model_couldBetter_14 : decode b_Model_couldBetter 14 = .ok (.invokevirtual 238, 3) := by decide +kernel
theorem d_Model_couldBetter_17 : decode b_Model_couldBetter 17 = .ok (.aload_n 0, 1) := by decide +kernel
theorem d_Model_couldBetter_18 : decode b_Model_couldBetter 18 = .ok (.getfield 232, 3) := by decide +kernel
theorem d_Model_couldBetter_21 : decode b_Model_couldBetter 21 = .ok (.iload_n 3, 1) := by decide +kernel
theorem d_Model_couldBetter_22 : decode b_Model_couldBetter 22 = .ok (.if_icmp .le 7, 3) := by decide +kernel
theorem d_Model_couldBetter_25 : decode b_Model_couldBetter 25 = .ok (.iconst 1, 1) := by decide +kernel
theorem d_Model_couldBetter_26 : decode b_Model_couldBetter 26 = .ok (.goto 4, 3) := by decide +kernel
theorem d_Model_couldBetter_29 : decode b_Model_couldBetter 29 = .ok (.iconst 0, 1) := by decide +kernel
theorem d_Model_couldBetter_30 : decode b_Model_couldBetter 30 = .ok (.ireturn, 1) := by decide +kernel
section S_Model_couldBetter
variable {p : Program} {l : Launch} {e : Env} {s : State} {m : MethodId} {args : Array Value} {below : List Frame} {meth : Method} {c : Code} {D : va_G} {cA : Nat → ClassId} {ad : Nat → Nat} {nC : Nat} {A : Nat → Prop} {r : Int32} {τ : St}
noncomputable def F_Model_couldBetter_0 (s0 : St) (v1 : Int32) (v2 : Int32) : Option (Int32 × St) := (ob1 (F_Model_bouts s0 v1 v2) (fun s_1 => (ob1 (F_Model_findsBest s_1 v1 v2) (fun s_2 => (if (s_2.1 0 40) ≤ (s_1.1 0 32) then (some ((0 : Int32), s_2)) else (some ((1 : Int32), s_2)))))))
set_option maxHeartbeats 4000000 in
set_option maxRecDepth 100000 in
theorem q_Model_couldBetter_0 (K : Fx p s m args meth c b_Model_couldBetter 4 R_Model (some .boolean))  : ∀ (H : Heap) (locs : List Loc) (ls : Array Slot) (s0 : St) (v1 : Int32) (v2 : Int32), Wh D cA ad shM A s s0 H locs → lv_has ls 4 [(0, .ref (ad 0)), (1, .int v1), (2, .int v2)] → F_Model_couldBetter_0 s0 v1 v2 = (some (r, τ)) → W p l e rm_Model_couldBetter s m args below meth c H locs 0 0 (MQ below (QcI D cA ad shM A r τ) args s 0 0 A) (F0 m 0 ls []) := by
  have hx := K.1.1; have hb := K.1.2.1
  intro H locs ls s0 v1 v2 hw hl hF
  unfold F_Model_couldBetter_0 at hF
  refine lv_aload_n hx hb d_Model_couldBetter_0 rfl (lv_at hl 0 rfl) ?_
  refine lv_iload_n hx hb d_Model_couldBetter_1 rfl (lv_at hl 1 rfl) ?_
  refine lv_iload_n hx hb d_Model_couldBetter_2 rfl (lv_at hl 2 rfl) ?_
  obtain ⟨s_1, h_s_1, hF⟩ := ob1E hF
  refine r_callVV (As := [.int v1, .int v2]) (rest := []) K hw hl.1 (c_Model_bouts (l := l) (D := D) (cA := cA) (ad := ad) (s0 := s0)   h_s_1) sh_Model rfl (tb_gV w_1257 w_1259 w_50 w_80 w_1260) a_Model_bouts ⟨rfl, rfl, Nat.le_of_ble_eq_true rfl, Nat.le_of_ble_eq_true rfl⟩ rfl rfl (Nat.le_of_ble_eq_true rfl) d_Model_couldBetter_3 (fun H locs hw => ?_)
  refine lv_aload_n hx hb d_Model_couldBetter_6 rfl (lv_at hl 0 rfl) ?_
  refine r_get (v := .int (s_1.1 0 32)) K hw i_Model sh_Model rfl 32 (by decide) w_1057 rfl rfl rfl d_Model_couldBetter_7 ?_
  refine lv_istore_n (lv' := [(3, .int (s_1.1 0 32)), (0, .ref (ad 0)), (1, .int v1), (2, .int v2)]) hx hb d_Model_couldBetter_10 rfl hl (by decide) rfl (fun ls hl => ?_)
  refine lv_aload_n hx hb d_Model_couldBetter_11 rfl (lv_at hl 1 rfl) ?_
  refine lv_iload_n hx hb d_Model_couldBetter_12 rfl (lv_at hl 2 rfl) ?_
  refine lv_iload_n hx hb d_Model_couldBetter_13 rfl (lv_at hl 3 rfl) ?_
  obtain ⟨s_2, h_s_2, hF⟩ := ob1E hF
  refine r_callVV (As := [.int v1, .int v2]) (rest := []) K hw hl.1 (c_Model_findsBest (l := l) (D := D) (cA := cA) (ad := ad) (s0 := s_1)   h_s_2) sh_Model rfl (tb_gV w_1277 w_1279 w_52 w_80 w_1280) a_Model_findsBest ⟨rfl, rfl, Nat.le_of_ble_eq_true rfl, Nat.le_of_ble_eq_true rfl⟩ rfl rfl (Nat.le_of_ble_eq_true rfl) d_Model_couldBetter_14 (fun H locs hw => ?_)
  refine lv_aload_n hx hb d_Model_couldBetter_17 rfl (lv_at hl 1 rfl) ?_
  refine r_get (v := .int (s_2.1 0 40)) K hw i_Model sh_Model rfl 40 (by decide) w_1065 rfl rfl rfl d_Model_couldBetter_18 ?_
  refine lv_iload_n hx hb d_Model_couldBetter_21 rfl (lv_at hl 0 rfl) ?_
  refine lv_icmp_le (tgt := 29) hx hb d_Model_couldBetter_22 (by decide) (fun c_3 => ?_) (fun c_3 => ?_)
  · replace hF := ifT hF c_3
    refine lv_iconst (v := 0) hx hb d_Model_couldBetter_29 (by decide) ?_
    obtain ⟨hF, hG⟩ := sE2 hF
    subst hF
    subst hG
    exact r_zret K hw (by decide) d_Model_couldBetter_30
  · replace hF := ifF hF c_3
    refine lv_iconst (v := 1) hx hb d_Model_couldBetter_25 (by decide) ?_
    refine lv_goto (tgt := 30) hx hb d_Model_couldBetter_26 (by decide) ?_
    obtain ⟨hF, hG⟩ := sE2 hF
    subst hF
    subst hG
    exact r_zret K hw (by decide) d_Model_couldBetter_30
end S_Model_couldBetter
noncomputable abbrev F_Model_couldBetter := F_Model_couldBetter_0
theorem c_Model_couldBetter {l : Launch} {D : va_G} {cA : Nat → ClassId} {ad : Nat → Nat} {s0 τ : St} {r : Int32} {v1 : Int32} {v2 : Int32}  (hF : F_Model_couldBetter s0 v1 v2 = (some (r, τ))) : MI l D cA ad shM y_Model_couldBetter (wT y_Model_couldBetter b_Model_couldBetter 4 (some .boolean)) rm_Model_couldBetter [.ref (ad 0), .int v1, .int v2] s0 r τ := fun sz => m_start (Qc := fun A => QcI D cA ad shM A r τ) (by decide +kernel) w_1291 (Nat.le_of_ble_eq_true rfl) (fun p e s m below meth c ls K hl hw => q_Model_couldBetter_0 K _ _ _ _ _ _  hw hl hF)

/-! Model.even(II)I -/
abbrev b_Model_even : ByteArray := prog_13_method_49_code
def y_Model_even : MethodName := ⟨R_Model, "even", "(II)I"⟩
theorem a_Model_even : y_Model_even.cls = R_Model ∧ y_Model_even.cls ≠ "java/lang/invoke/MethodHandle" ∧ y_Model_even.cls ≠ "java/lang/invoke/VarHandle" ∧ (parseMethodDescriptor y_Model_even.desc).map (fun d => d.parameters.length) = some 2 := by decide +kernel
abbrev rm_Model_even : Room := { frames := 9, cells := 0, slots := 0, locals := 222 }
theorem w_1288 : Cond.methodLink R_Model 241 y_Model_couldBetter ∈ TB := tb_in 1288 (by decide +kernel) (by decide +kernel)
theorem w_1290 : Cond.instanceMethod y_Model_couldBetter ∈ TB := tb_in 1290 (by decide +kernel) (by decide +kernel)
theorem w_53 : Cond.selects R_Model y_Model_couldBetter y_Model_couldBetter ∈ TB := tb_in 53 (by decide +kernel) (by decide +kernel)
theorem w_1287 : Cond.code y_Model_even b_Model_even 3 (some .int) ∈ TB := tb_in 1287 (by decide +kernel) (by decide +kernel)
theorem d_Model_even_0 : decode b_Model_even 0 = .ok (.aload_n 0, 1) := by decide +kernel
theorem d_Model_even_1 : decode b_Model_even 1 = .ok (.iload_n 1, 1) := by decide +kernel
theorem d_Model_even_2 : decode b_Model_even 2 = .ok (.iload_n 2, 1) := by decide +kernel
theorem d_Model_even_3 : decode b_Model_even 3 = .ok (.invokevirtual 86, 3) := by decide +kernel
theorem d_Model_even_6 : decode b_Model_even 6 = .ok (.ifCond .ne 6, 3) := by decide +kernel
theorem d_Model_even_9 : decode b_Model_even 9 = .ok (.bipush (-5), 2) := by decide +kernel
theorem d_Model_even_11 : decode b_Model_even 11 = .ok (.ireturn, 1) := by decide +kernel
theorem d_Model_even_12 : decode b_Model_even 12 = .ok (.aload_n 0, 1) := by decide +kernel
theorem d_Model_even_13 : decode b_Model_even 13 = .ok (.iload_n 1, 1) := by decide +kernel
theorem d_Model_even_14 : decode b_Model_even 14 = .ok (.iload_n 2, 1) := by decide +kernel
theorem d_Model_even_15 : decode b_Model_even 15 = .ok (.invokevirtual 241, 3) := by decide +kernel
theorem d_Model_even_18 : decode b_Model_even 18 = .ok (.ifCond .ne 12, 3) := by decide +kernel
theorem d_Model_even_21 : decode b_Model_even 21 = .ok (.aload_n 0, 1) := by decide +kernel
theorem d_Model_even_22 : decode b_Model_even 22 = .ok (.iload_n 2, 1) := by decide +kernel
theorem d_Model_even_23 : decode b_Model_even 23 = .ok (.iload_n 1, 1) := by decide +kernel
theorem d_Model_even_24 : decode b_Model_even 24 = .ok (.invokevirtual 241, 3) := by decide +kernel
theorem d_Model_even_27 : decode b_Model_even 27 = .ok (.ifCond .eq 7, 3) := by decide +kernel
theorem d_Model_even_30 : decode b_Model_even 30 = .ok (.iconst 0, 1) := by decide +kernel
theorem d_Model_even_31 : decode b_Model_even 31 = .ok (.goto 4, 3) := by decide +kernel
theorem d_Model_even_34 : decode b_Model_even 34 = .ok (.iconst 1, 1) := by decide +kernel
theorem d_Model_even_35 : decode b_Model_even 35 = .ok (.ireturn, 1) := by decide +kernel
section S_Model_even
variable {p : Program} {l : Launch} {e : Env} {s : State} {m : MethodId} {args : Array Value} {below : List Frame} {meth : Method} {c : Code} {D : va_G} {cA : Nat → ClassId} {ad : Nat → Nat} {nC : Nat} {A : Nat → Prop} {r : Int32} {τ : St}
noncomputable def F_Model_even_0 (s0 : St) (v1 : Int32) (v2 : Int32) : Option (Int32 × St) := (ob1 (F_Model_areTwo s0 v1 v2) (fun r_1 => (if ¬ r_1 = 0 then (ob2 (F_Model_couldBetter s0 v1 v2) (fun r_3 s_4 => (if ¬ r_3 = 0 then (some ((0 : Int32), s_4)) else (ob2 (F_Model_couldBetter s_4 v2 v1) (fun r_6 s_7 => (if r_6 = 0 then (some ((1 : Int32), s_7)) else (some ((0 : Int32), s_7)))))))) else (some ((-5 : Int32), s0)))))
set_option maxHeartbeats 4000000 in
set_option maxRecDepth 100000 in
theorem q_Model_even_0 (K : Fx p s m args meth c b_Model_even 3 R_Model (some .int))  : ∀ (H : Heap) (locs : List Loc) (ls : Array Slot) (s0 : St) (v1 : Int32) (v2 : Int32), Wh D cA ad shM A s s0 H locs → lv_has ls 3 [(0, .ref (ad 0)), (1, .int v1), (2, .int v2)] → F_Model_even_0 s0 v1 v2 = (some (r, τ)) → W p l e rm_Model_even s m args below meth c H locs 0 0 (MQ below (QcI D cA ad shM A r τ) args s 0 0 A) (F0 m 0 ls []) := by
  have hx := K.1.1; have hb := K.1.2.1
  intro H locs ls s0 v1 v2 hw hl hF
  unfold F_Model_even_0 at hF
  refine lv_aload_n hx hb d_Model_even_0 rfl (lv_at hl 0 rfl) ?_
  refine lv_iload_n hx hb d_Model_even_1 rfl (lv_at hl 1 rfl) ?_
  refine lv_iload_n hx hb d_Model_even_2 rfl (lv_at hl 2 rfl) ?_
  obtain ⟨r_1, h_r_1, hF⟩ := ob1E hF
  refine r_callVI (As := [.int v1, .int v2]) (rest := []) K hw hl.1 (c_Model_areTwo (l := l) (D := D) (cA := cA) (ad := ad) (s0 := s0)   h_r_1) sh_Model rfl (tb_gV w_1226 w_1228 w_44 w_80 w_1229) a_Model_areTwo ⟨rfl, rfl, Nat.le_of_ble_eq_true rfl, Nat.le_of_ble_eq_true rfl⟩ rfl rfl (Nat.le_of_ble_eq_true rfl) d_Model_even_3 (fun H locs hw => ?_)
  refine lv_if_ne (tgt := 12) hx hb d_Model_even_6 (by decide) (fun c_2 => ?_) (fun c_2 => ?_)
  · replace hF := ifT hF c_2
    refine lv_aload_n hx hb d_Model_even_12 rfl (lv_at hl 0 rfl) ?_
    refine lv_iload_n hx hb d_Model_even_13 rfl (lv_at hl 1 rfl) ?_
    refine lv_iload_n hx hb d_Model_even_14 rfl (lv_at hl 2 rfl) ?_
    obtain ⟨r_3, s_4, h_s_4, hF⟩ := ob2E hF
    refine r_callVI (As := [.int v1, .int v2]) (rest := []) K hw hl.1 (c_Model_couldBetter (l := l) (D := D) (cA := cA) (ad := ad) (s0 := s0)   h_s_4) sh_Model rfl (tb_gV w_1288 w_1290 w_53 w_80 w_1291) a_Model_couldBetter ⟨rfl, rfl, Nat.le_of_ble_eq_true rfl, Nat.le_of_ble_eq_true rfl⟩ rfl rfl (Nat.le_of_ble_eq_true rfl) d_Model_even_15 (fun H locs hw => ?_)
    refine lv_if_ne (tgt := 30) hx hb d_Model_even_18 (by decide) (fun c_5 => ?_) (fun c_5 => ?_)
    · replace hF := ifT hF c_5
      refine lv_iconst (v := 0) hx hb d_Model_even_30 (by decide) ?_
      refine lv_goto (tgt := 35) hx hb d_Model_even_31 (by decide) ?_
      obtain ⟨hF, hG⟩ := sE2 hF
      subst hF
      subst hG
      exact r_iret K hw d_Model_even_35
    · replace hF := ifN hF c_5
      refine lv_aload_n hx hb d_Model_even_21 rfl (lv_at hl 0 rfl) ?_
      refine lv_iload_n hx hb d_Model_even_22 rfl (lv_at hl 2 rfl) ?_
      refine lv_iload_n hx hb d_Model_even_23 rfl (lv_at hl 1 rfl) ?_
      obtain ⟨r_6, s_7, h_s_7, hF⟩ := ob2E hF
      refine r_callVI (As := [.int v2, .int v1]) (rest := []) K hw hl.1 (c_Model_couldBetter (l := l) (D := D) (cA := cA) (ad := ad) (s0 := s_4)   h_s_7) sh_Model rfl (tb_gV w_1288 w_1290 w_53 w_80 w_1291) a_Model_couldBetter ⟨rfl, rfl, Nat.le_of_ble_eq_true rfl, Nat.le_of_ble_eq_true rfl⟩ rfl rfl (Nat.le_of_ble_eq_true rfl) d_Model_even_24 (fun H locs hw => ?_)
      refine lv_if_eq (tgt := 34) hx hb d_Model_even_27 (by decide) (fun c_8 => ?_) (fun c_8 => ?_)
      · replace hF := ifT hF c_8
        refine lv_iconst (v := 1) hx hb d_Model_even_34 (by decide) ?_
        obtain ⟨hF, hG⟩ := sE2 hF
        subst hF
        subst hG
        exact r_iret K hw d_Model_even_35
      · replace hF := ifF hF c_8
        refine lv_iconst (v := 0) hx hb d_Model_even_30 (by decide) ?_
        refine lv_goto (tgt := 35) hx hb d_Model_even_31 (by decide) ?_
        obtain ⟨hF, hG⟩ := sE2 hF
        subst hF
        subst hG
        exact r_iret K hw d_Model_even_35
  · replace hF := ifN hF c_2
    refine lv_bipush (v := -5) hx hb d_Model_even_9 (by decide) ?_
    obtain ⟨hF, hG⟩ := sE2 hF
    subst hF
    subst hG
    exact r_iret K hw d_Model_even_11
end S_Model_even
noncomputable abbrev F_Model_even := F_Model_even_0
theorem c_Model_even {l : Launch} {D : va_G} {cA : Nat → ClassId} {ad : Nat → Nat} {s0 τ : St} {r : Int32} {v1 : Int32} {v2 : Int32}  (hF : F_Model_even s0 v1 v2 = (some (r, τ))) : MI l D cA ad shM y_Model_even (wT y_Model_even b_Model_even 3 (some .int)) rm_Model_even [.ref (ad 0), .int v1, .int v2] s0 r τ := fun sz => m_start (Qc := fun A => QcI D cA ad shM A r τ) (by decide +kernel) w_1287 (Nat.le_of_ble_eq_true rfl) (fun p e s m below meth c ls K hl hw => q_Model_even_0 K _ _ _ _ _ _  hw hl hF)

/-! Model.line(II)I -/
abbrev b_Model_line : ByteArray := prog_13_method_50_code
def y_Model_line : MethodName := ⟨R_Model, "line", "(II)I"⟩
theorem a_Model_line : y_Model_line.cls = R_Model ∧ y_Model_line.cls ≠ "java/lang/invoke/MethodHandle" ∧ y_Model_line.cls ≠ "java/lang/invoke/VarHandle" ∧ (parseMethodDescriptor y_Model_line.desc).map (fun d => d.parameters.length) = some 2 := by decide +kernel
abbrev rm_Model_line : Room := { frames := 6, cells := 0, slots := 0, locals := 153 }
theorem w_1295 : Cond.code y_Model_line b_Model_line 4 (some .int) ∈ TB := tb_in 1295 (by decide +kernel) (by decide +kernel)
theorem d_Model_line_0 : decode b_Model_line 0 = .ok (.aload_n 0, 1) := by decide +kernel
theorem d_Model_line_1 : decode b_Model_line 1 = .ok (.iload_n 1, 1) := by decide +kernel
theorem d_Model_line_2 : decode b_Model_line 2 = .ok (.iload_n 2, 1) := by decide +kernel
theorem d_Model_line_3 : decode b_Model_line 3 = .ok (.invokevirtual 86, 3) := by decide +kernel
theorem d_Model_line_6 : decode b_Model_line 6 = .ok (.ifCond .ne 6, 3) := by decide +kernel
theorem d_Model_line_9 : decode b_Model_line 9 = .ok (.bipush (-100), 2) := by decide +kernel
theorem d_Model_line_11 : decode b_Model_line 11 = .ok (.ireturn, 1) := by decide +kernel
theorem d_Model_line_12 : decode b_Model_line 12 = .ok (.bipush (-29), 2) := by decide +kernel
theorem d_Model_line_14 : decode b_Model_line 14 = .ok (.istore_n 3, 1) := by decide +kernel
theorem d_Model_line_15 : decode b_Model_line 15 = .ok (.iload_n 3, 1) := by decide +kernel
theorem d_Model_line_16 : decode b_Model_line 16 = .ok (.bipush 30, 2) := by decide +kernel
theorem d_Model_line_18 : decode b_Model_line 18 = .ok (.if_icmp .ge 33, 3) := by decide +kernel
theorem d_Model_line_21 : decode b_Model_line 21 = .ok (.aload_n 0, 1) := by decide +kernel
theorem d_Model_line_22 : decode b_Model_line 22 = .ok (.iload_n 1, 1) := by decide +kernel
theorem d_Model_line_23 : decode b_Model_line 23 = .ok (.iload_n 2, 1) := by decide +kernel
theorem d_Model_line_24 : decode b_Model_line 24 = .ok (.iload_n 3, 1) := by decide +kernel
theorem d_Model_line_25 : decode b_Model_line 25 = .ok (.invokevirtual 210, 3) := by decide +kernel
theorem d_Model_line_28 : decode b_Model_line 28 = .ok (.aload_n 0, 1) := by decide +kernel
theorem d_Model_line_29 : decode b_Model_line 29 = .ok (.iload_n 1, 1) := by decide +kernel
theorem d_Model_line_30 : decode b_Model_line 30 = .ok (.iload_n 2, 1) := by decide +kernel
theorem d_Model_line_31 : decode b_Model_line 31 = .ok (.bipush 40, 2) := by decide +kernel
theorem d_Model_line_33 : decode b_Model_line 33 = .ok (.invokevirtual 213, 3) := by decide +kernel
theorem d_Model_line_36 : decode b_Model_line 36 = .ok (.aload_n 0, 1) := by decide +kernel
theorem d_Model_line_37 : decode b_Model_line 37 = .ok (.getfield 187, 3) := by decide +kernel
theorem d_Model_line_40 : decode b_Model_line 40 = .ok (.ifCond .le 5, 3) := by decide +kernel
theorem d_Model_line_43 : decode b_Model_line 43 = .ok (.iload_n 3, 1) := by decide +kernel
theorem d_Model_line_44 : decode b_Model_line 44 = .ok (.ireturn, 1) := by decide +kernel
theorem d_Model_line_45 : decode b_Model_line 45 = .ok (.iinc 3 1, 3) := by decide +kernel
theorem d_Model_line_48 : decode b_Model_line 48 = .ok (.goto (-33), 3) := by decide +kernel
theorem d_Model_line_51 : decode b_Model_line 51 = .ok (.bipush 30, 2) := by decide +kernel
theorem d_Model_line_53 : decode b_Model_line 53 = .ok (.ireturn, 1) := by decide +kernel
section S_Model_line
variable {p : Program} {l : Launch} {e : Env} {s : State} {m : MethodId} {args : Array Value} {below : List Frame} {meth : Method} {c : Code} {D : va_G} {cA : Nat → ClassId} {ad : Nat → Nat} {nC : Nat} {A : Nat → Prop} {r : Int32} {τ : St}
noncomputable def F_Model_line_15 : Nat → St → Int32 → Int32 → Int32 → Option (Int32 × St)
  | 0, _, _, _, _ => none
  | n + 1, s0, v1, v2, v3 => (if (30 : Int32) ≤ v3 then (some ((30 : Int32), s0)) else (ob1 (F_Model_begins s0 v1 v2 v3) (fun s_4 => (ob1 (F_Model_goesOn s_4 v1 v2 (40 : Int32)) (fun s_5 => (if (s_5.1 0 32) ≤ 0 then (F_Model_line_15 n s_5 v1 v2 (v3 + 1)) else (some (v3, s_5))))))))
set_option maxHeartbeats 4000000 in
set_option maxRecDepth 100000 in
theorem q_Model_line_15 (K : Fx p s m args meth c b_Model_line 4 R_Model (some .int))  : ∀ (n : Nat), ∀ (H : Heap) (locs : List Loc) (ls : Array Slot) (s0 : St) (v1 : Int32) (v2 : Int32) (v3 : Int32), Wh D cA ad shM A s s0 H locs → lv_has ls 4 [(0, .ref (ad 0)), (1, .int v1), (2, .int v2), (3, .int v3)] → F_Model_line_15 n s0 v1 v2 v3 = (some (r, τ)) → W p l e rm_Model_line s m args below meth c H locs 0 0 (MQ below (QcI D cA ad shM A r τ) args s 0 0 A) (F0 m 15 ls []) := by
  have hx := K.1.1; have hb := K.1.2.1
  intro n
  induction n with
  | zero =>
    intro H locs ls s0 v1 v2 v3 hw hl hF
    exact absurd hF (by rw [F_Model_line_15]; exact nofun)
  | succ n ih =>
    intro H locs ls s0 v1 v2 v3 hw hl hF
    rw [F_Model_line_15] at hF
    refine lv_iload_n hx hb d_Model_line_15 rfl (lv_at hl 3 rfl) ?_
    refine lv_bipush (v := 30) hx hb d_Model_line_16 (by decide) ?_
    refine lv_icmp_ge (tgt := 51) hx hb d_Model_line_18 (by decide) (fun c_3 => ?_) (fun c_3 => ?_)
    · replace hF := ifT hF c_3
      refine lv_bipush (v := 30) hx hb d_Model_line_51 (by decide) ?_
      obtain ⟨hF, hG⟩ := sE2 hF
      subst hF
      subst hG
      exact r_iret K hw d_Model_line_53
    · replace hF := ifF hF c_3
      refine lv_aload_n hx hb d_Model_line_21 rfl (lv_at hl 0 rfl) ?_
      refine lv_iload_n hx hb d_Model_line_22 rfl (lv_at hl 1 rfl) ?_
      refine lv_iload_n hx hb d_Model_line_23 rfl (lv_at hl 2 rfl) ?_
      refine lv_iload_n hx hb d_Model_line_24 rfl (lv_at hl 3 rfl) ?_
      obtain ⟨s_4, h_s_4, hF⟩ := ob1E hF
      refine r_callVV (As := [.int v1, .int v2, .int v3]) (rest := []) K hw hl.1 (c_Model_begins (l := l) (D := D) (cA := cA) (ad := ad) (s0 := s0)   h_s_4) sh_Model rfl (tb_gV w_1230 w_1232 w_45 w_80 w_1233) a_Model_begins ⟨rfl, rfl, Nat.le_of_ble_eq_true rfl, Nat.le_of_ble_eq_true rfl⟩ rfl rfl (Nat.le_of_ble_eq_true rfl) d_Model_line_25 (fun H locs hw => ?_)
      refine lv_aload_n hx hb d_Model_line_28 rfl (lv_at hl 0 rfl) ?_
      refine lv_iload_n hx hb d_Model_line_29 rfl (lv_at hl 1 rfl) ?_
      refine lv_iload_n hx hb d_Model_line_30 rfl (lv_at hl 2 rfl) ?_
      refine lv_bipush (v := 40) hx hb d_Model_line_31 (by decide) ?_
      obtain ⟨s_5, h_s_5, hF⟩ := ob1E hF
      refine r_callVV (As := [.int v1, .int v2, .int (40 : Int32)]) (rest := []) K hw hl.1 (c_Model_goesOn (l := l) (D := D) (cA := cA) (ad := ad) (s0 := s_4)   h_s_5) sh_Model rfl (tb_gV w_1234 w_1236 w_46 w_80 w_1237) a_Model_goesOn ⟨rfl, rfl, Nat.le_of_ble_eq_true rfl, Nat.le_of_ble_eq_true rfl⟩ rfl rfl (Nat.le_of_ble_eq_true rfl) d_Model_line_33 (fun H locs hw => ?_)
      refine lv_aload_n hx hb d_Model_line_36 rfl (lv_at hl 0 rfl) ?_
      refine r_get (v := .int (s_5.1 0 32)) K hw i_Model sh_Model rfl 32 (by decide) w_1057 rfl rfl rfl d_Model_line_37 ?_
      refine lv_if_le (tgt := 45) hx hb d_Model_line_40 (by decide) (fun c_6 => ?_) (fun c_6 => ?_)
      · replace hF := ifT hF c_6
        refine lv_iinc (v := (v3 + 1)) (lv' := [(3, .int (v3 + 1)), (0, .ref (ad 0)), (1, .int v1), (2, .int v2)]) hx hb d_Model_line_45 hl (k := 3) rfl rfl (by decide) rfl (fun ls hl => ?_)
        refine lv_goto (tgt := 15) hx hb d_Model_line_48 (by decide) ?_
        exact ih _ _ _ _ _ _ _  hw (lv_sub hl [1, 2, 3, 0] rfl) hF
      · replace hF := ifF hF c_6
        refine lv_iload_n hx hb d_Model_line_43 rfl (lv_at hl 3 rfl) ?_
        obtain ⟨hF, hG⟩ := sE2 hF
        subst hF
        subst hG
        exact r_iret K hw d_Model_line_44
noncomputable def F_Model_line_0 (s0 : St) (v1 : Int32) (v2 : Int32) : Option (Int32 × St) := (ob1 (F_Model_areTwo s0 v1 v2) (fun r_1 => (if ¬ r_1 = 0 then (F_Model_line_15 FU s0 v1 v2 (-29 : Int32)) else (some ((-100 : Int32), s0)))))
set_option maxHeartbeats 4000000 in
set_option maxRecDepth 100000 in
theorem q_Model_line_0 (K : Fx p s m args meth c b_Model_line 4 R_Model (some .int))  : ∀ (H : Heap) (locs : List Loc) (ls : Array Slot) (s0 : St) (v1 : Int32) (v2 : Int32), Wh D cA ad shM A s s0 H locs → lv_has ls 4 [(0, .ref (ad 0)), (1, .int v1), (2, .int v2)] → F_Model_line_0 s0 v1 v2 = (some (r, τ)) → W p l e rm_Model_line s m args below meth c H locs 0 0 (MQ below (QcI D cA ad shM A r τ) args s 0 0 A) (F0 m 0 ls []) := by
  have hx := K.1.1; have hb := K.1.2.1
  intro H locs ls s0 v1 v2 hw hl hF
  unfold F_Model_line_0 at hF
  refine lv_aload_n hx hb d_Model_line_0 rfl (lv_at hl 0 rfl) ?_
  refine lv_iload_n hx hb d_Model_line_1 rfl (lv_at hl 1 rfl) ?_
  refine lv_iload_n hx hb d_Model_line_2 rfl (lv_at hl 2 rfl) ?_
  obtain ⟨r_1, h_r_1, hF⟩ := ob1E hF
  refine r_callVI (As := [.int v1, .int v2]) (rest := []) K hw hl.1 (c_Model_areTwo (l := l) (D := D) (cA := cA) (ad := ad) (s0 := s0)   h_r_1) sh_Model rfl (tb_gV w_1226 w_1228 w_44 w_80 w_1229) a_Model_areTwo ⟨rfl, rfl, Nat.le_of_ble_eq_true rfl, Nat.le_of_ble_eq_true rfl⟩ rfl rfl (Nat.le_of_ble_eq_true rfl) d_Model_line_3 (fun H locs hw => ?_)
  refine lv_if_ne (tgt := 12) hx hb d_Model_line_6 (by decide) (fun c_2 => ?_) (fun c_2 => ?_)
  · replace hF := ifT hF c_2
    refine lv_bipush (v := -29) hx hb d_Model_line_12 (by decide) ?_
    refine lv_istore_n (lv' := [(3, .int (-29 : Int32)), (0, .ref (ad 0)), (1, .int v1), (2, .int v2)]) hx hb d_Model_line_14 rfl hl (by decide) rfl (fun ls hl => ?_)
    exact q_Model_line_15 K FU _ _ _ _ _ _ _  hw (lv_sub hl [1, 2, 3, 0] rfl) hF
  · replace hF := ifN hF c_2
    refine lv_bipush (v := -100) hx hb d_Model_line_9 (by decide) ?_
    obtain ⟨hF, hG⟩ := sE2 hF
    subst hF
    subst hG
    exact r_iret K hw d_Model_line_11
end S_Model_line
noncomputable abbrev F_Model_line := F_Model_line_0
theorem c_Model_line {l : Launch} {D : va_G} {cA : Nat → ClassId} {ad : Nat → Nat} {s0 τ : St} {r : Int32} {v1 : Int32} {v2 : Int32}  (hF : F_Model_line s0 v1 v2 = (some (r, τ))) : MI l D cA ad shM y_Model_line (wT y_Model_line b_Model_line 4 (some .int)) rm_Model_line [.ref (ad 0), .int v1, .int v2] s0 r τ := fun sz => m_start (Qc := fun A => QcI D cA ad shM A r τ) (by decide +kernel) w_1295 (Nat.le_of_ble_eq_true rfl) (fun p e s m below meth c ls K hl hw => q_Model_line_0 K _ _ _ _ _ _  hw hl hF)
