/-! Model.lowest(JJI)J -/
abbrev b_Model_lowest : ByteArray := prog_13_method_69_code
def y_Model_lowest : MethodName := ⟨R_Model, "lowest", "(JJI)J"⟩
theorem a_Model_lowest : y_Model_lowest.cls = R_Model ∧ y_Model_lowest.cls ≠ "java/lang/invoke/MethodHandle" ∧ y_Model_lowest.cls ≠ "java/lang/invoke/VarHandle" ∧ (parseMethodDescriptor y_Model_lowest.desc).map (fun d => d.parameters.length) = some 3 := by decide +kernel
abbrev rm_Model_lowest : Room := { frames := 0, cells := 0, slots := 0, locals := 0 }
theorem w_1382 : Cond.code y_Model_lowest b_Model_lowest 11 (some .long) ∈ TB := tb_in 1382 (by decide +kernel) (by decide +kernel)
theorem d_Model_lowest_0 : decode b_Model_lowest 0 = .ok (.lload_n 0, 1) := by decide +kernel
theorem d_Model_lowest_1 : decode b_Model_lowest 1 = .ok (.lconst 0, 1) := by decide +kernel
theorem d_Model_lowest_2 : decode b_Model_lowest 2 = .ok (.lcmp, 1) := by decide +kernel
theorem d_Model_lowest_3 : decode b_Model_lowest 3 = .ok (.ifCond .ne 7, 3) := by decide +kernel
theorem d_Model_lowest_6 : decode b_Model_lowest 6 = .ok (.iload 4, 2) := by decide +kernel
theorem d_Model_lowest_8 : decode b_Model_lowest 8 = .ok (.i2l, 1) := by decide +kernel
theorem d_Model_lowest_9 : decode b_Model_lowest 9 = .ok (.lreturn, 1) := by decide +kernel
theorem d_Model_lowest_10 : decode b_Model_lowest 10 = .ok (.lload_n 0, 1) := by decide +kernel
theorem d_Model_lowest_11 : decode b_Model_lowest 11 = .ok (.lstore 5, 2) := by decide +kernel
theorem d_Model_lowest_13 : decode b_Model_lowest 13 = .ok (.lload_n 2, 1) := by decide +kernel
theorem d_Model_lowest_14 : decode b_Model_lowest 14 = .ok (.lstore 7, 2) := by decide +kernel
theorem d_Model_lowest_16 : decode b_Model_lowest 16 = .ok (.lload 7, 2) := by decide +kernel
theorem d_Model_lowest_18 : decode b_Model_lowest 18 = .ok (.lconst 0, 1) := by decide +kernel
theorem d_Model_lowest_19 : decode b_Model_lowest 19 = .ok (.lcmp, 1) := by decide +kernel
theorem d_Model_lowest_20 : decode b_Model_lowest 20 = .ok (.ifCond .eq 21, 3) := by decide +kernel
theorem d_Model_lowest_23 : decode b_Model_lowest 23 = .ok (.lload 5, 2) := by decide +kernel
theorem d_Model_lowest_25 : decode b_Model_lowest 25 = .ok (.lload 7, 2) := by decide +kernel
theorem d_Model_lowest_27 : decode b_Model_lowest 27 = .ok (.lrem, 1) := by decide +kernel
theorem d_Model_lowest_28 : decode b_Model_lowest 28 = .ok (.lstore 9, 2) := by decide +kernel
theorem d_Model_lowest_30 : decode b_Model_lowest 30 = .ok (.lload 7, 2) := by decide +kernel
theorem d_Model_lowest_32 : decode b_Model_lowest 32 = .ok (.lstore 5, 2) := by decide +kernel
theorem d_Model_lowest_34 : decode b_Model_lowest 34 = .ok (.lload 9, 2) := by decide +kernel
theorem d_Model_lowest_36 : decode b_Model_lowest 36 = .ok (.lstore 7, 2) := by decide +kernel
theorem d_Model_lowest_38 : decode b_Model_lowest 38 = .ok (.goto (-22), 3) := by decide +kernel
theorem d_Model_lowest_41 : decode b_Model_lowest 41 = .ok (.iload 4, 2) := by decide +kernel
theorem d_Model_lowest_43 : decode b_Model_lowest 43 = .ok (.ifCond .ne 7, 3) := by decide +kernel
theorem d_Model_lowest_46 : decode b_Model_lowest 46 = .ok (.lload_n 0, 1) := by decide +kernel
theorem d_Model_lowest_47 : decode b_Model_lowest 47 = .ok (.goto 4, 3) := by decide +kernel
theorem d_Model_lowest_50 : decode b_Model_lowest 50 = .ok (.lload_n 2, 1) := by decide +kernel
theorem d_Model_lowest_51 : decode b_Model_lowest 51 = .ok (.lload 5, 2) := by decide +kernel
theorem d_Model_lowest_53 : decode b_Model_lowest 53 = .ok (.ldiv, 1) := by decide +kernel
theorem d_Model_lowest_54 : decode b_Model_lowest 54 = .ok (.lreturn, 1) := by decide +kernel
section S_Model_lowest
variable {p : Program} {l : Launch} {e : Env} {s : State} {m : MethodId} {args : Array Value} {below : List Frame} {meth : Method} {c : Code} {D : va_G} {cA : Nat → ClassId} {ad : Nat → Nat} {nC : Nat} {A : Nat → Prop} {r : Int64} {τ : St}
noncomputable def F_Model_lowest_51 (v5 : Int64) (t0 : Int64) : Option Int64 := (if ¬ v5 = 0 then (some (t0 / v5)) else none)
set_option maxHeartbeats 4000000 in
set_option maxRecDepth 100000 in
theorem q_Model_lowest_51 (s0 : St) (K : Fx p s m args meth c b_Model_lowest 11 R_Model (some .long))  : ∀ (H : Heap) (locs : List Loc) (ls : Array Slot) (v5 : Int64) (t0 : Int64), Wh D cA ad shM A s s0 H locs → lv_has ls 11 [(5, .long v5)] → F_Model_lowest_51 v5 t0 = (some r) → W p l e rm_Model_lowest s m args below meth c H locs 0 0 (MQ below (QcL D cA ad shM A r s0) args s 0 0 A) (F0 m 51 ls [.long t0]) := by
  have hx := K.1.1; have hb := K.1.2.1
  intro H locs ls v5 t0 hw hl hF
  unfold F_Model_lowest_51 at hF
  refine lv_lload hx hb d_Model_lowest_51 (lv_at hl 0 rfl) ?_
  obtain ⟨g_4, hF⟩ := ifG hF
  refine lv_ldiv hx hb d_Model_lowest_53 g_4 ?_
  replace hF := sE1 hF
  subst hF
  exact r_lret K hw d_Model_lowest_54
noncomputable def F_Model_lowest_16 : Nat → Int64 → Int64 → Int32 → Int64 → Int64 → Option Int64
  | 0, _, _, _, _, _ => none
  | n + 1, v0, v2, v4, v5, v7 => (if (lg_cmp v7 (0 : Int64)) = 0 then (if ¬ v4 = 0 then (F_Model_lowest_51 v5 v2) else (F_Model_lowest_51 v5 v0)) else (if ¬ v7 = 0 then (F_Model_lowest_16 n v0 v2 v4 v7 (jremL v5 v7)) else none))
set_option maxHeartbeats 4000000 in
set_option maxRecDepth 100000 in
theorem q_Model_lowest_16 (s0 : St) (K : Fx p s m args meth c b_Model_lowest 11 R_Model (some .long))  : ∀ (n : Nat), ∀ (H : Heap) (locs : List Loc) (ls : Array Slot) (v0 : Int64) (v2 : Int64) (v4 : Int32) (v5 : Int64) (v7 : Int64), Wh D cA ad shM A s s0 H locs → lv_has ls 11 [(0, .long v0), (2, .long v2), (4, .int v4), (5, .long v5), (7, .long v7)] → F_Model_lowest_16 n v0 v2 v4 v5 v7 = (some r) → W p l e rm_Model_lowest s m args below meth c H locs 0 0 (MQ below (QcL D cA ad shM A r s0) args s 0 0 A) (F0 m 16 ls []) := by
  have hx := K.1.1; have hb := K.1.2.1
  intro n
  induction n with
  | zero =>
    intro H locs ls v0 v2 v4 v5 v7 hw hl hF
    exact absurd hF (by rw [F_Model_lowest_16]; exact nofun)
  | succ n ih =>
    intro H locs ls v0 v2 v4 v5 v7 hw hl hF
    rw [F_Model_lowest_16] at hF
    refine lv_lload hx hb d_Model_lowest_16 (lv_at hl 4 rfl) ?_
    refine lv_lconst (v := 0) hx hb d_Model_lowest_18 (by decide) ?_
    refine W.lcmp hx hb d_Model_lowest_19 ?_
    refine lv_if_eq (tgt := 41) hx hb d_Model_lowest_20 (by decide) (fun c_2 => ?_) (fun c_2 => ?_)
    · replace hF := ifT hF c_2
      refine lv_iload hx hb d_Model_lowest_41 (lv_at hl 2 rfl) ?_
      refine lv_if_ne (tgt := 50) hx hb d_Model_lowest_43 (by decide) (fun c_3 => ?_) (fun c_3 => ?_)
      · replace hF := ifT hF c_3
        refine lv_lload_n hx hb d_Model_lowest_50 rfl (lv_at hl 1 rfl) ?_
        exact q_Model_lowest_51 s0 K _ _ _ _ _  hw (lv_sub hl [3] rfl) hF
      · replace hF := ifN hF c_3
        refine lv_lload_n hx hb d_Model_lowest_46 rfl (lv_at hl 0 rfl) ?_
        refine lv_goto (tgt := 51) hx hb d_Model_lowest_47 (by decide) ?_
        exact q_Model_lowest_51 s0 K _ _ _ _ _  hw (lv_sub hl [3] rfl) hF
    · replace hF := ifF hF c_2
      refine lv_lload hx hb d_Model_lowest_23 (lv_at hl 3 rfl) ?_
      refine lv_lload hx hb d_Model_lowest_25 (lv_at hl 4 rfl) ?_
      obtain ⟨g_5, hF⟩ := ifG hF
      refine lv_lrem hx hb d_Model_lowest_27 g_5 ?_
      refine lv_lstore (lv' := [(9, .long (jremL v5 v7)), (0, .long v0), (2, .long v2), (4, .int v4), (5, .long v5), (7, .long v7)]) hx hb d_Model_lowest_28 hl (by decide) rfl (fun ls hl => ?_)
      refine lv_lload hx hb d_Model_lowest_30 (lv_at hl 5 rfl) ?_
      refine lv_lstore (lv' := [(5, .long v7), (9, .long (jremL v5 v7)), (0, .long v0), (2, .long v2), (4, .int v4), (7, .long v7)]) hx hb d_Model_lowest_32 hl (by decide) rfl (fun ls hl => ?_)
      refine lv_lload hx hb d_Model_lowest_34 (lv_at hl 1 rfl) ?_
      refine lv_lstore (lv' := [(7, .long (jremL v5 v7)), (5, .long v7), (9, .long (jremL v5 v7)), (0, .long v0), (2, .long v2), (4, .int v4)]) hx hb d_Model_lowest_36 hl (by decide) rfl (fun ls hl => ?_)
      refine lv_goto (tgt := 16) hx hb d_Model_lowest_38 (by decide) ?_
      exact ih _ _ _ _ _ _ _ _  hw (lv_sub hl [3, 4, 5, 1, 0] rfl) hF
noncomputable def F_Model_lowest_0 (v0 : Int64) (v2 : Int64) (v4 : Int32) : Option Int64 := (if ¬ (lg_cmp v0 (0 : Int64)) = 0 then (F_Model_lowest_16 FU v0 v2 v4 v0 v2) else (some (v4.toInt64)))
set_option maxHeartbeats 4000000 in
set_option maxRecDepth 100000 in
theorem q_Model_lowest_0 (s0 : St) (K : Fx p s m args meth c b_Model_lowest 11 R_Model (some .long))  : ∀ (H : Heap) (locs : List Loc) (ls : Array Slot) (v0 : Int64) (v2 : Int64) (v4 : Int32), Wh D cA ad shM A s s0 H locs → lv_has ls 11 [(0, .long v0), (2, .long v2), (4, .int v4)] → F_Model_lowest_0 v0 v2 v4 = (some r) → W p l e rm_Model_lowest s m args below meth c H locs 0 0 (MQ below (QcL D cA ad shM A r s0) args s 0 0 A) (F0 m 0 ls []) := by
  have hx := K.1.1; have hb := K.1.2.1
  intro H locs ls v0 v2 v4 hw hl hF
  unfold F_Model_lowest_0 at hF
  refine lv_lload_n hx hb d_Model_lowest_0 rfl (lv_at hl 0 rfl) ?_
  refine lv_lconst (v := 0) hx hb d_Model_lowest_1 (by decide) ?_
  refine W.lcmp hx hb d_Model_lowest_2 ?_
  refine lv_if_ne (tgt := 10) hx hb d_Model_lowest_3 (by decide) (fun c_1 => ?_) (fun c_1 => ?_)
  · replace hF := ifT hF c_1
    refine lv_lload_n hx hb d_Model_lowest_10 rfl (lv_at hl 0 rfl) ?_
    refine lv_lstore (lv' := [(5, .long v0), (0, .long v0), (2, .long v2), (4, .int v4)]) hx hb d_Model_lowest_11 hl (by decide) rfl (fun ls hl => ?_)
    refine lv_lload_n hx hb d_Model_lowest_13 rfl (lv_at hl 2 rfl) ?_
    refine lv_lstore (lv' := [(7, .long v2), (5, .long v0), (0, .long v0), (2, .long v2), (4, .int v4)]) hx hb d_Model_lowest_14 hl (by decide) rfl (fun ls hl => ?_)
    exact q_Model_lowest_16 s0 K FU _ _ _ _ _ _ _ _  hw (lv_sub hl [2, 3, 4, 1, 0] rfl) hF
  · replace hF := ifN hF c_1
    refine lv_iload hx hb d_Model_lowest_6 (lv_at hl 2 rfl) ?_
    refine lv_i2l (v := v4.toInt64) hx hb d_Model_lowest_8 rfl ?_
    replace hF := sE1 hF
    subst hF
    exact r_lret K hw d_Model_lowest_9
end S_Model_lowest
noncomputable abbrev F_Model_lowest := F_Model_lowest_0
theorem c_Model_lowest {l : Launch} {D : va_G} {cA : Nat → ClassId} {ad : Nat → Nat} {s0 : St} {r : Int64} {v0 : Int64} {v2 : Int64} {v4 : Int32}  (hF : F_Model_lowest v0 v2 v4 = (some r)) : ML l D cA ad shM y_Model_lowest (wT y_Model_lowest b_Model_lowest 11 (some .long)) rm_Model_lowest [.long v0, .long v2, .int v4] s0 r s0 := fun sz => m_start (Qc := fun A => QcL D cA ad shM A r s0) (by decide +kernel) w_1382 (Nat.le_of_ble_eq_true rfl) (fun p e s m below meth c ls K hl hw => q_Model_lowest_0 s0 K _ _ _ _ _ _  hw hl hF)

/-! Model.odds(IIII)J -/
abbrev b_Model_odds : ByteArray := prog_13_method_70_code
def y_Model_odds : MethodName := ⟨R_Model, "odds", "(IIII)J"⟩
theorem a_Model_odds : y_Model_odds.cls = R_Model ∧ y_Model_odds.cls ≠ "java/lang/invoke/MethodHandle" ∧ y_Model_odds.cls ≠ "java/lang/invoke/VarHandle" ∧ (parseMethodDescriptor y_Model_odds.desc).map (fun d => d.parameters.length) = some 4 := by decide +kernel
abbrev rm_Model_odds : Room := { frames := 8, cells := 0, slots := 0, locals := 200 }
theorem w_1379 : Cond.constantLong R_Model 285 (-4611686018427387904) ∈ TB := tb_in 1379 (by decide +kernel) (by decide +kernel)
theorem w_1380 : Cond.methodLink R_Model 287 y_Model_lowest ∈ TB := tb_in 1380 (by decide +kernel) (by decide +kernel)
theorem w_1381 : Cond.static y_Model_lowest ∈ TB := tb_in 1381 (by decide +kernel) (by decide +kernel)
theorem w_1378 : Cond.code y_Model_odds b_Model_odds 8 (some .long) ∈ TB := tb_in 1378 (by decide +kernel) (by decide +kernel)
theorem d_Model_odds_0 : decode b_Model_odds 0 = .ok (.iload_n 1, 1) := by decide +kernel
theorem d_Model_odds_1 : decode b_Model_odds 1 = .ok (.iconst 0, 1) := by decide +kernel
theorem d_Model_odds_2 : decode b_Model_odds 2 = .ok (.ldc_w 281, 3) := by decide +kernel
theorem d_Model_odds_5 : decode b_Model_odds 5 = .ok (.invokestatic 78, 3) := by decide +kernel
theorem d_Model_odds_8 : decode b_Model_odds 8 = .ok (.ifCond .eq 31, 3) := by decide +kernel
theorem d_Model_odds_11 : decode b_Model_odds 11 = .ok (.iload_n 2, 1) := by decide +kernel
theorem d_Model_odds_12 : decode b_Model_odds 12 = .ok (.iconst 1, 1) := by decide +kernel
theorem d_Model_odds_13 : decode b_Model_odds 13 = .ok (.bipush 30, 2) := by decide +kernel
theorem d_Model_odds_15 : decode b_Model_odds 15 = .ok (.invokestatic 78, 3) := by decide +kernel
theorem d_Model_odds_18 : decode b_Model_odds 18 = .ok (.ifCond .eq 21, 3) := by decide +kernel
theorem d_Model_odds_21 : decode b_Model_odds 21 = .ok (.aload_n 0, 1) := by decide +kernel
theorem d_Model_odds_22 : decode b_Model_odds 22 = .ok (.iload_n 3, 1) := by decide +kernel
theorem d_Model_odds_23 : decode b_Model_odds 23 = .ok (.invokevirtual 220, 3) := by decide +kernel
theorem d_Model_odds_26 : decode b_Model_odds 26 = .ok (.ifCond .eq 13, 3) := by decide +kernel
theorem d_Model_odds_29 : decode b_Model_odds 29 = .ok (.iload 4, 2) := by decide +kernel
theorem d_Model_odds_31 : decode b_Model_odds 31 = .ok (.iconst 0, 1) := by decide +kernel
theorem d_Model_odds_32 : decode b_Model_odds 32 = .ok (.iconst 1, 1) := by decide +kernel
theorem d_Model_odds_33 : decode b_Model_odds 33 = .ok (.invokestatic 78, 3) := by decide +kernel
theorem d_Model_odds_36 : decode b_Model_odds 36 = .ok (.ifCond .ne 7, 3) := by decide +kernel
theorem d_Model_odds_39 : decode b_Model_odds 39 = .ok (.ldc2_w 285, 3) := by decide +kernel
theorem d_Model_odds_42 : decode b_Model_odds 42 = .ok (.lreturn, 1) := by decide +kernel
theorem d_Model_odds_43 : decode b_Model_odds 43 = .ok (.lconst 0, 1) := by decide +kernel
theorem d_Model_odds_44 : decode b_Model_odds 44 = .ok (.lstore 5, 2) := by decide +kernel
theorem d_Model_odds_46 : decode b_Model_odds 46 = .ok (.iconst 0, 1) := by decide +kernel
theorem d_Model_odds_47 : decode b_Model_odds 47 = .ok (.istore 7, 2) := by decide +kernel
theorem d_Model_odds_49 : decode b_Model_odds 49 = .ok (.iload 7, 2) := by decide +kernel
theorem d_Model_odds_51 : decode b_Model_odds 51 = .ok (.iload_n 2, 1) := by decide +kernel
theorem d_Model_odds_52 : decode b_Model_odds 52 = .ok (.if_icmp .ge 42, 3) := by decide +kernel
theorem d_Model_odds_55 : decode b_Model_odds 55 = .ok (.lload 5, 2) := by decide +kernel
theorem d_Model_odds_57 : decode b_Model_odds 57 = .ok (.aload_n 0, 1) := by decide +kernel
theorem d_Model_odds_58 : decode b_Model_odds 58 = .ok (.iload_n 1, 1) := by decide +kernel
theorem d_Model_odds_59 : decode b_Model_odds 59 = .ok (.iload 7, 2) := by decide +kernel
theorem d_Model_odds_61 : decode b_Model_odds 61 = .ok (.iadd, 1) := by decide +kernel
theorem d_Model_odds_62 : decode b_Model_odds 62 = .ok (.iload_n 3, 1) := by decide +kernel
theorem d_Model_odds_63 : decode b_Model_odds 63 = .ok (.bipush 10, 2) := by decide +kernel
theorem d_Model_odds_65 : decode b_Model_odds 65 = .ok (.idiv, 1) := by decide +kernel
theorem d_Model_odds_66 : decode b_Model_odds 66 = .ok (.iload_n 3, 1) := by decide +kernel
theorem d_Model_odds_67 : decode b_Model_odds 67 = .ok (.bipush 10, 2) := by decide +kernel
theorem d_Model_odds_69 : decode b_Model_odds 69 = .ok (.irem, 1) := by decide +kernel
theorem d_Model_odds_70 : decode b_Model_odds 70 = .ok (.invokevirtual 282, 3) := by decide +kernel
theorem d_Model_odds_73 : decode b_Model_odds 73 = .ok (.iload_n 3, 1) := by decide +kernel
theorem d_Model_odds_74 : decode b_Model_odds 74 = .ok (.bipush 10, 2) := by decide +kernel
theorem d_Model_odds_76 : decode b_Model_odds 76 = .ok (.idiv, 1) := by decide +kernel
theorem d_Model_odds_77 : decode b_Model_odds 77 = .ok (.if_icmp .ne 7, 3) := by decide +kernel
theorem d_Model_odds_80 : decode b_Model_odds 80 = .ok (.lconst 1, 1) := by decide +kernel
theorem d_Model_odds_81 : decode b_Model_odds 81 = .ok (.goto 4, 3) := by decide +kernel
theorem d_Model_odds_84 : decode b_Model_odds 84 = .ok (.lconst 0, 1) := by decide +kernel
theorem d_Model_odds_85 : decode b_Model_odds 85 = .ok (.ladd, 1) := by decide +kernel
theorem d_Model_odds_86 : decode b_Model_odds 86 = .ok (.lstore 5, 2) := by decide +kernel
theorem d_Model_odds_88 : decode b_Model_odds 88 = .ok (.iinc 7 1, 3) := by decide +kernel
theorem d_Model_odds_91 : decode b_Model_odds 91 = .ok (.goto (-42), 3) := by decide +kernel
theorem d_Model_odds_94 : decode b_Model_odds 94 = .ok (.lload 5, 2) := by decide +kernel
theorem d_Model_odds_96 : decode b_Model_odds 96 = .ok (.iload_n 2, 1) := by decide +kernel
theorem d_Model_odds_97 : decode b_Model_odds 97 = .ok (.i2l, 1) := by decide +kernel
theorem d_Model_odds_98 : decode b_Model_odds 98 = .ok (.iload 4, 2) := by decide +kernel
theorem d_Model_odds_100 : decode b_Model_odds 100 = .ok (.invokestatic 287, 3) := by decide +kernel
theorem d_Model_odds_103 : decode b_Model_odds 103 = .ok (.lreturn, 1) := by decide +kernel
section S_Model_odds
variable {p : Program} {l : Launch} {e : Env} {s : State} {m : MethodId} {args : Array Value} {below : List Frame} {meth : Method} {c : Code} {D : va_G} {cA : Nat → ClassId} {ad : Nat → Nat} {nC : Nat} {A : Nat → Prop} {r : Int64} {τ : St}
noncomputable def F_Model_odds_39 (s0 : St) : Option (Int64 × St) := (some ((-4611686018427387904 : Int64), s0))
set_option maxHeartbeats 4000000 in
set_option maxRecDepth 100000 in
theorem q_Model_odds_39 (K : Fx p s m args meth c b_Model_odds 8 R_Model (some .long))  : ∀ (H : Heap) (locs : List Loc) (ls : Array Slot) (s0 : St), Wh D cA ad shM A s s0 H locs → lv_has ls 8 [] → F_Model_odds_39 s0 = (some (r, τ)) → W p l e rm_Model_odds s m args below meth c H locs 0 0 (MQ below (QcL D cA ad shM A r τ) args s 0 0 A) (F0 m 39 ls []) := by
  have hx := K.1.1; have hb := K.1.2.1
  intro H locs ls s0 hw hl hF
  unfold F_Model_odds_39 at hF
  refine lv_ldc2 (v := -4611686018427387904) hx hb K.1.2.2.2.1 (K.1.2.2.2.2 _ w_1379) d_Model_odds_39 ?_
  obtain ⟨hF, hG⟩ := sE2 hF
  subst hF
  subst hG
  exact r_lret K hw d_Model_odds_42
noncomputable def F_Model_odds_85 (k25 : (St → Int32 → Int32 → Int32 → Int32 → Int64 → Int32 → Option (Int64 × St))) (s0 : St) (v1 : Int32) (v2 : Int32) (v3 : Int32) (v4 : Int32) (v7 : Int32) (t0 : Int64) (t1 : Int64) : Option (Int64 × St) := (k25 s0 v1 v2 v3 v4 (t0 + t1) (v7 + 1))
set_option maxHeartbeats 4000000 in
set_option maxRecDepth 100000 in
theorem q_Model_odds_85 (K : Fx p s m args meth c b_Model_odds 8 R_Model (some .long)) (k25 : (St → Int32 → Int32 → Int32 → Int32 → Int64 → Int32 → Option (Int64 × St))) (hk25 : ∀ (H : Heap) (locs : List Loc) (ls : Array Slot) (s0 : St) (v1 : Int32) (v2 : Int32) (v3 : Int32) (v4 : Int32) (v5 : Int64) (v7 : Int32), Wh D cA ad shM A s s0 H locs → lv_has ls 8 [(0, .ref (ad 0)), (1, .int v1), (2, .int v2), (3, .int v3), (4, .int v4), (5, .long v5), (7, .int v7)] → k25 s0 v1 v2 v3 v4 v5 v7 = (some (r, τ)) → W p l e rm_Model_odds s m args below meth c H locs 0 0 (MQ below (QcL D cA ad shM A r τ) args s 0 0 A) (F0 m 49 ls [])) : ∀ (H : Heap) (locs : List Loc) (ls : Array Slot) (s0 : St) (v1 : Int32) (v2 : Int32) (v3 : Int32) (v4 : Int32) (v7 : Int32) (t0 : Int64) (t1 : Int64), Wh D cA ad shM A s s0 H locs → lv_has ls 8 [(0, .ref (ad 0)), (1, .int v1), (2, .int v2), (3, .int v3), (4, .int v4), (7, .int v7)] → F_Model_odds_85 k25 s0 v1 v2 v3 v4 v7 t0 t1 = (some (r, τ)) → W p l e rm_Model_odds s m args below meth c H locs 0 0 (MQ below (QcL D cA ad shM A r τ) args s 0 0 A) (F0 m 85 ls [.long t1, .long t0]) := by
  have hx := K.1.1; have hb := K.1.2.1
  intro H locs ls s0 v1 v2 v3 v4 v7 t0 t1 hw hl hF
  unfold F_Model_odds_85 at hF
  refine lv_ladd hx hb d_Model_odds_85 ?_
  refine lv_lstore (lv' := [(5, .long (t0 + t1)), (0, .ref (ad 0)), (1, .int v1), (2, .int v2), (3, .int v3), (4, .int v4), (7, .int v7)]) hx hb d_Model_odds_86 hl (by decide) rfl (fun ls hl => ?_)
  refine lv_iinc (v := (v7 + 1)) (lv' := [(7, .int (v7 + 1)), (5, .long (t0 + t1)), (0, .ref (ad 0)), (1, .int v1), (2, .int v2), (3, .int v3), (4, .int v4)]) hx hb d_Model_odds_88 hl (k := 6) rfl rfl (by decide) rfl (fun ls hl => ?_)
  refine lv_goto (tgt := 49) hx hb d_Model_odds_91 (by decide) ?_
  exact hk25 _ _ _ _ _ _ _ _ _ _  hw (lv_sub hl [2, 3, 4, 5, 6, 1, 0] rfl) hF
noncomputable def F_Model_odds_49 : Nat → St → Int32 → Int32 → Int32 → Int32 → Int64 → Int32 → Option (Int64 × St)
  | 0, _, _, _, _, _, _, _ => none
  | n + 1, s0, v1, v2, v3, v4, v5, v7 => (if v2 ≤ v7 then (ob1 (F_Model_lowest v5 (v2.toInt64) v4) (fun r_7 => (some (r_7, s0)))) else (ob2 (F_Model_winnerBy s0 (v1 + v7) (v3 / (10 : Int32)) (jrem v3 (10 : Int32))) (fun r_8 s_9 => (if ¬ r_8 = (v3 / (10 : Int32)) then (F_Model_odds_85 (fun z0 zv1 zv2 zv3 zv4 zv5 zv7 => F_Model_odds_49 n z0 zv1 zv2 zv3 zv4 zv5 zv7) s_9 v1 v2 v3 v4 v7 v5 (0 : Int64)) else (F_Model_odds_85 (fun z0 zv1 zv2 zv3 zv4 zv5 zv7 => F_Model_odds_49 n z0 zv1 zv2 zv3 zv4 zv5 zv7) s_9 v1 v2 v3 v4 v7 v5 (1 : Int64))))))
set_option maxHeartbeats 4000000 in
set_option maxRecDepth 100000 in
theorem q_Model_odds_49 (K : Fx p s m args meth c b_Model_odds 8 R_Model (some .long))  : ∀ (n : Nat), ∀ (H : Heap) (locs : List Loc) (ls : Array Slot) (s0 : St) (v1 : Int32) (v2 : Int32) (v3 : Int32) (v4 : Int32) (v5 : Int64) (v7 : Int32), Wh D cA ad shM A s s0 H locs → lv_has ls 8 [(0, .ref (ad 0)), (1, .int v1), (2, .int v2), (3, .int v3), (4, .int v4), (5, .long v5), (7, .int v7)] → F_Model_odds_49 n s0 v1 v2 v3 v4 v5 v7 = (some (r, τ)) → W p l e rm_Model_odds s m args below meth c H locs 0 0 (MQ below (QcL D cA ad shM A r τ) args s 0 0 A) (F0 m 49 ls []) := by
  have hx := K.1.1; have hb := K.1.2.1
  intro n
  induction n with
  | zero =>
    intro H locs ls s0 v1 v2 v3 v4 v5 v7 hw hl hF
    exact absurd hF (by rw [F_Model_odds_49]; exact nofun)
  | succ n ih =>
    intro H locs ls s0 v1 v2 v3 v4 v5 v7 hw hl hF
    rw [F_Model_odds_49] at hF
    refine lv_iload hx hb d_Model_odds_49 (lv_at hl 6 rfl) ?_
    refine lv_iload_n hx hb d_Model_odds_51 rfl (lv_at hl 2 rfl) ?_
    refine lv_icmp_ge (tgt := 94) hx hb d_Model_odds_52 (by decide) (fun c_6 => ?_) (fun c_6 => ?_)
    · replace hF := ifT hF c_6
      refine lv_lload hx hb d_Model_odds_94 (lv_at hl 5 rfl) ?_
      refine lv_iload_n hx hb d_Model_odds_96 rfl (lv_at hl 2 rfl) ?_
      refine lv_i2l (v := v2.toInt64) hx hb d_Model_odds_97 rfl ?_
      refine lv_iload hx hb d_Model_odds_98 (lv_at hl 4 rfl) ?_
      obtain ⟨r_7, h_r_7, hF⟩ := ob1E hF
      refine r_callSL (As := [.long v5, .long (v2.toInt64), .int v4]) (rest := []) K hw hl.1 (c_Model_lowest (l := l) (D := D) (cA := cA) (ad := ad) (s0 := s0)   h_r_7) (tb_gS w_1380 w_1381 w_80 w_1382) a_Model_lowest ⟨rfl, rfl, Nat.le_of_ble_eq_true rfl, Nat.le_of_ble_eq_true rfl⟩ rfl rfl (Nat.le_of_ble_eq_true rfl) d_Model_odds_100 (fun H locs hw => ?_)
      obtain ⟨hF, hG⟩ := sE2 hF
      subst hF
      subst hG
      exact r_lret K hw d_Model_odds_103
    · replace hF := ifF hF c_6
      refine lv_lload hx hb d_Model_odds_55 (lv_at hl 5 rfl) ?_
      refine lv_aload_n hx hb d_Model_odds_57 rfl (lv_at hl 0 rfl) ?_
      refine lv_iload_n hx hb d_Model_odds_58 rfl (lv_at hl 1 rfl) ?_
      refine lv_iload hx hb d_Model_odds_59 (lv_at hl 6 rfl) ?_
      refine lv_iadd hx hb d_Model_odds_61 ?_
      refine lv_iload_n hx hb d_Model_odds_62 rfl (lv_at hl 3 rfl) ?_
      refine lv_bipush (v := 10) hx hb d_Model_odds_63 (by decide) ?_
      refine lv_idiv hx hb d_Model_odds_65 (by decide) ?_
      refine lv_iload_n hx hb d_Model_odds_66 rfl (lv_at hl 3 rfl) ?_
      refine lv_bipush (v := 10) hx hb d_Model_odds_67 (by decide) ?_
      refine lv_irem hx hb d_Model_odds_69 (by decide) ?_
      obtain ⟨r_8, s_9, h_s_9, hF⟩ := ob2E hF
      refine r_callVI (As := [.int (v1 + v7), .int (v3 / (10 : Int32)), .int (jrem v3 (10 : Int32))]) (rest := [.long v5]) K hw hl.1 (c_Model_winnerBy (l := l) (D := D) (cA := cA) (ad := ad) (s0 := s0)   h_s_9) sh_Model rfl (tb_gV w_1368 w_1370 w_61 w_80 w_1371) a_Model_winnerBy ⟨rfl, rfl, Nat.le_of_ble_eq_true rfl, Nat.le_of_ble_eq_true rfl⟩ rfl rfl (Nat.le_of_ble_eq_true rfl) d_Model_odds_70 (fun H locs hw => ?_)
      refine lv_iload_n hx hb d_Model_odds_73 rfl (lv_at hl 3 rfl) ?_
      refine lv_bipush (v := 10) hx hb d_Model_odds_74 (by decide) ?_
      refine lv_idiv hx hb d_Model_odds_76 (by decide) ?_
      refine lv_icmp_ne (tgt := 84) hx hb d_Model_odds_77 (by decide) (fun c_10 => ?_) (fun c_10 => ?_)
      · replace hF := ifT hF c_10
        refine lv_lconst (v := 0) hx hb d_Model_odds_84 (by decide) ?_
        exact q_Model_odds_85 K (fun z0 zv1 zv2 zv3 zv4 zv5 zv7 => F_Model_odds_49 n z0 zv1 zv2 zv3 zv4 zv5 zv7) ih _ _ _ _ _ _ _ _ _ _ _  hw (lv_sub hl [0, 1, 2, 3, 4, 6] rfl) hF
      · replace hF := ifN hF c_10
        refine lv_lconst (v := 1) hx hb d_Model_odds_80 (by decide) ?_
        refine lv_goto (tgt := 85) hx hb d_Model_odds_81 (by decide) ?_
        exact q_Model_odds_85 K (fun z0 zv1 zv2 zv3 zv4 zv5 zv7 => F_Model_odds_49 n z0 zv1 zv2 zv3 zv4 zv5 zv7) ih _ _ _ _ _ _ _ _ _ _ _  hw (lv_sub hl [0, 1, 2, 3, 4, 6] rfl) hF
noncomputable def F_Model_odds_0 (s0 : St) (v1 : Int32) (v2 : Int32) (v3 : Int32) (v4 : Int32) : Option (Int64 × St) := (if (F_Model_in v1 (0 : Int32) (99999 : Int32)) = 0 then (F_Model_odds_39 s0) else (if (F_Model_in v2 (1 : Int32) (30 : Int32)) = 0 then (F_Model_odds_39 s0) else (ob1 (F_Model_tellTwo s0 v3) (fun r_3 => (if r_3 = 0 then (F_Model_odds_39 s0) else (if ¬ (F_Model_in v4 (0 : Int32) (1 : Int32)) = 0 then (F_Model_odds_49 FU s0 v1 v2 v3 v4 (0 : Int64) (0 : Int32)) else (F_Model_odds_39 s0)))))))
set_option maxHeartbeats 4000000 in
set_option maxRecDepth 100000 in
theorem q_Model_odds_0 (K : Fx p s m args meth c b_Model_odds 8 R_Model (some .long))  : ∀ (H : Heap) (locs : List Loc) (ls : Array Slot) (s0 : St) (v1 : Int32) (v2 : Int32) (v3 : Int32) (v4 : Int32), Wh D cA ad shM A s s0 H locs → lv_has ls 8 [(0, .ref (ad 0)), (1, .int v1), (2, .int v2), (3, .int v3), (4, .int v4)] → F_Model_odds_0 s0 v1 v2 v3 v4 = (some (r, τ)) → W p l e rm_Model_odds s m args below meth c H locs 0 0 (MQ below (QcL D cA ad shM A r τ) args s 0 0 A) (F0 m 0 ls []) := by
  have hx := K.1.1; have hb := K.1.2.1
  intro H locs ls s0 v1 v2 v3 v4 hw hl hF
  unfold F_Model_odds_0 at hF
  refine lv_iload_n hx hb d_Model_odds_0 rfl (lv_at hl 1 rfl) ?_
  refine lv_iconst (v := 0) hx hb d_Model_odds_1 (by decide) ?_
  refine lv_ldcw (v := 99999) hx hb K.1.2.2.2.1 (K.1.2.2.2.2 _ w_1367) d_Model_odds_2 ?_
  refine r_callSI (As := [.int v1, .int (0 : Int32), .int (99999 : Int32)]) (rest := []) K hw hl.1 (c_Model_in (l := l) (D := D) (cA := cA) (ad := ad) (s0 := s0)   rfl) (tb_gS w_986 w_987 w_80 w_988) a_Model_in ⟨rfl, rfl, Nat.le_of_ble_eq_true rfl, Nat.le_of_ble_eq_true rfl⟩ rfl rfl (Nat.le_of_ble_eq_true rfl) d_Model_odds_5 (fun H locs hw => ?_)
  refine lv_if_eq (tgt := 39) hx hb d_Model_odds_8 (by decide) (fun c_1 => ?_) (fun c_1 => ?_)
  · replace hF := ifT hF c_1
    exact q_Model_odds_39 K _ _ _ _  hw (lv_sub hl [] rfl) hF
  · replace hF := ifF hF c_1
    refine lv_iload_n hx hb d_Model_odds_11 rfl (lv_at hl 2 rfl) ?_
    refine lv_iconst (v := 1) hx hb d_Model_odds_12 (by decide) ?_
    refine lv_bipush (v := 30) hx hb d_Model_odds_13 (by decide) ?_
    refine r_callSI (As := [.int v2, .int (1 : Int32), .int (30 : Int32)]) (rest := []) K hw hl.1 (c_Model_in (l := l) (D := D) (cA := cA) (ad := ad) (s0 := s0)   rfl) (tb_gS w_986 w_987 w_80 w_988) a_Model_in ⟨rfl, rfl, Nat.le_of_ble_eq_true rfl, Nat.le_of_ble_eq_true rfl⟩ rfl rfl (Nat.le_of_ble_eq_true rfl) d_Model_odds_15 (fun H locs hw => ?_)
    refine lv_if_eq (tgt := 39) hx hb d_Model_odds_18 (by decide) (fun c_2 => ?_) (fun c_2 => ?_)
    · replace hF := ifT hF c_2
      exact q_Model_odds_39 K _ _ _ _  hw (lv_sub hl [] rfl) hF
    · replace hF := ifF hF c_2
      refine lv_aload_n hx hb d_Model_odds_21 rfl (lv_at hl 0 rfl) ?_
      refine lv_iload_n hx hb d_Model_odds_22 rfl (lv_at hl 3 rfl) ?_
      obtain ⟨r_3, h_r_3, hF⟩ := ob1E hF
      refine r_callVI (As := [.int v3]) (rest := []) K hw hl.1 (c_Model_tellTwo (l := l) (D := D) (cA := cA) (ad := ad) (s0 := s0)   h_r_3) sh_Model rfl (tb_gV w_1222 w_1224 w_43 w_80 w_1225) a_Model_tellTwo ⟨rfl, rfl, Nat.le_of_ble_eq_true rfl, Nat.le_of_ble_eq_true rfl⟩ rfl rfl (Nat.le_of_ble_eq_true rfl) d_Model_odds_23 (fun H locs hw => ?_)
      refine lv_if_eq (tgt := 39) hx hb d_Model_odds_26 (by decide) (fun c_4 => ?_) (fun c_4 => ?_)
      · replace hF := ifT hF c_4
        exact q_Model_odds_39 K _ _ _ _  hw (lv_sub hl [] rfl) hF
      · replace hF := ifF hF c_4
        refine lv_iload hx hb d_Model_odds_29 (lv_at hl 4 rfl) ?_
        refine lv_iconst (v := 0) hx hb d_Model_odds_31 (by decide) ?_
        refine lv_iconst (v := 1) hx hb d_Model_odds_32 (by decide) ?_
        refine r_callSI (As := [.int v4, .int (0 : Int32), .int (1 : Int32)]) (rest := []) K hw hl.1 (c_Model_in (l := l) (D := D) (cA := cA) (ad := ad) (s0 := s0)   rfl) (tb_gS w_986 w_987 w_80 w_988) a_Model_in ⟨rfl, rfl, Nat.le_of_ble_eq_true rfl, Nat.le_of_ble_eq_true rfl⟩ rfl rfl (Nat.le_of_ble_eq_true rfl) d_Model_odds_33 (fun H locs hw => ?_)
        refine lv_if_ne (tgt := 43) hx hb d_Model_odds_36 (by decide) (fun c_5 => ?_) (fun c_5 => ?_)
        · replace hF := ifT hF c_5
          refine lv_lconst (v := 0) hx hb d_Model_odds_43 (by decide) ?_
          refine lv_lstore (lv' := [(5, .long (0 : Int64)), (0, .ref (ad 0)), (1, .int v1), (2, .int v2), (3, .int v3), (4, .int v4)]) hx hb d_Model_odds_44 hl (by decide) rfl (fun ls hl => ?_)
          refine lv_iconst (v := 0) hx hb d_Model_odds_46 (by decide) ?_
          refine lv_istore (lv' := [(7, .int (0 : Int32)), (5, .long (0 : Int64)), (0, .ref (ad 0)), (1, .int v1), (2, .int v2), (3, .int v3), (4, .int v4)]) hx hb d_Model_odds_47 hl (by decide) rfl (fun ls hl => ?_)
          exact q_Model_odds_49 K FU _ _ _ _ _ _ _ _ _ _  hw (lv_sub hl [2, 3, 4, 5, 6, 1, 0] rfl) hF
        · replace hF := ifN hF c_5
          exact q_Model_odds_39 K _ _ _ _  hw (lv_sub hl [] rfl) hF
end S_Model_odds
noncomputable abbrev F_Model_odds := F_Model_odds_0
theorem c_Model_odds {l : Launch} {D : va_G} {cA : Nat → ClassId} {ad : Nat → Nat} {s0 τ : St} {r : Int64} {v1 : Int32} {v2 : Int32} {v3 : Int32} {v4 : Int32}  (hF : F_Model_odds s0 v1 v2 v3 v4 = (some (r, τ))) : ML l D cA ad shM y_Model_odds (wT y_Model_odds b_Model_odds 8 (some .long)) rm_Model_odds [.ref (ad 0), .int v1, .int v2, .int v3, .int v4] s0 r τ := fun sz => m_start (Qc := fun A => QcL D cA ad shM A r τ) (by decide +kernel) w_1378 (Nat.le_of_ble_eq_true rfl) (fun p e s m below meth c ls K hl hw => q_Model_odds_0 K _ _ _ _ _ _ _ _  hw hl hF)

/-! Model.image()I -/
abbrev b_Model_image : ByteArray := prog_13_method_71_code
def y_Model_image : MethodName := ⟨R_Model, "image", "()I"⟩
theorem a_Model_image : y_Model_image.cls = R_Model ∧ y_Model_image.cls ≠ "java/lang/invoke/MethodHandle" ∧ y_Model_image.cls ≠ "java/lang/invoke/VarHandle" ∧ (parseMethodDescriptor y_Model_image.desc).map (fun d => d.parameters.length) = some 0 := by decide +kernel
abbrev rm_Model_image : Room := { frames := 0, cells := 0, slots := 0, locals := 0 }
theorem w_1037 : Cond.fieldLink R_Model 291 R_Model "hasImage" "Z" ∈ TB := tb_in 1037 (by decide +kernel) (by decide +kernel)
theorem w_1038 : Cond.fieldLink R_Model 295 R_Model "imageArms" "I" ∈ TB := tb_in 1038 (by decide +kernel) (by decide +kernel)
theorem w_1039 : Cond.fieldLink R_Model 298 R_Model "imageRule" "I" ∈ TB := tb_in 1039 (by decide +kernel) (by decide +kernel)
theorem w_1040 : Cond.fieldLink R_Model 34 R_Model "imageHold" "[I" ∈ TB := tb_in 1040 (by decide +kernel) (by decide +kernel)
theorem w_1041 : Cond.fieldLink R_Model 37 R_Model "imagePlan" "[I" ∈ TB := tb_in 1041 (by decide +kernel) (by decide +kernel)
theorem w_1386 : Cond.code y_Model_image b_Model_image 2 (some .int) ∈ TB := tb_in 1386 (by decide +kernel) (by decide +kernel)
theorem d_Model_image_0 : decode b_Model_image 0 = .ok (.aload_n 0, 1) := by decide +kernel
theorem d_Model_image_1 : decode b_Model_image 1 = .ok (.iconst 1, 1) := by decide +kernel
theorem d_Model_image_2 : decode b_Model_image 2 = .ok (.putfield 291, 3) := by decide +kernel
theorem d_Model_image_5 : decode b_Model_image 5 = .ok (.aload_n 0, 1) := by decide +kernel
theorem d_Model_image_6 : decode b_Model_image 6 = .ok (.aload_n 0, 1) := by decide +kernel
theorem d_Model_image_7 : decode b_Model_image 7 = .ok (.getfield 75, 3) := by decide +kernel
theorem d_Model_image_10 : decode b_Model_image 10 = .ok (.putfield 295, 3) := by decide +kernel
theorem d_Model_image_13 : decode b_Model_image 13 = .ok (.aload_n 0, 1) := by decide +kernel
theorem d_Model_image_14 : decode b_Model_image 14 = .ok (.aload_n 0, 1) := by decide +kernel
theorem d_Model_image_15 : decode b_Model_image 15 = .ok (.getfield 93, 3) := by decide +kernel
theorem d_Model_image_18 : decode b_Model_image 18 = .ok (.putfield 298, 3) := by decide +kernel
theorem d_Model_image_21 : decode b_Model_image 21 = .ok (.iconst 0, 1) := by decide +kernel
theorem d_Model_image_22 : decode b_Model_image 22 = .ok (.istore_n 1, 1) := by decide +kernel
theorem d_Model_image_23 : decode b_Model_image 23 = .ok (.iload_n 1, 1) := by decide +kernel
theorem d_Model_image_24 : decode b_Model_image 24 = .ok (.bipush 6, 2) := by decide +kernel
theorem d_Model_image_26 : decode b_Model_image 26 = .ok (.if_icmp .ge 33, 3) := by decide +kernel
theorem d_Model_image_29 : decode b_Model_image 29 = .ok (.aload_n 0, 1) := by decide +kernel
theorem d_Model_image_30 : decode b_Model_image 30 = .ok (.getfield 34, 3) := by decide +kernel
theorem d_Model_image_33 : decode b_Model_image 33 = .ok (.iload_n 1, 1) := by decide +kernel
theorem d_Model_image_34 : decode b_Model_image 34 = .ok (.aload_n 0, 1) := by decide +kernel
theorem d_Model_image_35 : decode b_Model_image 35 = .ok (.getfield 19, 3) := by decide +kernel
theorem d_Model_image_38 : decode b_Model_image 38 = .ok (.iload_n 1, 1) := by decide +kernel
theorem d_Model_image_39 : decode b_Model_image 39 = .ok (.iaload, 1) := by decide +kernel
theorem d_Model_image_40 : decode b_Model_image 40 = .ok (.iastore, 1) := by decide +kernel
theorem d_Model_image_41 : decode b_Model_image 41 = .ok (.aload_n 0, 1) := by decide +kernel
theorem d_Model_image_42 : decode b_Model_image 42 = .ok (.getfield 37, 3) := by decide +kernel
theorem d_Model_image_45 : decode b_Model_image 45 = .ok (.iload_n 1, 1) := by decide +kernel
theorem d_Model_image_46 : decode b_Model_image 46 = .ok (.aload_n 0, 1) := by decide +kernel
theorem d_Model_image_47 : decode b_Model_image 47 = .ok (.getfield 22, 3) := by decide +kernel
theorem d_Model_image_50 : decode b_Model_image 50 = .ok (.iload_n 1, 1) := by decide +kernel
theorem d_Model_image_51 : decode b_Model_image 51 = .ok (.iaload, 1) := by decide +kernel
theorem d_Model_image_52 : decode b_Model_image 52 = .ok (.iastore, 1) := by decide +kernel
theorem d_Model_image_53 : decode b_Model_image 53 = .ok (.iinc 1 1, 3) := by decide +kernel
theorem d_Model_image_56 : decode b_Model_image 56 = .ok (.goto (-33), 3) := by decide +kernel
theorem d_Model_image_59 : decode b_Model_image 59 = .ok (.aload_n 0, 1) := by decide +kernel
theorem d_Model_image_60 : decode b_Model_image 60 = .ok (.getfield 75, 3) := by decide +kernel
theorem d_Model_image_63 : decode b_Model_image 63 = .ok (.ireturn, 1) := by decide +kernel
section S_Model_image
variable {p : Program} {l : Launch} {e : Env} {s : State} {m : MethodId} {args : Array Value} {below : List Frame} {meth : Method} {c : Code} {D : va_G} {cA : Nat → ClassId} {ad : Nat → Nat} {nC : Nat} {A : Nat → Prop} {r : Int32} {τ : St}
noncomputable def F_Model_image_23 : Nat → St → Int32 → Option (Int32 × St)
  | 0, _, _ => none
  | n + 1, s0, v1 => (if (6 : Int32) ≤ v1 then (some ((s0.1 0 0), s0)) else (if inB v1 6 = true then (if inB v1 6 = true then (lt (up1 s0 9 v1.toNatClampNeg (s0.1 4 v1.toNatClampNeg)) (fun s_7 => (if inB v1 6 = true then (if inB v1 6 = true then (lt (up1 s_7 10 v1.toNatClampNeg (s_7.1 5 v1.toNatClampNeg)) (fun s_10 => (F_Model_image_23 n s_10 (v1 + 1)))) else none) else none))) else none) else none))
set_option maxHeartbeats 4000000 in
set_option maxRecDepth 100000 in
theorem q_Model_image_23 (K : Fx p s m args meth c b_Model_image 2 R_Model (some .int))  : ∀ (n : Nat), ∀ (H : Heap) (locs : List Loc) (ls : Array Slot) (s0 : St) (v1 : Int32), Wh D cA ad shM A s s0 H locs → lv_has ls 2 [(0, .ref (ad 0)), (1, .int v1)] → F_Model_image_23 n s0 v1 = (some (r, τ)) → W p l e rm_Model_image s m args below meth c H locs 0 0 (MQ below (QcI D cA ad shM A r τ) args s 0 0 A) (F0 m 23 ls []) := by
  have hx := K.1.1; have hb := K.1.2.1
  intro n
  induction n with
  | zero =>
    intro H locs ls s0 v1 hw hl hF
    exact absurd hF (by rw [F_Model_image_23]; exact nofun)
  | succ n ih =>
    intro H locs ls s0 v1 hw hl hF
    rw [F_Model_image_23] at hF
    refine lv_iload_n hx hb d_Model_image_23 rfl (lv_at hl 1 rfl) ?_
    refine lv_bipush (v := 6) hx hb d_Model_image_24 (by decide) ?_
    refine lv_icmp_ge (tgt := 59) hx hb d_Model_image_26 (by decide) (fun c_4 => ?_) (fun c_4 => ?_)
    · replace hF := ifT hF c_4
      refine lv_aload_n hx hb d_Model_image_59 rfl (lv_at hl 0 rfl) ?_
      refine r_get (v := .int (s0.1 0 0)) K hw i_Model sh_Model rfl 0 (by decide) w_1025 rfl rfl rfl d_Model_image_60 ?_
      obtain ⟨hF, hG⟩ := sE2 hF
      subst hF
      subst hG
      exact r_iret K hw d_Model_image_63
    · replace hF := ifF hF c_4
      refine lv_aload_n hx hb d_Model_image_29 rfl (lv_at hl 0 rfl) ?_
      refine r_get (v := .ref (ad 9)) K hw i_Model sh_Model rfl 15 (by decide) w_1040 rfl rfl rfl d_Model_image_30 ?_
      refine lv_iload_n hx hb d_Model_image_33 rfl (lv_at hl 1 rfl) ?_
      refine lv_aload_n hx hb d_Model_image_34 rfl (lv_at hl 0 rfl) ?_
      refine r_get (v := .ref (ad 4)) K hw i_Model sh_Model rfl 4 (by decide) w_1029 rfl rfl rfl d_Model_image_35 ?_
      refine lv_iload_n hx hb d_Model_image_38 rfl (lv_at hl 1 rfl) ?_
      obtain ⟨g_5, hF⟩ := ifG hF
      refine r_iald (k := v1.toNatClampNeg) K hw (show shM[4]? = some (.inr (.inl 6)) from rfl) rfl (inB_vp g_5) d_Model_image_39 ?_
      obtain ⟨g_6, hF⟩ := ifG hF
      refine r_iast (k := v1.toNatClampNeg) K hw (show shM[9]? = some (.inr (.inl 6)) from rfl) rfl (inB_vp g_6) d_Model_image_40 (fun s_7 f_s_7 H locs hw => ?_)
      replace hF := ltN hF f_s_7
      refine lv_aload_n hx hb d_Model_image_41 rfl (lv_at hl 0 rfl) ?_
      refine r_get (v := .ref (ad 10)) K hw i_Model sh_Model rfl 16 (by decide) w_1041 rfl rfl rfl d_Model_image_42 ?_
      refine lv_iload_n hx hb d_Model_image_45 rfl (lv_at hl 1 rfl) ?_
      refine lv_aload_n hx hb d_Model_image_46 rfl (lv_at hl 0 rfl) ?_
      refine r_get (v := .ref (ad 5)) K hw i_Model sh_Model rfl 5 (by decide) w_1030 rfl rfl rfl d_Model_image_47 ?_
      refine lv_iload_n hx hb d_Model_image_50 rfl (lv_at hl 1 rfl) ?_
      obtain ⟨g_8, hF⟩ := ifG hF
      refine r_iald (k := v1.toNatClampNeg) K hw (show shM[5]? = some (.inr (.inl 6)) from rfl) rfl (inB_vp g_8) d_Model_image_51 ?_
      obtain ⟨g_9, hF⟩ := ifG hF
      refine r_iast (k := v1.toNatClampNeg) K hw (show shM[10]? = some (.inr (.inl 6)) from rfl) rfl (inB_vp g_9) d_Model_image_52 (fun s_10 f_s_10 H locs hw => ?_)
      replace hF := ltN hF f_s_10
      refine lv_iinc (v := (v1 + 1)) (lv' := [(1, .int (v1 + 1)), (0, .ref (ad 0))]) hx hb d_Model_image_53 hl (k := 1) rfl rfl (by decide) rfl (fun ls hl => ?_)
      refine lv_goto (tgt := 23) hx hb d_Model_image_56 (by decide) ?_
      exact ih _ _ _ _ _  hw (lv_sub hl [1, 0] rfl) hF
noncomputable def F_Model_image_0 (s0 : St) : Option (Int32 × St) := (lt (up1 s0 0 12 (1 : Int32)) (fun s_1 => (lt (up1 s_1 0 13 (s_1.1 0 0)) (fun s_2 => (lt (up1 s_2 0 14 (s_2.1 0 11)) (fun s_3 => (F_Model_image_23 FU s_3 (0 : Int32))))))))
set_option maxHeartbeats 4000000 in
set_option maxRecDepth 100000 in
theorem q_Model_image_0 (K : Fx p s m args meth c b_Model_image 2 R_Model (some .int))  : ∀ (H : Heap) (locs : List Loc) (ls : Array Slot) (s0 : St), Wh D cA ad shM A s s0 H locs → lv_has ls 2 [(0, .ref (ad 0))] → F_Model_image_0 s0 = (some (r, τ)) → W p l e rm_Model_image s m args below meth c H locs 0 0 (MQ below (QcI D cA ad shM A r τ) args s 0 0 A) (F0 m 0 ls []) := by
  have hx := K.1.1; have hb := K.1.2.1
  intro H locs ls s0 hw hl hF
  unfold F_Model_image_0 at hF
  refine lv_aload_n hx hb d_Model_image_0 rfl (lv_at hl 0 rfl) ?_
  refine lv_iconst (v := 1) hx hb d_Model_image_1 (by decide) ?_
  refine r_putI K hw i_Model t_Model t_Model_ok n_Model sh_Model rfl 12 (by decide) w_1037 rfl rfl rfl rfl rfl d_Model_image_2 (fun s_1 f_s_1 H locs hw => ?_)
  replace hF := ltN hF f_s_1
  refine lv_aload_n hx hb d_Model_image_5 rfl (lv_at hl 0 rfl) ?_
  refine lv_aload_n hx hb d_Model_image_6 rfl (lv_at hl 0 rfl) ?_
  refine r_get (v := .int (s_1.1 0 0)) K hw i_Model sh_Model rfl 0 (by decide) w_1025 rfl rfl rfl d_Model_image_7 ?_
  refine r_putI K hw i_Model t_Model t_Model_ok n_Model sh_Model rfl 13 (by decide) w_1038 rfl rfl rfl rfl rfl d_Model_image_10 (fun s_2 f_s_2 H locs hw => ?_)
  replace hF := ltN hF f_s_2
  refine lv_aload_n hx hb d_Model_image_13 rfl (lv_at hl 0 rfl) ?_
  refine lv_aload_n hx hb d_Model_image_14 rfl (lv_at hl 0 rfl) ?_
  refine r_get (v := .int (s_2.1 0 11)) K hw i_Model sh_Model rfl 11 (by decide) w_1036 rfl rfl rfl d_Model_image_15 ?_
  refine r_putI K hw i_Model t_Model t_Model_ok n_Model sh_Model rfl 14 (by decide) w_1039 rfl rfl rfl rfl rfl d_Model_image_18 (fun s_3 f_s_3 H locs hw => ?_)
  replace hF := ltN hF f_s_3
  refine lv_iconst (v := 0) hx hb d_Model_image_21 (by decide) ?_
  refine lv_istore_n (lv' := [(1, .int (0 : Int32)), (0, .ref (ad 0))]) hx hb d_Model_image_22 rfl hl (by decide) rfl (fun ls hl => ?_)
  exact q_Model_image_23 K FU _ _ _ _ _  hw (lv_sub hl [1, 0] rfl) hF
end S_Model_image
noncomputable abbrev F_Model_image := F_Model_image_0
theorem c_Model_image {l : Launch} {D : va_G} {cA : Nat → ClassId} {ad : Nat → Nat} {s0 τ : St} {r : Int32}   (hF : F_Model_image s0 = (some (r, τ))) : MI l D cA ad shM y_Model_image (wT y_Model_image b_Model_image 2 (some .int)) rm_Model_image [.ref (ad 0)] s0 r τ := fun sz => m_start (Qc := fun A => QcI D cA ad shM A r τ) (by decide +kernel) w_1386 (Nat.le_of_ble_eq_true rfl) (fun p e s m below meth c ls K hl hw => q_Model_image_0 K _ _ _ _   hw hl hF)

/-! Model.back()I -/
abbrev b_Model_back : ByteArray := prog_13_method_72_code
def y_Model_back : MethodName := ⟨R_Model, "back", "()I"⟩
theorem a_Model_back : y_Model_back.cls = R_Model ∧ y_Model_back.cls ≠ "java/lang/invoke/MethodHandle" ∧ y_Model_back.cls ≠ "java/lang/invoke/VarHandle" ∧ (parseMethodDescriptor y_Model_back.desc).map (fun d => d.parameters.length) = some 0 := by decide +kernel
abbrev rm_Model_back : Room := { frames := 0, cells := 0, slots := 0, locals := 0 }
theorem w_1390 : Cond.code y_Model_back b_Model_back 2 (some .int) ∈ TB := tb_in 1390 (by decide +kernel) (by decide +kernel)
theorem d_Model_back_0 : decode b_Model_back 0 = .ok (.aload_n 0, 1) := by decide +kernel
theorem d_Model_back_1 : decode b_Model_back 1 = .ok (.getfield 291, 3) := by decide +kernel
theorem d_Model_back_4 : decode b_Model_back 4 = .ok (.ifCond .ne 6, 3) := by decide +kernel
theorem d_Model_back_7 : decode b_Model_back 7 = .ok (.bipush (-3), 2) := by decide +kernel
theorem d_Model_back_9 : decode b_Model_back 9 = .ok (.ireturn, 1) := by decide +kernel
theorem d_Model_back_10 : decode b_Model_back 10 = .ok (.aload_n 0, 1) := by decide +kernel
theorem d_Model_back_11 : decode b_Model_back 11 = .ok (.aload_n 0, 1) := by decide +kernel
theorem d_Model_back_12 : decode b_Model_back 12 = .ok (.getfield 295, 3) := by decide +kernel
theorem d_Model_back_15 : decode b_Model_back 15 = .ok (.putfield 75, 3) := by decide +kernel
theorem d_Model_back_18 : decode b_Model_back 18 = .ok (.aload_n 0, 1) := by decide +kernel
theorem d_Model_back_19 : decode b_Model_back 19 = .ok (.aload_n 0, 1) := by decide +kernel
theorem d_Model_back_20 : decode b_Model_back 20 = .ok (.getfield 298, 3) := by decide +kernel
theorem d_Model_back_23 : decode b_Model_back 23 = .ok (.putfield 93, 3) := by decide +kernel
theorem d_Model_back_26 : decode b_Model_back 26 = .ok (.iconst 0, 1) := by decide +kernel
theorem d_Model_back_27 : decode b_Model_back 27 = .ok (.istore_n 1, 1) := by decide +kernel
theorem d_Model_back_28 : decode b_Model_back 28 = .ok (.iload_n 1, 1) := by decide +kernel
theorem d_Model_back_29 : decode b_Model_back 29 = .ok (.bipush 6, 2) := by decide +kernel
theorem d_Model_back_31 : decode b_Model_back 31 = .ok (.if_icmp .ge 33, 3) := by decide +kernel
theorem d_Model_back_34 : decode b_Model_back 34 = .ok (.aload_n 0, 1) := by decide +kernel
theorem d_Model_back_35 : decode b_Model_back 35 = .ok (.getfield 19, 3) := by decide +kernel
theorem d_Model_back_38 : decode b_Model_back 38 = .ok (.iload_n 1, 1) := by decide +kernel
theorem d_Model_back_39 : decode b_Model_back 39 = .ok (.aload_n 0, 1) := by decide +kernel
theorem d_Model_back_40 : decode b_Model_back 40 = .ok (.getfield 34, 3) := by decide +kernel
theorem d_Model_back_43 : decode b_Model_back 43 = .ok (.iload_n 1, 1) := by decide +kernel
theorem d_Model_back_44 : decode b_Model_back 44 = .ok (.iaload, 1) := by decide +kernel
theorem d_Model_back_45 : decode b_Model_back 45 = .ok (.iastore, 1) := by decide +kernel
theorem d_Model_back_46 : decode b_Model_back 46 = .ok (.aload_n 0, 1) := by decide +kernel
theorem d_Model_back_47 : decode b_Model_back 47 = .ok (.getfield 22, 3) := by decide +kernel
theorem d_Model_back_50 : decode b_Model_back 50 = .ok (.iload_n 1, 1) := by decide +kernel
theorem d_Model_back_51 : decode b_Model_back 51 = .ok (.aload_n 0, 1) := by decide +kernel
theorem d_Model_back_52 : decode b_Model_back 52 = .ok (.getfield 37, 3) := by decide +kernel
theorem d_Model_back_55 : decode b_Model_back 55 = .ok (.iload_n 1, 1) := by decide +kernel
theorem d_Model_back_56 : decode b_Model_back 56 = .ok (.iaload, 1) := by decide +kernel
theorem d_Model_back_57 : decode b_Model_back 57 = .ok (.iastore, 1) := by decide +kernel
theorem d_Model_back_58 : decode b_Model_back 58 = .ok (.iinc 1 1, 3) := by decide +kernel
theorem d_Model_back_61 : decode b_Model_back 61 = .ok (.goto (-33), 3) := by decide +kernel
theorem d_Model_back_64 : decode b_Model_back 64 = .ok (.aload_n 0, 1) := by decide +kernel
theorem d_Model_back_65 : decode b_Model_back 65 = .ok (.getfield 75, 3) := by decide +kernel
theorem d_Model_back_68 : decode b_Model_back 68 = .ok (.ireturn, 1) := by decide +kernel
section S_Model_back
variable {p : Program} {l : Launch} {e : Env} {s : State} {m : MethodId} {args : Array Value} {below : List Frame} {meth : Method} {c : Code} {D : va_G} {cA : Nat → ClassId} {ad : Nat → Nat} {nC : Nat} {A : Nat → Prop} {r : Int32} {τ : St}
noncomputable def F_Model_back_28 : Nat → St → Int32 → Option (Int32 × St)
  | 0, _, _ => none
  | n + 1, s0, v1 => (if (6 : Int32) ≤ v1 then (some ((s0.1 0 0), s0)) else (if inB v1 6 = true then (if inB v1 6 = true then (lt (up1 s0 4 v1.toNatClampNeg (s0.1 9 v1.toNatClampNeg)) (fun s_7 => (if inB v1 6 = true then (if inB v1 6 = true then (lt (up1 s_7 5 v1.toNatClampNeg (s_7.1 10 v1.toNatClampNeg)) (fun s_10 => (F_Model_back_28 n s_10 (v1 + 1)))) else none) else none))) else none) else none))
set_option maxHeartbeats 4000000 in
set_option maxRecDepth 100000 in
theorem q_Model_back_28 (K : Fx p s m args meth c b_Model_back 2 R_Model (some .int))  : ∀ (n : Nat), ∀ (H : Heap) (locs : List Loc) (ls : Array Slot) (s0 : St) (v1 : Int32), Wh D cA ad shM A s s0 H locs → lv_has ls 2 [(0, .ref (ad 0)), (1, .int v1)] → F_Model_back_28 n s0 v1 = (some (r, τ)) → W p l e rm_Model_back s m args below meth c H locs 0 0 (MQ below (QcI D cA ad shM A r τ) args s 0 0 A) (F0 m 28 ls []) := by
  have hx := K.1.1; have hb := K.1.2.1
  intro n
  induction n with
  | zero =>
    intro H locs ls s0 v1 hw hl hF
    exact absurd hF (by rw [F_Model_back_28]; exact nofun)
  | succ n ih =>
    intro H locs ls s0 v1 hw hl hF
    rw [F_Model_back_28] at hF
    refine lv_iload_n hx hb d_Model_back_28 rfl (lv_at hl 1 rfl) ?_
    refine lv_bipush (v := 6) hx hb d_Model_back_29 (by decide) ?_
    refine lv_icmp_ge (tgt := 64) hx hb d_Model_back_31 (by decide) (fun c_4 => ?_) (fun c_4 => ?_)
    · replace hF := ifT hF c_4
      refine lv_aload_n hx hb d_Model_back_64 rfl (lv_at hl 0 rfl) ?_
      refine r_get (v := .int (s0.1 0 0)) K hw i_Model sh_Model rfl 0 (by decide) w_1025 rfl rfl rfl d_Model_back_65 ?_
      obtain ⟨hF, hG⟩ := sE2 hF
      subst hF
      subst hG
      exact r_iret K hw d_Model_back_68
    · replace hF := ifF hF c_4
      refine lv_aload_n hx hb d_Model_back_34 rfl (lv_at hl 0 rfl) ?_
      refine r_get (v := .ref (ad 4)) K hw i_Model sh_Model rfl 4 (by decide) w_1029 rfl rfl rfl d_Model_back_35 ?_
      refine lv_iload_n hx hb d_Model_back_38 rfl (lv_at hl 1 rfl) ?_
      refine lv_aload_n hx hb d_Model_back_39 rfl (lv_at hl 0 rfl) ?_
      refine r_get (v := .ref (ad 9)) K hw i_Model sh_Model rfl 15 (by decide) w_1040 rfl rfl rfl d_Model_back_40 ?_
      refine lv_iload_n hx hb d_Model_back_43 rfl (lv_at hl 1 rfl) ?_
      obtain ⟨g_5, hF⟩ := ifG hF
      refine r_iald (k := v1.toNatClampNeg) K hw (show shM[9]? = some (.inr (.inl 6)) from rfl) rfl (inB_vp g_5) d_Model_back_44 ?_
      obtain ⟨g_6, hF⟩ := ifG hF
      refine r_iast (k := v1.toNatClampNeg) K hw (show shM[4]? = some (.inr (.inl 6)) from rfl) rfl (inB_vp g_6) d_Model_back_45 (fun s_7 f_s_7 H locs hw => ?_)
      replace hF := ltN hF f_s_7
      refine lv_aload_n hx hb d_Model_back_46 rfl (lv_at hl 0 rfl) ?_
      refine r_get (v := .ref (ad 5)) K hw i_Model sh_Model rfl 5 (by decide) w_1030 rfl rfl rfl d_Model_back_47 ?_
      refine lv_iload_n hx hb d_Model_back_50 rfl (lv_at hl 1 rfl) ?_
      refine lv_aload_n hx hb d_Model_back_51 rfl (lv_at hl 0 rfl) ?_
      refine r_get (v := .ref (ad 10)) K hw i_Model sh_Model rfl 16 (by decide) w_1041 rfl rfl rfl d_Model_back_52 ?_
      refine lv_iload_n hx hb d_Model_back_55 rfl (lv_at hl 1 rfl) ?_
      obtain ⟨g_8, hF⟩ := ifG hF
      refine r_iald (k := v1.toNatClampNeg) K hw (show shM[10]? = some (.inr (.inl 6)) from rfl) rfl (inB_vp g_8) d_Model_back_56 ?_
      obtain ⟨g_9, hF⟩ := ifG hF
      refine r_iast (k := v1.toNatClampNeg) K hw (show shM[5]? = some (.inr (.inl 6)) from rfl) rfl (inB_vp g_9) d_Model_back_57 (fun s_10 f_s_10 H locs hw => ?_)
      replace hF := ltN hF f_s_10
      refine lv_iinc (v := (v1 + 1)) (lv' := [(1, .int (v1 + 1)), (0, .ref (ad 0))]) hx hb d_Model_back_58 hl (k := 1) rfl rfl (by decide) rfl (fun ls hl => ?_)
      refine lv_goto (tgt := 28) hx hb d_Model_back_61 (by decide) ?_
      exact ih _ _ _ _ _  hw (lv_sub hl [1, 0] rfl) hF
noncomputable def F_Model_back_0 (s0 : St) : Option (Int32 × St) := (if ¬ (s0.1 0 12) = 0 then (lt (up1 s0 0 0 (s0.1 0 13)) (fun s_2 => (lt (up1 s_2 0 11 (s_2.1 0 14)) (fun s_3 => (F_Model_back_28 FU s_3 (0 : Int32)))))) else (some ((-3 : Int32), s0)))
set_option maxHeartbeats 4000000 in
set_option maxRecDepth 100000 in
theorem q_Model_back_0 (K : Fx p s m args meth c b_Model_back 2 R_Model (some .int))  : ∀ (H : Heap) (locs : List Loc) (ls : Array Slot) (s0 : St), Wh D cA ad shM A s s0 H locs → lv_has ls 2 [(0, .ref (ad 0))] → F_Model_back_0 s0 = (some (r, τ)) → W p l e rm_Model_back s m args below meth c H locs 0 0 (MQ below (QcI D cA ad shM A r τ) args s 0 0 A) (F0 m 0 ls []) := by
  have hx := K.1.1; have hb := K.1.2.1
  intro H locs ls s0 hw hl hF
  unfold F_Model_back_0 at hF
  refine lv_aload_n hx hb d_Model_back_0 rfl (lv_at hl 0 rfl) ?_
  refine r_get (v := .int (s0.1 0 12)) K hw i_Model sh_Model rfl 12 (by decide) w_1037 rfl rfl rfl d_Model_back_1 ?_
  refine lv_if_ne (tgt := 10) hx hb d_Model_back_4 (by decide) (fun c_1 => ?_) (fun c_1 => ?_)
  · replace hF := ifT hF c_1
    refine lv_aload_n hx hb d_Model_back_10 rfl (lv_at hl 0 rfl) ?_
    refine lv_aload_n hx hb d_Model_back_11 rfl (lv_at hl 0 rfl) ?_
    refine r_get (v := .int (s0.1 0 13)) K hw i_Model sh_Model rfl 13 (by decide) w_1038 rfl rfl rfl d_Model_back_12 ?_
    refine r_putI K hw i_Model t_Model t_Model_ok n_Model sh_Model rfl 0 (by decide) w_1025 rfl rfl rfl rfl rfl d_Model_back_15 (fun s_2 f_s_2 H locs hw => ?_)
    replace hF := ltN hF f_s_2
    refine lv_aload_n hx hb d_Model_back_18 rfl (lv_at hl 0 rfl) ?_
    refine lv_aload_n hx hb d_Model_back_19 rfl (lv_at hl 0 rfl) ?_
    refine r_get (v := .int (s_2.1 0 14)) K hw i_Model sh_Model rfl 14 (by decide) w_1039 rfl rfl rfl d_Model_back_20 ?_
    refine r_putI K hw i_Model t_Model t_Model_ok n_Model sh_Model rfl 11 (by decide) w_1036 rfl rfl rfl rfl rfl d_Model_back_23 (fun s_3 f_s_3 H locs hw => ?_)
    replace hF := ltN hF f_s_3
    refine lv_iconst (v := 0) hx hb d_Model_back_26 (by decide) ?_
    refine lv_istore_n (lv' := [(1, .int (0 : Int32)), (0, .ref (ad 0))]) hx hb d_Model_back_27 rfl hl (by decide) rfl (fun ls hl => ?_)
    exact q_Model_back_28 K FU _ _ _ _ _  hw (lv_sub hl [1, 0] rfl) hF
  · replace hF := ifN hF c_1
    refine lv_bipush (v := -3) hx hb d_Model_back_7 (by decide) ?_
    obtain ⟨hF, hG⟩ := sE2 hF
    subst hF
    subst hG
    exact r_iret K hw d_Model_back_9
end S_Model_back
noncomputable abbrev F_Model_back := F_Model_back_0
theorem c_Model_back {l : Launch} {D : va_G} {cA : Nat → ClassId} {ad : Nat → Nat} {s0 τ : St} {r : Int32}   (hF : F_Model_back s0 = (some (r, τ))) : MI l D cA ad shM y_Model_back (wT y_Model_back b_Model_back 2 (some .int)) rm_Model_back [.ref (ad 0)] s0 r τ := fun sz => m_start (Qc := fun A => QcI D cA ad shM A r τ) (by decide +kernel) w_1390 (Nat.le_of_ble_eq_true rfl) (fun p e s m below meth c ls K hl hw => q_Model_back_0 K _ _ _ _   hw hl hF)

/-! Model.sheet(III)I -/
abbrev b_Model_sheet : ByteArray := prog_13_method_73_code
def y_Model_sheet : MethodName := ⟨R_Model, "sheet", "(III)I"⟩
theorem a_Model_sheet : y_Model_sheet.cls = R_Model ∧ y_Model_sheet.cls ≠ "java/lang/invoke/MethodHandle" ∧ y_Model_sheet.cls ≠ "java/lang/invoke/VarHandle" ∧ (parseMethodDescriptor y_Model_sheet.desc).map (fun d => d.parameters.length) = some 3 := by decide +kernel
abbrev rm_Model_sheet : Room := { frames := 1, cells := 0, slots := 0, locals := 22 }
theorem w_1394 : Cond.code y_Model_sheet b_Model_sheet 5 (some .int) ∈ TB := tb_in 1394 (by decide +kernel) (by decide +kernel)
theorem d_Model_sheet_0 : decode b_Model_sheet 0 = .ok (.iload_n 1, 1) := by decide +kernel
theorem d_Model_sheet_1 : decode b_Model_sheet 1 = .ok (.iconst 0, 1) := by decide +kernel
theorem d_Model_sheet_2 : decode b_Model_sheet 2 = .ok (.iconst 3, 1) := by decide +kernel
theorem d_Model_sheet_3 : decode b_Model_sheet 3 = .ok (.invokestatic 78, 3) := by decide +kernel
theorem d_Model_sheet_6 : decode b_Model_sheet 6 = .ok (.ifCond .eq 23, 3) := by decide +kernel
theorem d_Model_sheet_9 : decode b_Model_sheet 9 = .ok (.iload_n 2, 1) := by decide +kernel
theorem d_Model_sheet_10 : decode b_Model_sheet 10 = .ok (.iconst (-1), 1) := by decide +kernel
theorem d_Model_sheet_11 : decode b_Model_sheet 11 = .ok (.iconst 2, 1) := by decide +kernel
theorem d_Model_sheet_12 : decode b_Model_sheet 12 = .ok (.invokestatic 78, 3) := by decide +kernel
theorem d_Model_sheet_15 : decode b_Model_sheet 15 = .ok (.ifCond .eq 14, 3) := by decide +kernel
theorem d_Model_sheet_18 : decode b_Model_sheet 18 = .ok (.iload_n 2, 1) := by decide +kernel
theorem d_Model_sheet_19 : decode b_Model_sheet 19 = .ok (.iconst (-1), 1) := by decide +kernel
theorem d_Model_sheet_20 : decode b_Model_sheet 20 = .ok (.if_icmp .eq 12, 3) := by decide +kernel
theorem d_Model_sheet_23 : decode b_Model_sheet 23 = .ok (.iload_n 3, 1) := by decide +kernel
theorem d_Model_sheet_24 : decode b_Model_sheet 24 = .ok (.bipush 40, 2) := by decide +kernel
theorem d_Model_sheet_26 : decode b_Model_sheet 26 = .ok (.if_icmp .le 6, 3) := by decide +kernel
theorem d_Model_sheet_29 : decode b_Model_sheet 29 = .ok (.bipush (-2), 2) := by decide +kernel
theorem d_Model_sheet_31 : decode b_Model_sheet 31 = .ok (.ireturn, 1) := by decide +kernel
theorem d_Model_sheet_32 : decode b_Model_sheet 32 = .ok (.iload_n 2, 1) := by decide +kernel
theorem d_Model_sheet_33 : decode b_Model_sheet 33 = .ok (.iconst (-1), 1) := by decide +kernel
theorem d_Model_sheet_34 : decode b_Model_sheet 34 = .ok (.if_icmp .eq 10, 3) := by decide +kernel
theorem d_Model_sheet_37 : decode b_Model_sheet 37 = .ok (.iload_n 3, 1) := by decide +kernel
theorem d_Model_sheet_38 : decode b_Model_sheet 38 = .ok (.ifCond .ge 6, 3) := by decide +kernel
theorem d_Model_sheet_41 : decode b_Model_sheet 41 = .ok (.bipush (-14), 2) := by decide +kernel
theorem d_Model_sheet_43 : decode b_Model_sheet 43 = .ok (.ireturn, 1) := by decide +kernel
theorem d_Model_sheet_44 : decode b_Model_sheet 44 = .ok (.aload_n 0, 1) := by decide +kernel
theorem d_Model_sheet_45 : decode b_Model_sheet 45 = .ok (.getfield 40, 3) := by decide +kernel
theorem d_Model_sheet_48 : decode b_Model_sheet 48 = .ok (.iload_n 1, 1) := by decide +kernel
theorem d_Model_sheet_49 : decode b_Model_sheet 49 = .ok (.iload_n 2, 1) := by decide +kernel
theorem d_Model_sheet_50 : decode b_Model_sheet 50 = .ok (.iastore, 1) := by decide +kernel
theorem d_Model_sheet_51 : decode b_Model_sheet 51 = .ok (.aload_n 0, 1) := by decide +kernel
theorem d_Model_sheet_52 : decode b_Model_sheet 52 = .ok (.getfield 43, 3) := by decide +kernel
theorem d_Model_sheet_55 : decode b_Model_sheet 55 = .ok (.iload_n 1, 1) := by decide +kernel
theorem d_Model_sheet_56 : decode b_Model_sheet 56 = .ok (.iload_n 2, 1) := by decide +kernel
theorem d_Model_sheet_57 : decode b_Model_sheet 57 = .ok (.iconst (-1), 1) := by decide +kernel
theorem d_Model_sheet_58 : decode b_Model_sheet 58 = .ok (.if_icmp .ne 7, 3) := by decide +kernel
theorem d_Model_sheet_61 : decode b_Model_sheet 61 = .ok (.iconst 0, 1) := by decide +kernel
theorem d_Model_sheet_62 : decode b_Model_sheet 62 = .ok (.goto 4, 3) := by decide +kernel
theorem d_Model_sheet_65 : decode b_Model_sheet 65 = .ok (.iload_n 3, 1) := by decide +kernel
theorem d_Model_sheet_66 : decode b_Model_sheet 66 = .ok (.iastore, 1) := by decide +kernel
theorem d_Model_sheet_67 : decode b_Model_sheet 67 = .ok (.iconst 0, 1) := by decide +kernel
theorem d_Model_sheet_68 : decode b_Model_sheet 68 = .ok (.istore 4, 2) := by decide +kernel
theorem d_Model_sheet_70 : decode b_Model_sheet 70 = .ok (.iload 4, 2) := by decide +kernel
theorem d_Model_sheet_72 : decode b_Model_sheet 72 = .ok (.bipush 40, 2) := by decide +kernel
theorem d_Model_sheet_74 : decode b_Model_sheet 74 = .ok (.if_icmp .ge 22, 3) := by decide +kernel
theorem d_Model_sheet_77 : decode b_Model_sheet 77 = .ok (.aload_n 0, 1) := by decide +kernel
theorem d_Model_sheet_78 : decode b_Model_sheet 78 = .ok (.getfield 46, 3) := by decide +kernel
theorem d_Model_sheet_81 : decode b_Model_sheet 81 = .ok (.bipush 40, 2) := by decide +kernel
theorem d_Model_sheet_83 : decode b_Model_sheet 83 = .ok (.iload_n 1, 1) := by decide +kernel
theorem d_Model_sheet_84 : decode b_Model_sheet 84 = .ok (.imul, 1) := by decide +kernel
theorem d_Model_sheet_85 : decode b_Model_sheet 85 = .ok (.iload 4, 2) := by decide +kernel
theorem d_Model_sheet_87 : decode b_Model_sheet 87 = .ok (.iadd, 1) := by decide +kernel
theorem d_Model_sheet_88 : decode b_Model_sheet 88 = .ok (.iconst 0, 1) := by decide +kernel
theorem d_Model_sheet_89 : decode b_Model_sheet 89 = .ok (.iastore, 1) := by decide +kernel
theorem d_Model_sheet_90 : decode b_Model_sheet 90 = .ok (.iinc 4 1, 3) := by decide +kernel
theorem d_Model_sheet_93 : decode b_Model_sheet 93 = .ok (.goto (-23), 3) := by decide +kernel
theorem d_Model_sheet_96 : decode b_Model_sheet 96 = .ok (.iconst 1, 1) := by decide +kernel
theorem d_Model_sheet_97 : decode b_Model_sheet 97 = .ok (.ireturn, 1) := by decide +kernel
section S_Model_sheet
variable {p : Program} {l : Launch} {e : Env} {s : State} {m : MethodId} {args : Array Value} {below : List Frame} {meth : Method} {c : Code} {D : va_G} {cA : Nat → ClassId} {ad : Nat → Nat} {nC : Nat} {A : Nat → Prop} {r : Int32} {τ : St}
noncomputable def F_Model_sheet_70 : Nat → St → Int32 → Int32 → Option (Int32 × St)
  | 0, _, _, _ => none
  | n + 1, s0, v1, v4 => (if (40 : Int32) ≤ v4 then (some ((1 : Int32), s0)) else (if inB (((40 : Int32) * v1) + v4) 160 = true then (lt (up1 s0 13 (((40 : Int32) * v1) + v4).toNatClampNeg (0 : Int32)) (fun s_12 => (F_Model_sheet_70 n s_12 v1 (v4 + 1)))) else none))
set_option maxHeartbeats 4000000 in
set_option maxRecDepth 100000 in
theorem q_Model_sheet_70 (K : Fx p s m args meth c b_Model_sheet 5 R_Model (some .int))  : ∀ (n : Nat), ∀ (H : Heap) (locs : List Loc) (ls : Array Slot) (s0 : St) (v1 : Int32) (v4 : Int32), Wh D cA ad shM A s s0 H locs → lv_has ls 5 [(0, .ref (ad 0)), (1, .int v1), (4, .int v4)] → F_Model_sheet_70 n s0 v1 v4 = (some (r, τ)) → W p l e rm_Model_sheet s m args below meth c H locs 0 0 (MQ below (QcI D cA ad shM A r τ) args s 0 0 A) (F0 m 70 ls []) := by
  have hx := K.1.1; have hb := K.1.2.1
  intro n
  induction n with
  | zero =>
    intro H locs ls s0 v1 v4 hw hl hF
    exact absurd hF (by rw [F_Model_sheet_70]; exact nofun)
  | succ n ih =>
    intro H locs ls s0 v1 v4 hw hl hF
    rw [F_Model_sheet_70] at hF
    refine lv_iload hx hb d_Model_sheet_70 (lv_at hl 2 rfl) ?_
    refine lv_bipush (v := 40) hx hb d_Model_sheet_72 (by decide) ?_
    refine lv_icmp_ge (tgt := 96) hx hb d_Model_sheet_74 (by decide) (fun c_10 => ?_) (fun c_10 => ?_)
    · replace hF := ifT hF c_10
      refine lv_iconst (v := 1) hx hb d_Model_sheet_96 (by decide) ?_
      obtain ⟨hF, hG⟩ := sE2 hF
      subst hF
      subst hG
      exact r_iret K hw d_Model_sheet_97
    · replace hF := ifF hF c_10
      refine lv_aload_n hx hb d_Model_sheet_77 rfl (lv_at hl 0 rfl) ?_
      refine r_get (v := .ref (ad 13)) K hw i_Model sh_Model rfl 19 (by decide) w_1044 rfl rfl rfl d_Model_sheet_78 ?_
      refine lv_bipush (v := 40) hx hb d_Model_sheet_81 (by decide) ?_
      refine lv_iload_n hx hb d_Model_sheet_83 rfl (lv_at hl 1 rfl) ?_
      refine lv_imul hx hb d_Model_sheet_84 ?_
      refine lv_iload hx hb d_Model_sheet_85 (lv_at hl 2 rfl) ?_
      refine lv_iadd hx hb d_Model_sheet_87 ?_
      refine lv_iconst (v := 0) hx hb d_Model_sheet_88 (by decide) ?_
      obtain ⟨g_11, hF⟩ := ifG hF
      refine r_iast (k := (((40 : Int32) * v1) + v4).toNatClampNeg) K hw (show shM[13]? = some (.inr (.inl 160)) from rfl) rfl (inB_vp g_11) d_Model_sheet_89 (fun s_12 f_s_12 H locs hw => ?_)
      replace hF := ltN hF f_s_12
      refine lv_iinc (v := (v4 + 1)) (lv' := [(4, .int (v4 + 1)), (0, .ref (ad 0)), (1, .int v1)]) hx hb d_Model_sheet_90 hl (k := 2) rfl rfl (by decide) rfl (fun ls hl => ?_)
      refine lv_goto (tgt := 70) hx hb d_Model_sheet_93 (by decide) ?_
      exact ih _ _ _ _ _ _  hw (lv_sub hl [1, 2, 0] rfl) hF
noncomputable def F_Model_sheet_66 (s0 : St) (v1 : Int32) (t1 : Int32) (t2 : Int32) : Option (Int32 × St) := (if inB t1 4 = true then (lt (up1 s0 12 t1.toNatClampNeg t2) (fun s_9 => (F_Model_sheet_70 FU s_9 v1 (0 : Int32)))) else none)
set_option maxHeartbeats 4000000 in
set_option maxRecDepth 100000 in
theorem q_Model_sheet_66 (K : Fx p s m args meth c b_Model_sheet 5 R_Model (some .int))  : ∀ (H : Heap) (locs : List Loc) (ls : Array Slot) (s0 : St) (v1 : Int32) (t1 : Int32) (t2 : Int32), Wh D cA ad shM A s s0 H locs → lv_has ls 5 [(0, .ref (ad 0)), (1, .int v1)] → F_Model_sheet_66 s0 v1 t1 t2 = (some (r, τ)) → W p l e rm_Model_sheet s m args below meth c H locs 0 0 (MQ below (QcI D cA ad shM A r τ) args s 0 0 A) (F0 m 66 ls [.int t2, .int t1, .ref (ad 12)]) := by
  have hx := K.1.1; have hb := K.1.2.1
  intro H locs ls s0 v1 t1 t2 hw hl hF
  unfold F_Model_sheet_66 at hF
  obtain ⟨g_8, hF⟩ := ifG hF
  refine r_iast (k := t1.toNatClampNeg) K hw (show shM[12]? = some (.inr (.inl 4)) from rfl) rfl (inB_vp g_8) d_Model_sheet_66 (fun s_9 f_s_9 H locs hw => ?_)
  replace hF := ltN hF f_s_9
  refine lv_iconst (v := 0) hx hb d_Model_sheet_67 (by decide) ?_
  refine lv_istore (lv' := [(4, .int (0 : Int32)), (0, .ref (ad 0)), (1, .int v1)]) hx hb d_Model_sheet_68 hl (by decide) rfl (fun ls hl => ?_)
  exact q_Model_sheet_70 K FU _ _ _ _ _ _  hw (lv_sub hl [1, 2, 0] rfl) hF
noncomputable def F_Model_sheet_44 (s0 : St) (v1 : Int32) (v2 : Int32) (v3 : Int32) : Option (Int32 × St) := (if inB v1 4 = true then (lt (up1 s0 11 v1.toNatClampNeg v2) (fun s_6 => (if ¬ v2 = (-1 : Int32) then (F_Model_sheet_66 s_6 v1 v1 v3) else (F_Model_sheet_66 s_6 v1 v1 (0 : Int32))))) else none)
set_option maxHeartbeats 4000000 in
set_option maxRecDepth 100000 in
theorem q_Model_sheet_44 (K : Fx p s m args meth c b_Model_sheet 5 R_Model (some .int))  : ∀ (H : Heap) (locs : List Loc) (ls : Array Slot) (s0 : St) (v1 : Int32) (v2 : Int32) (v3 : Int32), Wh D cA ad shM A s s0 H locs → lv_has ls 5 [(0, .ref (ad 0)), (1, .int v1), (2, .int v2), (3, .int v3)] → F_Model_sheet_44 s0 v1 v2 v3 = (some (r, τ)) → W p l e rm_Model_sheet s m args below meth c H locs 0 0 (MQ below (QcI D cA ad shM A r τ) args s 0 0 A) (F0 m 44 ls []) := by
  have hx := K.1.1; have hb := K.1.2.1
  intro H locs ls s0 v1 v2 v3 hw hl hF
  unfold F_Model_sheet_44 at hF
  refine lv_aload_n hx hb d_Model_sheet_44 rfl (lv_at hl 0 rfl) ?_
  refine r_get (v := .ref (ad 11)) K hw i_Model sh_Model rfl 17 (by decide) w_1042 rfl rfl rfl d_Model_sheet_45 ?_
  refine lv_iload_n hx hb d_Model_sheet_48 rfl (lv_at hl 1 rfl) ?_
  refine lv_iload_n hx hb d_Model_sheet_49 rfl (lv_at hl 2 rfl) ?_
  obtain ⟨g_5, hF⟩ := ifG hF
  refine r_iast (k := v1.toNatClampNeg) K hw (show shM[11]? = some (.inr (.inl 4)) from rfl) rfl (inB_vp g_5) d_Model_sheet_50 (fun s_6 f_s_6 H locs hw => ?_)
  replace hF := ltN hF f_s_6
  refine lv_aload_n hx hb d_Model_sheet_51 rfl (lv_at hl 0 rfl) ?_
  refine r_get (v := .ref (ad 12)) K hw i_Model sh_Model rfl 18 (by decide) w_1043 rfl rfl rfl d_Model_sheet_52 ?_
  refine lv_iload_n hx hb d_Model_sheet_55 rfl (lv_at hl 1 rfl) ?_
  refine lv_iload_n hx hb d_Model_sheet_56 rfl (lv_at hl 2 rfl) ?_
  refine lv_iconst (v := -1) hx hb d_Model_sheet_57 (by decide) ?_
  refine lv_icmp_ne (tgt := 65) hx hb d_Model_sheet_58 (by decide) (fun c_7 => ?_) (fun c_7 => ?_)
  · replace hF := ifT hF c_7
    refine lv_iload_n hx hb d_Model_sheet_65 rfl (lv_at hl 3 rfl) ?_
    exact q_Model_sheet_66 K _ _ _ _ _ _ _  hw (lv_sub hl [0, 1] rfl) hF
  · replace hF := ifN hF c_7
    refine lv_iconst (v := 0) hx hb d_Model_sheet_61 (by decide) ?_
    refine lv_goto (tgt := 66) hx hb d_Model_sheet_62 (by decide) ?_
    exact q_Model_sheet_66 K _ _ _ _ _ _ _  hw (lv_sub hl [0, 1] rfl) hF
noncomputable def F_Model_sheet_32 (s0 : St) (v1 : Int32) (v2 : Int32) (v3 : Int32) : Option (Int32 × St) := (if v2 = (-1 : Int32) then (F_Model_sheet_44 s0 v1 v2 v3) else (if 0 ≤ v3 then (F_Model_sheet_44 s0 v1 v2 v3) else (some ((-14 : Int32), s0))))
set_option maxHeartbeats 4000000 in
set_option maxRecDepth 100000 in
theorem q_Model_sheet_32 (K : Fx p s m args meth c b_Model_sheet 5 R_Model (some .int))  : ∀ (H : Heap) (locs : List Loc) (ls : Array Slot) (s0 : St) (v1 : Int32) (v2 : Int32) (v3 : Int32), Wh D cA ad shM A s s0 H locs → lv_has ls 5 [(0, .ref (ad 0)), (1, .int v1), (2, .int v2), (3, .int v3)] → F_Model_sheet_32 s0 v1 v2 v3 = (some (r, τ)) → W p l e rm_Model_sheet s m args below meth c H locs 0 0 (MQ below (QcI D cA ad shM A r τ) args s 0 0 A) (F0 m 32 ls []) := by
  have hx := K.1.1; have hb := K.1.2.1
  intro H locs ls s0 v1 v2 v3 hw hl hF
  unfold F_Model_sheet_32 at hF
  refine lv_iload_n hx hb d_Model_sheet_32 rfl (lv_at hl 2 rfl) ?_
  refine lv_iconst (v := -1) hx hb d_Model_sheet_33 (by decide) ?_
  refine lv_icmp_eq (tgt := 44) hx hb d_Model_sheet_34 (by decide) (fun c_4 => ?_) (fun c_4 => ?_)
  · replace hF := ifT hF c_4
    exact q_Model_sheet_44 K _ _ _ _ _ _ _  hw (lv_sub hl [0, 1, 2, 3] rfl) hF
  · replace hF := ifF hF c_4
    refine lv_iload_n hx hb d_Model_sheet_37 rfl (lv_at hl 3 rfl) ?_
    refine lv_if_ge (tgt := 44) hx hb d_Model_sheet_38 (by decide) (fun c_13 => ?_) (fun c_13 => ?_)
    · replace hF := ifT hF c_13
      exact q_Model_sheet_44 K _ _ _ _ _ _ _  hw (lv_sub hl [0, 1, 2, 3] rfl) hF
    · replace hF := ifF hF c_13
      refine lv_bipush (v := -14) hx hb d_Model_sheet_41 (by decide) ?_
      obtain ⟨hF, hG⟩ := sE2 hF
      subst hF
      subst hG
      exact r_iret K hw d_Model_sheet_43
noncomputable def F_Model_sheet_0 (s0 : St) (v1 : Int32) (v2 : Int32) (v3 : Int32) : Option (Int32 × St) := (if (F_Model_in v1 (0 : Int32) (3 : Int32)) = 0 then (some ((-2 : Int32), s0)) else (if (F_Model_in v2 (-1 : Int32) (2 : Int32)) = 0 then (some ((-2 : Int32), s0)) else (if v2 = (-1 : Int32) then (F_Model_sheet_32 s0 v1 v2 v3) else (if v3 ≤ (40 : Int32) then (F_Model_sheet_32 s0 v1 v2 v3) else (some ((-2 : Int32), s0))))))
set_option maxHeartbeats 4000000 in
set_option maxRecDepth 100000 in
theorem q_Model_sheet_0 (K : Fx p s m args meth c b_Model_sheet 5 R_Model (some .int))  : ∀ (H : Heap) (locs : List Loc) (ls : Array Slot) (s0 : St) (v1 : Int32) (v2 : Int32) (v3 : Int32), Wh D cA ad shM A s s0 H locs → lv_has ls 5 [(0, .ref (ad 0)), (1, .int v1), (2, .int v2), (3, .int v3)] → F_Model_sheet_0 s0 v1 v2 v3 = (some (r, τ)) → W p l e rm_Model_sheet s m args below meth c H locs 0 0 (MQ below (QcI D cA ad shM A r τ) args s 0 0 A) (F0 m 0 ls []) := by
  have hx := K.1.1; have hb := K.1.2.1
  intro H locs ls s0 v1 v2 v3 hw hl hF
  unfold F_Model_sheet_0 at hF
  refine lv_iload_n hx hb d_Model_sheet_0 rfl (lv_at hl 1 rfl) ?_
  refine lv_iconst (v := 0) hx hb d_Model_sheet_1 (by decide) ?_
  refine lv_iconst (v := 3) hx hb d_Model_sheet_2 (by decide) ?_
  refine r_callSI (As := [.int v1, .int (0 : Int32), .int (3 : Int32)]) (rest := []) K hw hl.1 (c_Model_in (l := l) (D := D) (cA := cA) (ad := ad) (s0 := s0)   rfl) (tb_gS w_986 w_987 w_80 w_988) a_Model_in ⟨rfl, rfl, Nat.le_of_ble_eq_true rfl, Nat.le_of_ble_eq_true rfl⟩ rfl rfl (Nat.le_of_ble_eq_true rfl) d_Model_sheet_3 (fun H locs hw => ?_)
  refine lv_if_eq (tgt := 29) hx hb d_Model_sheet_6 (by decide) (fun c_1 => ?_) (fun c_1 => ?_)
  · replace hF := ifT hF c_1
    refine lv_bipush (v := -2) hx hb d_Model_sheet_29 (by decide) ?_
    obtain ⟨hF, hG⟩ := sE2 hF
    subst hF
    subst hG
    exact r_iret K hw d_Model_sheet_31
  · replace hF := ifF hF c_1
    refine lv_iload_n hx hb d_Model_sheet_9 rfl (lv_at hl 2 rfl) ?_
    refine lv_iconst (v := -1) hx hb d_Model_sheet_10 (by decide) ?_
    refine lv_iconst (v := 2) hx hb d_Model_sheet_11 (by decide) ?_
    refine r_callSI (As := [.int v2, .int (-1 : Int32), .int (2 : Int32)]) (rest := []) K hw hl.1 (c_Model_in (l := l) (D := D) (cA := cA) (ad := ad) (s0 := s0)   rfl) (tb_gS w_986 w_987 w_80 w_988) a_Model_in ⟨rfl, rfl, Nat.le_of_ble_eq_true rfl, Nat.le_of_ble_eq_true rfl⟩ rfl rfl (Nat.le_of_ble_eq_true rfl) d_Model_sheet_12 (fun H locs hw => ?_)
    refine lv_if_eq (tgt := 29) hx hb d_Model_sheet_15 (by decide) (fun c_2 => ?_) (fun c_2 => ?_)
    · replace hF := ifT hF c_2
      refine lv_bipush (v := -2) hx hb d_Model_sheet_29 (by decide) ?_
      obtain ⟨hF, hG⟩ := sE2 hF
      subst hF
      subst hG
      exact r_iret K hw d_Model_sheet_31
    · replace hF := ifF hF c_2
      refine lv_iload_n hx hb d_Model_sheet_18 rfl (lv_at hl 2 rfl) ?_
      refine lv_iconst (v := -1) hx hb d_Model_sheet_19 (by decide) ?_
      refine lv_icmp_eq (tgt := 32) hx hb d_Model_sheet_20 (by decide) (fun c_3 => ?_) (fun c_3 => ?_)
      · replace hF := ifT hF c_3
        exact q_Model_sheet_32 K _ _ _ _ _ _ _  hw (lv_sub hl [0, 1, 2, 3] rfl) hF
      · replace hF := ifF hF c_3
        refine lv_iload_n hx hb d_Model_sheet_23 rfl (lv_at hl 3 rfl) ?_
        refine lv_bipush (v := 40) hx hb d_Model_sheet_24 (by decide) ?_
        refine lv_icmp_le (tgt := 32) hx hb d_Model_sheet_26 (by decide) (fun c_14 => ?_) (fun c_14 => ?_)
        · replace hF := ifT hF c_14
          exact q_Model_sheet_32 K _ _ _ _ _ _ _  hw (lv_sub hl [0, 1, 2, 3] rfl) hF
        · replace hF := ifF hF c_14
          refine lv_bipush (v := -2) hx hb d_Model_sheet_29 (by decide) ?_
          obtain ⟨hF, hG⟩ := sE2 hF
          subst hF
          subst hG
          exact r_iret K hw d_Model_sheet_31
end S_Model_sheet
noncomputable abbrev F_Model_sheet := F_Model_sheet_0
theorem c_Model_sheet {l : Launch} {D : va_G} {cA : Nat → ClassId} {ad : Nat → Nat} {s0 τ : St} {r : Int32} {v1 : Int32} {v2 : Int32} {v3 : Int32}  (hF : F_Model_sheet s0 v1 v2 v3 = (some (r, τ))) : MI l D cA ad shM y_Model_sheet (wT y_Model_sheet b_Model_sheet 5 (some .int)) rm_Model_sheet [.ref (ad 0), .int v1, .int v2, .int v3] s0 r τ := fun sz => m_start (Qc := fun A => QcI D cA ad shM A r τ) (by decide +kernel) w_1394 (Nat.le_of_ble_eq_true rfl) (fun p e s m below meth c ls K hl hw => q_Model_sheet_0 K _ _ _ _ _ _ _  hw hl hF)

/-! Model.cell(III)I -/
abbrev b_Model_cell : ByteArray := prog_13_method_74_code
def y_Model_cell : MethodName := ⟨R_Model, "cell", "(III)I"⟩
theorem a_Model_cell : y_Model_cell.cls = R_Model ∧ y_Model_cell.cls ≠ "java/lang/invoke/MethodHandle" ∧ y_Model_cell.cls ≠ "java/lang/invoke/VarHandle" ∧ (parseMethodDescriptor y_Model_cell.desc).map (fun d => d.parameters.length) = some 3 := by decide +kernel
abbrev rm_Model_cell : Room := { frames := 1, cells := 0, slots := 0, locals := 22 }
theorem w_1398 : Cond.code y_Model_cell b_Model_cell 4 (some .int) ∈ TB := tb_in 1398 (by decide +kernel) (by decide +kernel)
theorem d_Model_cell_0 : decode b_Model_cell 0 = .ok (.iload_n 1, 1) := by decide +kernel
theorem d_Model_cell_1 : decode b_Model_cell 1 = .ok (.iconst 0, 1) := by decide +kernel
theorem d_Model_cell_2 : decode b_Model_cell 2 = .ok (.iconst 3, 1) := by decide +kernel
theorem d_Model_cell_3 : decode b_Model_cell 3 = .ok (.invokestatic 78, 3) := by decide +kernel
theorem d_Model_cell_6 : decode b_Model_cell 6 = .ok (.ifCond .ne 6, 3) := by decide +kernel
theorem d_Model_cell_9 : decode b_Model_cell 9 = .ok (.bipush (-2), 2) := by decide +kernel
theorem d_Model_cell_11 : decode b_Model_cell 11 = .ok (.ireturn, 1) := by decide +kernel
theorem d_Model_cell_12 : decode b_Model_cell 12 = .ok (.aload_n 0, 1) := by decide +kernel
theorem d_Model_cell_13 : decode b_Model_cell 13 = .ok (.getfield 40, 3) := by decide +kernel
theorem d_Model_cell_16 : decode b_Model_cell 16 = .ok (.iload_n 1, 1) := by decide +kernel
theorem d_Model_cell_17 : decode b_Model_cell 17 = .ok (.iaload, 1) := by decide +kernel
theorem d_Model_cell_18 : decode b_Model_cell 18 = .ok (.iconst (-1), 1) := by decide +kernel
theorem d_Model_cell_19 : decode b_Model_cell 19 = .ok (.if_icmp .ne 6, 3) := by decide +kernel
theorem d_Model_cell_22 : decode b_Model_cell 22 = .ok (.bipush (-11), 2) := by decide +kernel
theorem d_Model_cell_24 : decode b_Model_cell 24 = .ok (.ireturn, 1) := by decide +kernel
theorem d_Model_cell_25 : decode b_Model_cell 25 = .ok (.iload_n 2, 1) := by decide +kernel
theorem d_Model_cell_26 : decode b_Model_cell 26 = .ok (.iconst 0, 1) := by decide +kernel
theorem d_Model_cell_27 : decode b_Model_cell 27 = .ok (.aload_n 0, 1) := by decide +kernel
theorem d_Model_cell_28 : decode b_Model_cell 28 = .ok (.getfield 43, 3) := by decide +kernel
theorem d_Model_cell_31 : decode b_Model_cell 31 = .ok (.iload_n 1, 1) := by decide +kernel
theorem d_Model_cell_32 : decode b_Model_cell 32 = .ok (.iaload, 1) := by decide +kernel
theorem d_Model_cell_33 : decode b_Model_cell 33 = .ok (.iconst 1, 1) := by decide +kernel
theorem d_Model_cell_34 : decode b_Model_cell 34 = .ok (.isub, 1) := by decide +kernel
theorem d_Model_cell_35 : decode b_Model_cell 35 = .ok (.invokestatic 78, 3) := by decide +kernel
theorem d_Model_cell_38 : decode b_Model_cell 38 = .ok (.ifCond .ne 6, 3) := by decide +kernel
theorem d_Model_cell_41 : decode b_Model_cell 41 = .ok (.bipush (-12), 2) := by decide +kernel
theorem d_Model_cell_43 : decode b_Model_cell 43 = .ok (.ireturn, 1) := by decide +kernel
theorem d_Model_cell_44 : decode b_Model_cell 44 = .ok (.aload_n 0, 1) := by decide +kernel
theorem d_Model_cell_45 : decode b_Model_cell 45 = .ok (.getfield 46, 3) := by decide +kernel
theorem d_Model_cell_48 : decode b_Model_cell 48 = .ok (.bipush 40, 2) := by decide +kernel
theorem d_Model_cell_50 : decode b_Model_cell 50 = .ok (.iload_n 1, 1) := by decide +kernel
theorem d_Model_cell_51 : decode b_Model_cell 51 = .ok (.imul, 1) := by decide +kernel
theorem d_Model_cell_52 : decode b_Model_cell 52 = .ok (.iload_n 2, 1) := by decide +kernel
theorem d_Model_cell_53 : decode b_Model_cell 53 = .ok (.iadd, 1) := by decide +kernel
theorem d_Model_cell_54 : decode b_Model_cell 54 = .ok (.aload_n 0, 1) := by decide +kernel
theorem d_Model_cell_55 : decode b_Model_cell 55 = .ok (.getfield 40, 3) := by decide +kernel
theorem d_Model_cell_58 : decode b_Model_cell 58 = .ok (.iload_n 1, 1) := by decide +kernel
theorem d_Model_cell_59 : decode b_Model_cell 59 = .ok (.iaload, 1) := by decide +kernel
theorem d_Model_cell_60 : decode b_Model_cell 60 = .ok (.ifCond .ne 8, 3) := by decide +kernel
theorem d_Model_cell_63 : decode b_Model_cell 63 = .ok (.iload_n 3, 1) := by decide +kernel
theorem d_Model_cell_64 : decode b_Model_cell 64 = .ok (.i2b, 1) := by decide +kernel
theorem d_Model_cell_65 : decode b_Model_cell 65 = .ok (.goto 19, 3) := by decide +kernel
theorem d_Model_cell_68 : decode b_Model_cell 68 = .ok (.aload_n 0, 1) := by decide +kernel
theorem d_Model_cell_69 : decode b_Model_cell 69 = .ok (.getfield 40, 3) := by decide +kernel
theorem d_Model_cell_72 : decode b_Model_cell 72 = .ok (.iload_n 1, 1) := by decide +kernel
theorem d_Model_cell_73 : decode b_Model_cell 73 = .ok (.iaload, 1) := by decide +kernel
theorem d_Model_cell_74 : decode b_Model_cell 74 = .ok (.iconst 1, 1) := by decide +kernel
theorem d_Model_cell_75 : decode b_Model_cell 75 = .ok (.if_icmp .ne 8, 3) := by decide +kernel
theorem d_Model_cell_78 : decode b_Model_cell 78 = .ok (.iload_n 3, 1) := by decide +kernel
theorem d_Model_cell_79 : decode b_Model_cell 79 = .ok (.i2s, 1) := by decide +kernel
theorem d_Model_cell_80 : decode b_Model_cell 80 = .ok (.goto 4, 3) := by decide +kernel
theorem d_Model_cell_83 : decode b_Model_cell 83 = .ok (.iload_n 3, 1) := by decide +kernel
theorem d_Model_cell_84 : decode b_Model_cell 84 = .ok (.iastore, 1) := by decide +kernel
theorem d_Model_cell_85 : decode b_Model_cell 85 = .ok (.iconst 1, 1) := by decide +kernel
theorem d_Model_cell_86 : decode b_Model_cell 86 = .ok (.ireturn, 1) := by decide +kernel
section S_Model_cell
variable {p : Program} {l : Launch} {e : Env} {s : State} {m : MethodId} {args : Array Value} {below : List Frame} {meth : Method} {c : Code} {D : va_G} {cA : Nat → ClassId} {ad : Nat → Nat} {nC : Nat} {A : Nat → Prop} {r : Int32} {τ : St}
noncomputable def F_Model_cell_84 (s0 : St) (t1 : Int32) (t2 : Int32) : Option (Int32 × St) := (if inB t1 160 = true then (lt (up1 s0 13 t1.toNatClampNeg t2) (fun s_11 => (some ((1 : Int32), s_11)))) else none)
set_option maxHeartbeats 4000000 in
set_option maxRecDepth 100000 in
theorem q_Model_cell_84 (K : Fx p s m args meth c b_Model_cell 4 R_Model (some .int))  : ∀ (H : Heap) (locs : List Loc) (ls : Array Slot) (s0 : St) (t1 : Int32) (t2 : Int32), Wh D cA ad shM A s s0 H locs → lv_has ls 4 [] → F_Model_cell_84 s0 t1 t2 = (some (r, τ)) → W p l e rm_Model_cell s m args below meth c H locs 0 0 (MQ below (QcI D cA ad shM A r τ) args s 0 0 A) (F0 m 84 ls [.int t2, .int t1, .ref (ad 13)]) := by
  have hx := K.1.1; have hb := K.1.2.1
  intro H locs ls s0 t1 t2 hw hl hF
  unfold F_Model_cell_84 at hF
  obtain ⟨g_10, hF⟩ := ifG hF
  refine r_iast (k := t1.toNatClampNeg) K hw (show shM[13]? = some (.inr (.inl 160)) from rfl) rfl (inB_vp g_10) d_Model_cell_84 (fun s_11 f_s_11 H locs hw => ?_)
  replace hF := ltN hF f_s_11
  refine lv_iconst (v := 1) hx hb d_Model_cell_85 (by decide) ?_
  obtain ⟨hF, hG⟩ := sE2 hF
  subst hF
  subst hG
  exact r_iret K hw d_Model_cell_86
noncomputable def F_Model_cell_0 (s0 : St) (v1 : Int32) (v2 : Int32) (v3 : Int32) : Option (Int32 × St) := (if ¬ (F_Model_in v1 (0 : Int32) (3 : Int32)) = 0 then (if inB v1 4 = true then (if ¬ (s0.1 11 v1.toNatClampNeg) = (-1 : Int32) then (if inB v1 4 = true then (if ¬ (F_Model_in v2 (0 : Int32) ((s0.1 12 v1.toNatClampNeg) - (1 : Int32))) = 0 then (if inB v1 4 = true then (if ¬ (s0.1 11 v1.toNatClampNeg) = 0 then (if inB v1 4 = true then (if ¬ (s0.1 11 v1.toNatClampNeg) = (1 : Int32) then (F_Model_cell_84 s0 (((40 : Int32) * v1) + v2) v3) else (F_Model_cell_84 s0 (((40 : Int32) * v1) + v2) (v3.toInt16.toInt32))) else none) else (F_Model_cell_84 s0 (((40 : Int32) * v1) + v2) (v3.toInt8.toInt32))) else none) else (some ((-12 : Int32), s0))) else none) else (some ((-11 : Int32), s0))) else none) else (some ((-2 : Int32), s0)))
set_option maxHeartbeats 4000000 in
set_option maxRecDepth 100000 in
theorem q_Model_cell_0 (K : Fx p s m args meth c b_Model_cell 4 R_Model (some .int))  : ∀ (H : Heap) (locs : List Loc) (ls : Array Slot) (s0 : St) (v1 : Int32) (v2 : Int32) (v3 : Int32), Wh D cA ad shM A s s0 H locs → lv_has ls 4 [(0, .ref (ad 0)), (1, .int v1), (2, .int v2), (3, .int v3)] → F_Model_cell_0 s0 v1 v2 v3 = (some (r, τ)) → W p l e rm_Model_cell s m args below meth c H locs 0 0 (MQ below (QcI D cA ad shM A r τ) args s 0 0 A) (F0 m 0 ls []) := by
  have hx := K.1.1; have hb := K.1.2.1
  intro H locs ls s0 v1 v2 v3 hw hl hF
  unfold F_Model_cell_0 at hF
  refine lv_iload_n hx hb d_Model_cell_0 rfl (lv_at hl 1 rfl) ?_
  refine lv_iconst (v := 0) hx hb d_Model_cell_1 (by decide) ?_
  refine lv_iconst (v := 3) hx hb d_Model_cell_2 (by decide) ?_
  refine r_callSI (As := [.int v1, .int (0 : Int32), .int (3 : Int32)]) (rest := []) K hw hl.1 (c_Model_in (l := l) (D := D) (cA := cA) (ad := ad) (s0 := s0)   rfl) (tb_gS w_986 w_987 w_80 w_988) a_Model_in ⟨rfl, rfl, Nat.le_of_ble_eq_true rfl, Nat.le_of_ble_eq_true rfl⟩ rfl rfl (Nat.le_of_ble_eq_true rfl) d_Model_cell_3 (fun H locs hw => ?_)
  refine lv_if_ne (tgt := 12) hx hb d_Model_cell_6 (by decide) (fun c_1 => ?_) (fun c_1 => ?_)
  · replace hF := ifT hF c_1
    refine lv_aload_n hx hb d_Model_cell_12 rfl (lv_at hl 0 rfl) ?_
    refine r_get (v := .ref (ad 11)) K hw i_Model sh_Model rfl 17 (by decide) w_1042 rfl rfl rfl d_Model_cell_13 ?_
    refine lv_iload_n hx hb d_Model_cell_16 rfl (lv_at hl 1 rfl) ?_
    obtain ⟨g_2, hF⟩ := ifG hF
    refine r_iald (k := v1.toNatClampNeg) K hw (show shM[11]? = some (.inr (.inl 4)) from rfl) rfl (inB_vp g_2) d_Model_cell_17 ?_
    refine lv_iconst (v := -1) hx hb d_Model_cell_18 (by decide) ?_
    refine lv_icmp_ne (tgt := 25) hx hb d_Model_cell_19 (by decide) (fun c_3 => ?_) (fun c_3 => ?_)
    · replace hF := ifT hF c_3
      refine lv_iload_n hx hb d_Model_cell_25 rfl (lv_at hl 2 rfl) ?_
      refine lv_iconst (v := 0) hx hb d_Model_cell_26 (by decide) ?_
      refine lv_aload_n hx hb d_Model_cell_27 rfl (lv_at hl 0 rfl) ?_
      refine r_get (v := .ref (ad 12)) K hw i_Model sh_Model rfl 18 (by decide) w_1043 rfl rfl rfl d_Model_cell_28 ?_
      refine lv_iload_n hx hb d_Model_cell_31 rfl (lv_at hl 1 rfl) ?_
      obtain ⟨g_4, hF⟩ := ifG hF
      refine r_iald (k := v1.toNatClampNeg) K hw (show shM[12]? = some (.inr (.inl 4)) from rfl) rfl (inB_vp g_4) d_Model_cell_32 ?_
      refine lv_iconst (v := 1) hx hb d_Model_cell_33 (by decide) ?_
      refine lv_isub hx hb d_Model_cell_34 ?_
      refine r_callSI (As := [.int v2, .int (0 : Int32), .int ((s0.1 12 v1.toNatClampNeg) - (1 : Int32))]) (rest := []) K hw hl.1 (c_Model_in (l := l) (D := D) (cA := cA) (ad := ad) (s0 := s0)   rfl) (tb_gS w_986 w_987 w_80 w_988) a_Model_in ⟨rfl, rfl, Nat.le_of_ble_eq_true rfl, Nat.le_of_ble_eq_true rfl⟩ rfl rfl (Nat.le_of_ble_eq_true rfl) d_Model_cell_35 (fun H locs hw => ?_)
      refine lv_if_ne (tgt := 44) hx hb d_Model_cell_38 (by decide) (fun c_5 => ?_) (fun c_5 => ?_)
      · replace hF := ifT hF c_5
        refine lv_aload_n hx hb d_Model_cell_44 rfl (lv_at hl 0 rfl) ?_
        refine r_get (v := .ref (ad 13)) K hw i_Model sh_Model rfl 19 (by decide) w_1044 rfl rfl rfl d_Model_cell_45 ?_
        refine lv_bipush (v := 40) hx hb d_Model_cell_48 (by decide) ?_
        refine lv_iload_n hx hb d_Model_cell_50 rfl (lv_at hl 1 rfl) ?_
        refine lv_imul hx hb d_Model_cell_51 ?_
        refine lv_iload_n hx hb d_Model_cell_52 rfl (lv_at hl 2 rfl) ?_
        refine lv_iadd hx hb d_Model_cell_53 ?_
        refine lv_aload_n hx hb d_Model_cell_54 rfl (lv_at hl 0 rfl) ?_
        refine r_get (v := .ref (ad 11)) K hw i_Model sh_Model rfl 17 (by decide) w_1042 rfl rfl rfl d_Model_cell_55 ?_
        refine lv_iload_n hx hb d_Model_cell_58 rfl (lv_at hl 1 rfl) ?_
        obtain ⟨g_6, hF⟩ := ifG hF
        refine r_iald (k := v1.toNatClampNeg) K hw (show shM[11]? = some (.inr (.inl 4)) from rfl) rfl (inB_vp g_6) d_Model_cell_59 ?_
        refine lv_if_ne (tgt := 68) hx hb d_Model_cell_60 (by decide) (fun c_7 => ?_) (fun c_7 => ?_)
        · replace hF := ifT hF c_7
          refine lv_aload_n hx hb d_Model_cell_68 rfl (lv_at hl 0 rfl) ?_
          refine r_get (v := .ref (ad 11)) K hw i_Model sh_Model rfl 17 (by decide) w_1042 rfl rfl rfl d_Model_cell_69 ?_
          refine lv_iload_n hx hb d_Model_cell_72 rfl (lv_at hl 1 rfl) ?_
          obtain ⟨g_8, hF⟩ := ifG hF
          refine r_iald (k := v1.toNatClampNeg) K hw (show shM[11]? = some (.inr (.inl 4)) from rfl) rfl (inB_vp g_8) d_Model_cell_73 ?_
          refine lv_iconst (v := 1) hx hb d_Model_cell_74 (by decide) ?_
          refine lv_icmp_ne (tgt := 83) hx hb d_Model_cell_75 (by decide) (fun c_9 => ?_) (fun c_9 => ?_)
          · replace hF := ifT hF c_9
            refine lv_iload_n hx hb d_Model_cell_83 rfl (lv_at hl 3 rfl) ?_
            exact q_Model_cell_84 K _ _ _ _ _ _  hw (lv_sub hl [] rfl) hF
          · replace hF := ifN hF c_9
            refine lv_iload_n hx hb d_Model_cell_78 rfl (lv_at hl 3 rfl) ?_
            refine lv_i2s (v := v3.toInt16.toInt32) hx hb d_Model_cell_79 rfl ?_
            refine lv_goto (tgt := 84) hx hb d_Model_cell_80 (by decide) ?_
            exact q_Model_cell_84 K _ _ _ _ _ _  hw (lv_sub hl [] rfl) hF
        · replace hF := ifN hF c_7
          refine lv_iload_n hx hb d_Model_cell_63 rfl (lv_at hl 3 rfl) ?_
          refine lv_i2b (v := v3.toInt8.toInt32) hx hb d_Model_cell_64 rfl ?_
          refine lv_goto (tgt := 84) hx hb d_Model_cell_65 (by decide) ?_
          exact q_Model_cell_84 K _ _ _ _ _ _  hw (lv_sub hl [] rfl) hF
      · replace hF := ifN hF c_5
        refine lv_bipush (v := -12) hx hb d_Model_cell_41 (by decide) ?_
        obtain ⟨hF, hG⟩ := sE2 hF
        subst hF
        subst hG
        exact r_iret K hw d_Model_cell_43
    · replace hF := ifN hF c_3
      refine lv_bipush (v := -11) hx hb d_Model_cell_22 (by decide) ?_
      obtain ⟨hF, hG⟩ := sE2 hF
      subst hF
      subst hG
      exact r_iret K hw d_Model_cell_24
  · replace hF := ifN hF c_1
    refine lv_bipush (v := -2) hx hb d_Model_cell_9 (by decide) ?_
    obtain ⟨hF, hG⟩ := sE2 hF
    subst hF
    subst hG
    exact r_iret K hw d_Model_cell_11
end S_Model_cell
noncomputable abbrev F_Model_cell := F_Model_cell_0
theorem c_Model_cell {l : Launch} {D : va_G} {cA : Nat → ClassId} {ad : Nat → Nat} {s0 τ : St} {r : Int32} {v1 : Int32} {v2 : Int32} {v3 : Int32}  (hF : F_Model_cell s0 v1 v2 v3 = (some (r, τ))) : MI l D cA ad shM y_Model_cell (wT y_Model_cell b_Model_cell 4 (some .int)) rm_Model_cell [.ref (ad 0), .int v1, .int v2, .int v3] s0 r τ := fun sz => m_start (Qc := fun A => QcI D cA ad shM A r τ) (by decide +kernel) w_1398 (Nat.le_of_ble_eq_true rfl) (fun p e s m below meth c ls K hl hw => q_Model_cell_0 K _ _ _ _ _ _ _  hw hl hF)

/-! Model.copy(IIIII)I -/
abbrev b_Model_copy : ByteArray := prog_13_method_75_code
def y_Model_copy : MethodName := ⟨R_Model, "copy", "(IIIII)I"⟩
theorem a_Model_copy : y_Model_copy.cls = R_Model ∧ y_Model_copy.cls ≠ "java/lang/invoke/MethodHandle" ∧ y_Model_copy.cls ≠ "java/lang/invoke/VarHandle" ∧ (parseMethodDescriptor y_Model_copy.desc).map (fun d => d.parameters.length) = some 5 := by decide +kernel
abbrev rm_Model_copy : Room := { frames := 1, cells := 0, slots := 0, locals := 22 }
theorem w_1402 : Cond.code y_Model_copy b_Model_copy 10 (some .int) ∈ TB := tb_in 1402 (by decide +kernel) (by decide +kernel)
theorem d_Model_copy_0 : decode b_Model_copy 0 = .ok (.iload_n 1, 1) := by decide +kernel
theorem d_Model_copy_1 : decode b_Model_copy 1 = .ok (.iconst 0, 1) := by decide +kernel
theorem d_Model_copy_2 : decode b_Model_copy 2 = .ok (.iconst 3, 1) := by decide +kernel
theorem d_Model_copy_3 : decode b_Model_copy 3 = .ok (.invokestatic 78, 3) := by decide +kernel
theorem d_Model_copy_6 : decode b_Model_copy 6 = .ok (.ifCond .eq 12, 3) := by decide +kernel
theorem d_Model_copy_9 : decode b_Model_copy 9 = .ok (.iload_n 3, 1) := by decide +kernel
theorem d_Model_copy_10 : decode b_Model_copy 10 = .ok (.iconst 0, 1) := by decide +kernel
theorem d_Model_copy_11 : decode b_Model_copy 11 = .ok (.iconst 3, 1) := by decide +kernel
theorem d_Model_copy_12 : decode b_Model_copy 12 = .ok (.invokestatic 78, 3) := by decide +kernel
theorem d_Model_copy_15 : decode b_Model_copy 15 = .ok (.ifCond .ne 6, 3) := by decide +kernel
theorem d_Model_copy_18 : decode b_Model_copy 18 = .ok (.bipush (-2), 2) := by decide +kernel
theorem d_Model_copy_20 : decode b_Model_copy 20 = .ok (.ireturn, 1) := by decide +kernel
theorem d_Model_copy_21 : decode b_Model_copy 21 = .ok (.aload_n 0, 1) := by decide +kernel
theorem d_Model_copy_22 : decode b_Model_copy 22 = .ok (.getfield 40, 3) := by decide +kernel
theorem d_Model_copy_25 : decode b_Model_copy 25 = .ok (.iload_n 1, 1) := by decide +kernel
theorem d_Model_copy_26 : decode b_Model_copy 26 = .ok (.iaload, 1) := by decide +kernel
theorem d_Model_copy_27 : decode b_Model_copy 27 = .ok (.iconst (-1), 1) := by decide +kernel
theorem d_Model_copy_28 : decode b_Model_copy 28 = .ok (.if_icmp .eq 13, 3) := by decide +kernel
theorem d_Model_copy_31 : decode b_Model_copy 31 = .ok (.aload_n 0, 1) := by decide +kernel
theorem d_Model_copy_32 : decode b_Model_copy 32 = .ok (.getfield 40, 3) := by decide +kernel
theorem d_Model_copy_35 : decode b_Model_copy 35 = .ok (.iload_n 3, 1) := by decide +kernel
theorem d_Model_copy_36 : decode b_Model_copy 36 = .ok (.iaload, 1) := by decide +kernel
theorem d_Model_copy_37 : decode b_Model_copy 37 = .ok (.iconst (-1), 1) := by decide +kernel
theorem d_Model_copy_38 : decode b_Model_copy 38 = .ok (.if_icmp .ne 6, 3) := by decide +kernel
theorem d_Model_copy_41 : decode b_Model_copy 41 = .ok (.bipush (-11), 2) := by decide +kernel
theorem d_Model_copy_43 : decode b_Model_copy 43 = .ok (.ireturn, 1) := by decide +kernel
theorem d_Model_copy_44 : decode b_Model_copy 44 = .ok (.aload_n 0, 1) := by decide +kernel
theorem d_Model_copy_45 : decode b_Model_copy 45 = .ok (.getfield 40, 3) := by decide +kernel
theorem d_Model_copy_48 : decode b_Model_copy 48 = .ok (.iload_n 1, 1) := by decide +kernel
theorem d_Model_copy_49 : decode b_Model_copy 49 = .ok (.iaload, 1) := by decide +kernel
theorem d_Model_copy_50 : decode b_Model_copy 50 = .ok (.aload_n 0, 1) := by decide +kernel
theorem d_Model_copy_51 : decode b_Model_copy 51 = .ok (.getfield 40, 3) := by decide +kernel
theorem d_Model_copy_54 : decode b_Model_copy 54 = .ok (.iload_n 3, 1) := by decide +kernel
theorem d_Model_copy_55 : decode b_Model_copy 55 = .ok (.iaload, 1) := by decide +kernel
theorem d_Model_copy_56 : decode b_Model_copy 56 = .ok (.if_icmp .eq 6, 3) := by decide +kernel
theorem d_Model_copy_59 : decode b_Model_copy 59 = .ok (.bipush (-13), 2) := by decide +kernel
theorem d_Model_copy_61 : decode b_Model_copy 61 = .ok (.ireturn, 1) := by decide +kernel
theorem d_Model_copy_62 : decode b_Model_copy 62 = .ok (.iload 5, 2) := by decide +kernel
theorem d_Model_copy_64 : decode b_Model_copy 64 = .ok (.ifCond .lt 60, 3) := by decide +kernel
theorem d_Model_copy_67 : decode b_Model_copy 67 = .ok (.iload_n 2, 1) := by decide +kernel
theorem d_Model_copy_68 : decode b_Model_copy 68 = .ok (.ifCond .lt 56, 3) := by decide +kernel
theorem d_Model_copy_71 : decode b_Model_copy 71 = .ok (.iload 4, 2) := by decide +kernel
theorem d_Model_copy_73 : decode b_Model_copy 73 = .ok (.ifCond .lt 51, 3) := by decide +kernel
theorem d_Model_copy_76 : decode b_Model_copy 76 = .ok (.iload_n 2, 1) := by decide +kernel
theorem d_Model_copy_77 : decode b_Model_copy 77 = .ok (.aload_n 0, 1) := by decide +kernel
theorem d_Model_copy_78 : decode b_Model_copy 78 = .ok (.getfield 43, 3) := by decide +kernel
theorem d_Model_copy_81 : decode b_Model_copy 81 = .ok (.iload_n 1, 1) := by decide +kernel
theorem d_Model_copy_82 : decode b_Model_copy 82 = .ok (.iaload, 1) := by decide +kernel
theorem d_Model_copy_83 : decode b_Model_copy 83 = .ok (.if_icmp .gt 41, 3) := by decide +kernel
theorem d_Model_copy_86 : decode b_Model_copy 86 = .ok (.iload 4, 2) := by decide +kernel
theorem d_Model_copy_88 : decode b_Model_copy 88 = .ok (.aload_n 0, 1) := by decide +kernel
theorem d_Model_copy_89 : decode b_Model_copy 89 = .ok (.getfield 43, 3) := by decide +kernel
theorem d_Model_copy_92 : decode b_Model_copy 92 = .ok (.iload_n 3, 1) := by decide +kernel
theorem d_Model_copy_93 : decode b_Model_copy 93 = .ok (.iaload, 1) := by decide +kernel
theorem d_Model_copy_94 : decode b_Model_copy 94 = .ok (.if_icmp .gt 30, 3) := by decide +kernel
theorem d_Model_copy_97 : decode b_Model_copy 97 = .ok (.iload 5, 2) := by decide +kernel
theorem d_Model_copy_99 : decode b_Model_copy 99 = .ok (.aload_n 0, 1) := by decide +kernel
theorem d_Model_copy_100 : decode b_Model_copy 100 = .ok (.getfield 43, 3) := by decide +kernel
theorem d_Model_copy_103 : decode b_Model_copy 103 = .ok (.iload_n 1, 1) := by decide +kernel
theorem d_Model_copy_104 : decode b_Model_copy 104 = .ok (.iaload, 1) := by decide +kernel
theorem d_Model_copy_105 : decode b_Model_copy 105 = .ok (.iload_n 2, 1) := by decide +kernel
theorem d_Model_copy_106 : decode b_Model_copy 106 = .ok (.isub, 1) := by decide +kernel
theorem d_Model_copy_107 : decode b_Model_copy 107 = .ok (.if_icmp .gt 17, 3) := by decide +kernel
theorem d_Model_copy_110 : decode b_Model_copy 110 = .ok (.iload 5, 2) := by decide +kernel
theorem d_Model_copy_112 : decode b_Model_copy 112 = .ok (.aload_n 0, 1) := by decide +kernel
theorem d_Model_copy_113 : decode b_Model_copy 113 = .ok (.getfield 43, 3) := by decide +kernel
theorem d_Model_copy_116 : decode b_Model_copy 116 = .ok (.iload_n 3, 1) := by decide +kernel
theorem d_Model_copy_117 : decode b_Model_copy 117 = .ok (.iaload, 1) := by decide +kernel
theorem d_Model_copy_118 : decode b_Model_copy 118 = .ok (.iload 4, 2) := by decide +kernel
theorem d_Model_copy_120 : decode b_Model_copy 120 = .ok (.isub, 1) := by decide +kernel
theorem d_Model_copy_121 : decode b_Model_copy 121 = .ok (.if_icmp .le 6, 3) := by decide +kernel
theorem d_Model_copy_124 : decode b_Model_copy 124 = .ok (.bipush (-12), 2) := by decide +kernel
theorem d_Model_copy_126 : decode b_Model_copy 126 = .ok (.ireturn, 1) := by decide +kernel
theorem d_Model_copy_127 : decode b_Model_copy 127 = .ok (.bipush 40, 2) := by decide +kernel
theorem d_Model_copy_129 : decode b_Model_copy 129 = .ok (.iload_n 1, 1) := by decide +kernel
theorem d_Model_copy_130 : decode b_Model_copy 130 = .ok (.imul, 1) := by decide +kernel
theorem d_Model_copy_131 : decode b_Model_copy 131 = .ok (.iload_n 2, 1) := by decide +kernel
theorem d_Model_copy_132 : decode b_Model_copy 132 = .ok (.iadd, 1) := by decide +kernel
theorem d_Model_copy_133 : decode b_Model_copy 133 = .ok (.istore 6, 2) := by decide +kernel
theorem d_Model_copy_135 : decode b_Model_copy 135 = .ok (.bipush 40, 2) := by decide +kernel
theorem d_Model_copy_137 : decode b_Model_copy 137 = .ok (.iload_n 3, 1) := by decide +kernel
theorem d_Model_copy_138 : decode b_Model_copy 138 = .ok (.imul, 1) := by decide +kernel
theorem d_Model_copy_139 : decode b_Model_copy 139 = .ok (.iload 4, 2) := by decide +kernel
theorem d_Model_copy_141 : decode b_Model_copy 141 = .ok (.iadd, 1) := by decide +kernel
theorem d_Model_copy_142 : decode b_Model_copy 142 = .ok (.istore 7, 2) := by decide +kernel
theorem d_Model_copy_144 : decode b_Model_copy 144 = .ok (.iconst 0, 1) := by decide +kernel
theorem d_Model_copy_145 : decode b_Model_copy 145 = .ok (.istore 8, 2) := by decide +kernel
theorem d_Model_copy_147 : decode b_Model_copy 147 = .ok (.iload 8, 2) := by decide +kernel
theorem d_Model_copy_149 : decode b_Model_copy 149 = .ok (.iload 5, 2) := by decide +kernel
theorem d_Model_copy_151 : decode b_Model_copy 151 = .ok (.if_icmp .ge 50, 3) := by decide +kernel
theorem d_Model_copy_154 : decode b_Model_copy 154 = .ok (.iload 6, 2) := by decide +kernel
theorem d_Model_copy_156 : decode b_Model_copy 156 = .ok (.iload 7, 2) := by decide +kernel
theorem d_Model_copy_158 : decode b_Model_copy 158 = .ok (.if_icmp .ge 13, 3) := by decide +kernel
theorem d_Model_copy_161 : decode b_Model_copy 161 = .ok (.iload 5, 2) := by decide +kernel
theorem d_Model_copy_163 : decode b_Model_copy 163 = .ok (.iconst 1, 1) := by decide +kernel
theorem d_Model_copy_164 : decode b_Model_copy 164 = .ok (.isub, 1) := by decide +kernel
theorem d_Model_copy_165 : decode b_Model_copy 165 = .ok (.iload 8, 2) := by decide +kernel
theorem d_Model_copy_167 : decode b_Model_copy 167 = .ok (.isub, 1) := by decide +kernel
theorem d_Model_copy_168 : decode b_Model_copy 168 = .ok (.goto 5, 3) := by decide +kernel
theorem d_Model_copy_171 : decode b_Model_copy 171 = .ok (.iload 8, 2) := by decide +kernel
theorem d_Model_copy_173 : decode b_Model_copy 173 = .ok (.istore 9, 2) := by decide +kernel
theorem d_Model_copy_175 : decode b_Model_copy 175 = .ok (.aload_n 0, 1) := by decide +kernel
theorem d_Model_copy_176 : decode b_Model_copy 176 = .ok (.getfield 46, 3) := by decide +kernel
theorem d_Model_copy_179 : decode b_Model_copy 179 = .ok (.iload 7, 2) := by decide +kernel
theorem d_Model_copy_181 : decode b_Model_copy 181 = .ok (.iload 9, 2) := by decide +kernel
theorem d_Model_copy_183 : decode b_Model_copy 183 = .ok (.iadd, 1) := by decide +kernel
theorem d_Model_copy_184 : decode b_Model_copy 184 = .ok (.aload_n 0, 1) := by decide +kernel
theorem d_Model_copy_185 : decode b_Model_copy 185 = .ok (.getfield 46, 3) := by decide +kernel
theorem d_Model_copy_188 : decode b_Model_copy 188 = .ok (.iload 6, 2) := by decide +kernel
theorem d_Model_copy_190 : decode b_Model_copy 190 = .ok (.iload 9, 2) := by decide +kernel
theorem d_Model_copy_192 : decode b_Model_copy 192 = .ok (.iadd, 1) := by decide +kernel
theorem d_Model_copy_193 : decode b_Model_copy 193 = .ok (.iaload, 1) := by decide +kernel
theorem d_Model_copy_194 : decode b_Model_copy 194 = .ok (.iastore, 1) := by decide +kernel
theorem d_Model_copy_195 : decode b_Model_copy 195 = .ok (.iinc 8 1, 3) := by decide +kernel
theorem d_Model_copy_198 : decode b_Model_copy 198 = .ok (.goto (-51), 3) := by decide +kernel
theorem d_Model_copy_201 : decode b_Model_copy 201 = .ok (.iload 5, 2) := by decide +kernel
theorem d_Model_copy_203 : decode b_Model_copy 203 = .ok (.ireturn, 1) := by decide +kernel
section S_Model_copy
variable {p : Program} {l : Launch} {e : Env} {s : State} {m : MethodId} {args : Array Value} {below : List Frame} {meth : Method} {c : Code} {D : va_G} {cA : Nat → ClassId} {ad : Nat → Nat} {nC : Nat} {A : Nat → Prop} {r : Int32} {τ : St}
noncomputable def F_Model_copy_173 (k87 : (St → Int32 → Int32 → Int32 → Int32 → Option (Int32 × St))) (s0 : St) (v5 : Int32) (v6 : Int32) (v7 : Int32) (v8 : Int32) (t0 : Int32) : Option (Int32 × St) := (if inB (v6 + t0) 160 = true then (if inB (v7 + t0) 160 = true then (lt (up1 s0 13 (v7 + t0).toNatClampNeg (s0.1 13 (v6 + t0).toNatClampNeg)) (fun s_25 => (k87 s_25 v5 v6 v7 (v8 + 1)))) else none) else none)
set_option maxHeartbeats 4000000 in
set_option maxRecDepth 100000 in
theorem q_Model_copy_173 (K : Fx p s m args meth c b_Model_copy 10 R_Model (some .int)) (k87 : (St → Int32 → Int32 → Int32 → Int32 → Option (Int32 × St))) (hk87 : ∀ (H : Heap) (locs : List Loc) (ls : Array Slot) (s0 : St) (v5 : Int32) (v6 : Int32) (v7 : Int32) (v8 : Int32), Wh D cA ad shM A s s0 H locs → lv_has ls 10 [(0, .ref (ad 0)), (5, .int v5), (6, .int v6), (7, .int v7), (8, .int v8)] → k87 s0 v5 v6 v7 v8 = (some (r, τ)) → W p l e rm_Model_copy s m args below meth c H locs 0 0 (MQ below (QcI D cA ad shM A r τ) args s 0 0 A) (F0 m 147 ls [])) : ∀ (H : Heap) (locs : List Loc) (ls : Array Slot) (s0 : St) (v5 : Int32) (v6 : Int32) (v7 : Int32) (v8 : Int32) (t0 : Int32), Wh D cA ad shM A s s0 H locs → lv_has ls 10 [(0, .ref (ad 0)), (5, .int v5), (6, .int v6), (7, .int v7), (8, .int v8)] → F_Model_copy_173 k87 s0 v5 v6 v7 v8 t0 = (some (r, τ)) → W p l e rm_Model_copy s m args below meth c H locs 0 0 (MQ below (QcI D cA ad shM A r τ) args s 0 0 A) (F0 m 173 ls [.int t0]) := by
  have hx := K.1.1; have hb := K.1.2.1
  intro H locs ls s0 v5 v6 v7 v8 t0 hw hl hF
  unfold F_Model_copy_173 at hF
  refine lv_istore (lv' := [(9, .int t0), (0, .ref (ad 0)), (5, .int v5), (6, .int v6), (7, .int v7), (8, .int v8)]) hx hb d_Model_copy_173 hl (by decide) rfl (fun ls hl => ?_)
  refine lv_aload_n hx hb d_Model_copy_175 rfl (lv_at hl 1 rfl) ?_
  refine r_get (v := .ref (ad 13)) K hw i_Model sh_Model rfl 19 (by decide) w_1044 rfl rfl rfl d_Model_copy_176 ?_
  refine lv_iload hx hb d_Model_copy_179 (lv_at hl 4 rfl) ?_
  refine lv_iload hx hb d_Model_copy_181 (lv_at hl 0 rfl) ?_
  refine lv_iadd hx hb d_Model_copy_183 ?_
  refine lv_aload_n hx hb d_Model_copy_184 rfl (lv_at hl 1 rfl) ?_
  refine r_get (v := .ref (ad 13)) K hw i_Model sh_Model rfl 19 (by decide) w_1044 rfl rfl rfl d_Model_copy_185 ?_
  refine lv_iload hx hb d_Model_copy_188 (lv_at hl 3 rfl) ?_
  refine lv_iload hx hb d_Model_copy_190 (lv_at hl 0 rfl) ?_
  refine lv_iadd hx hb d_Model_copy_192 ?_
  obtain ⟨g_23, hF⟩ := ifG hF
  refine r_iald (k := (v6 + t0).toNatClampNeg) K hw (show shM[13]? = some (.inr (.inl 160)) from rfl) rfl (inB_vp g_23) d_Model_copy_193 ?_
  obtain ⟨g_24, hF⟩ := ifG hF
  refine r_iast (k := (v7 + t0).toNatClampNeg) K hw (show shM[13]? = some (.inr (.inl 160)) from rfl) rfl (inB_vp g_24) d_Model_copy_194 (fun s_25 f_s_25 H locs hw => ?_)
  replace hF := ltN hF f_s_25
  refine lv_iinc (v := (v8 + 1)) (lv' := [(8, .int (v8 + 1)), (9, .int t0), (0, .ref (ad 0)), (5, .int v5), (6, .int v6), (7, .int v7)]) hx hb d_Model_copy_195 hl (k := 5) rfl rfl (by decide) rfl (fun ls hl => ?_)
  refine lv_goto (tgt := 147) hx hb d_Model_copy_198 (by decide) ?_
  exact hk87 _ _ _ _ _ _ _ _  hw (lv_sub hl [2, 3, 4, 5, 0] rfl) hF
noncomputable def F_Model_copy_147 : Nat → St → Int32 → Int32 → Int32 → Int32 → Option (Int32 × St)
  | 0, _, _, _, _, _ => none
  | n + 1, s0, v5, v6, v7, v8 => (if v5 ≤ v8 then (some (v5, s0)) else (if v7 ≤ v6 then (F_Model_copy_173 (fun z0 zv5 zv6 zv7 zv8 => F_Model_copy_147 n z0 zv5 zv6 zv7 zv8) s0 v5 v6 v7 v8 v8) else (F_Model_copy_173 (fun z0 zv5 zv6 zv7 zv8 => F_Model_copy_147 n z0 zv5 zv6 zv7 zv8) s0 v5 v6 v7 v8 ((v5 - (1 : Int32)) - v8))))
set_option maxHeartbeats 4000000 in
set_option maxRecDepth 100000 in
theorem q_Model_copy_147 (K : Fx p s m args meth c b_Model_copy 10 R_Model (some .int))  : ∀ (n : Nat), ∀ (H : Heap) (locs : List Loc) (ls : Array Slot) (s0 : St) (v5 : Int32) (v6 : Int32) (v7 : Int32) (v8 : Int32), Wh D cA ad shM A s s0 H locs → lv_has ls 10 [(0, .ref (ad 0)), (5, .int v5), (6, .int v6), (7, .int v7), (8, .int v8)] → F_Model_copy_147 n s0 v5 v6 v7 v8 = (some (r, τ)) → W p l e rm_Model_copy s m args below meth c H locs 0 0 (MQ below (QcI D cA ad shM A r τ) args s 0 0 A) (F0 m 147 ls []) := by
  have hx := K.1.1; have hb := K.1.2.1
  intro n
  induction n with
  | zero =>
    intro H locs ls s0 v5 v6 v7 v8 hw hl hF
    exact absurd hF (by rw [F_Model_copy_147]; exact nofun)
  | succ n ih =>
    intro H locs ls s0 v5 v6 v7 v8 hw hl hF
    rw [F_Model_copy_147] at hF
    refine lv_iload hx hb d_Model_copy_147 (lv_at hl 4 rfl) ?_
    refine lv_iload hx hb d_Model_copy_149 (lv_at hl 1 rfl) ?_
    refine lv_icmp_ge (tgt := 201) hx hb d_Model_copy_151 (by decide) (fun c_21 => ?_) (fun c_21 => ?_)
    · replace hF := ifT hF c_21
      refine lv_iload hx hb d_Model_copy_201 (lv_at hl 1 rfl) ?_
      obtain ⟨hF, hG⟩ := sE2 hF
      subst hF
      subst hG
      exact r_iret K hw d_Model_copy_203
    · replace hF := ifF hF c_21
      refine lv_iload hx hb d_Model_copy_154 (lv_at hl 2 rfl) ?_
      refine lv_iload hx hb d_Model_copy_156 (lv_at hl 3 rfl) ?_
      refine lv_icmp_ge (tgt := 171) hx hb d_Model_copy_158 (by decide) (fun c_22 => ?_) (fun c_22 => ?_)
      · replace hF := ifT hF c_22
        refine lv_iload hx hb d_Model_copy_171 (lv_at hl 4 rfl) ?_
        exact q_Model_copy_173 K (fun z0 zv5 zv6 zv7 zv8 => F_Model_copy_147 n z0 zv5 zv6 zv7 zv8) ih _ _ _ _ _ _ _ _ _  hw (lv_sub hl [0, 1, 2, 3, 4] rfl) hF
      · replace hF := ifF hF c_22
        refine lv_iload hx hb d_Model_copy_161 (lv_at hl 1 rfl) ?_
        refine lv_iconst (v := 1) hx hb d_Model_copy_163 (by decide) ?_
        refine lv_isub hx hb d_Model_copy_164 ?_
        refine lv_iload hx hb d_Model_copy_165 (lv_at hl 4 rfl) ?_
        refine lv_isub hx hb d_Model_copy_167 ?_
        refine lv_goto (tgt := 173) hx hb d_Model_copy_168 (by decide) ?_
        exact q_Model_copy_173 K (fun z0 zv5 zv6 zv7 zv8 => F_Model_copy_147 n z0 zv5 zv6 zv7 zv8) ih _ _ _ _ _ _ _ _ _  hw (lv_sub hl [0, 1, 2, 3, 4] rfl) hF
noncomputable def F_Model_copy_0 (s0 : St) (v1 : Int32) (v2 : Int32) (v3 : Int32) (v4 : Int32) (v5 : Int32) : Option (Int32 × St) := (if (F_Model_in v1 (0 : Int32) (3 : Int32)) = 0 then (some ((-2 : Int32), s0)) else (if ¬ (F_Model_in v3 (0 : Int32) (3 : Int32)) = 0 then (if inB v1 4 = true then (if (s0.1 11 v1.toNatClampNeg) = (-1 : Int32) then (some ((-11 : Int32), s0)) else (if inB v3 4 = true then (if ¬ (s0.1 11 v3.toNatClampNeg) = (-1 : Int32) then (if inB v1 4 = true then (if inB v3 4 = true then (if (s0.1 11 v1.toNatClampNeg) = (s0.1 11 v3.toNatClampNeg) then (if v5 < 0 then (some ((-12 : Int32), s0)) else (if v2 < 0 then (some ((-12 : Int32), s0)) else (if v4 < 0 then (some ((-12 : Int32), s0)) else (if inB v1 4 = true then (if (s0.1 12 v1.toNatClampNeg) < v2 then (some ((-12 : Int32), s0)) else (if inB v3 4 = true then (if (s0.1 12 v3.toNatClampNeg) < v4 then (some ((-12 : Int32), s0)) else (if inB v1 4 = true then (if ((s0.1 12 v1.toNatClampNeg) - v2) < v5 then (some ((-12 : Int32), s0)) else (if inB v3 4 = true then (if v5 ≤ ((s0.1 12 v3.toNatClampNeg) - v4) then (F_Model_copy_147 FU s0 v5 (((40 : Int32) * v1) + v2) (((40 : Int32) * v3) + v4) (0 : Int32)) else (some ((-12 : Int32), s0))) else none)) else none)) else none)) else none)))) else (some ((-13 : Int32), s0))) else none) else none) else (some ((-11 : Int32), s0))) else none)) else none) else (some ((-2 : Int32), s0))))
set_option maxHeartbeats 4000000 in
set_option maxRecDepth 100000 in
theorem q_Model_copy_0 (K : Fx p s m args meth c b_Model_copy 10 R_Model (some .int))  : ∀ (H : Heap) (locs : List Loc) (ls : Array Slot) (s0 : St) (v1 : Int32) (v2 : Int32) (v3 : Int32) (v4 : Int32) (v5 : Int32), Wh D cA ad shM A s s0 H locs → lv_has ls 10 [(0, .ref (ad 0)), (1, .int v1), (2, .int v2), (3, .int v3), (4, .int v4), (5, .int v5)] → F_Model_copy_0 s0 v1 v2 v3 v4 v5 = (some (r, τ)) → W p l e rm_Model_copy s m args below meth c H locs 0 0 (MQ below (QcI D cA ad shM A r τ) args s 0 0 A) (F0 m 0 ls []) := by
  have hx := K.1.1; have hb := K.1.2.1
  intro H locs ls s0 v1 v2 v3 v4 v5 hw hl hF
  unfold F_Model_copy_0 at hF
  refine lv_iload_n hx hb d_Model_copy_0 rfl (lv_at hl 1 rfl) ?_
  refine lv_iconst (v := 0) hx hb d_Model_copy_1 (by decide) ?_
  refine lv_iconst (v := 3) hx hb d_Model_copy_2 (by decide) ?_
  refine r_callSI (As := [.int v1, .int (0 : Int32), .int (3 : Int32)]) (rest := []) K hw hl.1 (c_Model_in (l := l) (D := D) (cA := cA) (ad := ad) (s0 := s0)   rfl) (tb_gS w_986 w_987 w_80 w_988) a_Model_in ⟨rfl, rfl, Nat.le_of_ble_eq_true rfl, Nat.le_of_ble_eq_true rfl⟩ rfl rfl (Nat.le_of_ble_eq_true rfl) d_Model_copy_3 (fun H locs hw => ?_)
  refine lv_if_eq (tgt := 18) hx hb d_Model_copy_6 (by decide) (fun c_1 => ?_) (fun c_1 => ?_)
  · replace hF := ifT hF c_1
    refine lv_bipush (v := -2) hx hb d_Model_copy_18 (by decide) ?_
    obtain ⟨hF, hG⟩ := sE2 hF
    subst hF
    subst hG
    exact r_iret K hw d_Model_copy_20
  · replace hF := ifF hF c_1
    refine lv_iload_n hx hb d_Model_copy_9 rfl (lv_at hl 3 rfl) ?_
    refine lv_iconst (v := 0) hx hb d_Model_copy_10 (by decide) ?_
    refine lv_iconst (v := 3) hx hb d_Model_copy_11 (by decide) ?_
    refine r_callSI (As := [.int v3, .int (0 : Int32), .int (3 : Int32)]) (rest := []) K hw hl.1 (c_Model_in (l := l) (D := D) (cA := cA) (ad := ad) (s0 := s0)   rfl) (tb_gS w_986 w_987 w_80 w_988) a_Model_in ⟨rfl, rfl, Nat.le_of_ble_eq_true rfl, Nat.le_of_ble_eq_true rfl⟩ rfl rfl (Nat.le_of_ble_eq_true rfl) d_Model_copy_12 (fun H locs hw => ?_)
    refine lv_if_ne (tgt := 21) hx hb d_Model_copy_15 (by decide) (fun c_2 => ?_) (fun c_2 => ?_)
    · replace hF := ifT hF c_2
      refine lv_aload_n hx hb d_Model_copy_21 rfl (lv_at hl 0 rfl) ?_
      refine r_get (v := .ref (ad 11)) K hw i_Model sh_Model rfl 17 (by decide) w_1042 rfl rfl rfl d_Model_copy_22 ?_
      refine lv_iload_n hx hb d_Model_copy_25 rfl (lv_at hl 1 rfl) ?_
      obtain ⟨g_3, hF⟩ := ifG hF
      refine r_iald (k := v1.toNatClampNeg) K hw (show shM[11]? = some (.inr (.inl 4)) from rfl) rfl (inB_vp g_3) d_Model_copy_26 ?_
      refine lv_iconst (v := -1) hx hb d_Model_copy_27 (by decide) ?_
      refine lv_icmp_eq (tgt := 41) hx hb d_Model_copy_28 (by decide) (fun c_4 => ?_) (fun c_4 => ?_)
      · replace hF := ifT hF c_4
        refine lv_bipush (v := -11) hx hb d_Model_copy_41 (by decide) ?_
        obtain ⟨hF, hG⟩ := sE2 hF
        subst hF
        subst hG
        exact r_iret K hw d_Model_copy_43
      · replace hF := ifF hF c_4
        refine lv_aload_n hx hb d_Model_copy_31 rfl (lv_at hl 0 rfl) ?_
        refine r_get (v := .ref (ad 11)) K hw i_Model sh_Model rfl 17 (by decide) w_1042 rfl rfl rfl d_Model_copy_32 ?_
        refine lv_iload_n hx hb d_Model_copy_35 rfl (lv_at hl 3 rfl) ?_
        obtain ⟨g_5, hF⟩ := ifG hF
        refine r_iald (k := v3.toNatClampNeg) K hw (show shM[11]? = some (.inr (.inl 4)) from rfl) rfl (inB_vp g_5) d_Model_copy_36 ?_
        refine lv_iconst (v := -1) hx hb d_Model_copy_37 (by decide) ?_
        refine lv_icmp_ne (tgt := 44) hx hb d_Model_copy_38 (by decide) (fun c_6 => ?_) (fun c_6 => ?_)
        · replace hF := ifT hF c_6
          refine lv_aload_n hx hb d_Model_copy_44 rfl (lv_at hl 0 rfl) ?_
          refine r_get (v := .ref (ad 11)) K hw i_Model sh_Model rfl 17 (by decide) w_1042 rfl rfl rfl d_Model_copy_45 ?_
          refine lv_iload_n hx hb d_Model_copy_48 rfl (lv_at hl 1 rfl) ?_
          obtain ⟨g_7, hF⟩ := ifG hF
          refine r_iald (k := v1.toNatClampNeg) K hw (show shM[11]? = some (.inr (.inl 4)) from rfl) rfl (inB_vp g_7) d_Model_copy_49 ?_
          refine lv_aload_n hx hb d_Model_copy_50 rfl (lv_at hl 0 rfl) ?_
          refine r_get (v := .ref (ad 11)) K hw i_Model sh_Model rfl 17 (by decide) w_1042 rfl rfl rfl d_Model_copy_51 ?_
          refine lv_iload_n hx hb d_Model_copy_54 rfl (lv_at hl 3 rfl) ?_
          obtain ⟨g_8, hF⟩ := ifG hF
          refine r_iald (k := v3.toNatClampNeg) K hw (show shM[11]? = some (.inr (.inl 4)) from rfl) rfl (inB_vp g_8) d_Model_copy_55 ?_
          refine lv_icmp_eq (tgt := 62) hx hb d_Model_copy_56 (by decide) (fun c_9 => ?_) (fun c_9 => ?_)
          · replace hF := ifT hF c_9
            refine lv_iload hx hb d_Model_copy_62 (lv_at hl 5 rfl) ?_
            refine lv_if_lt (tgt := 124) hx hb d_Model_copy_64 (by decide) (fun c_10 => ?_) (fun c_10 => ?_)
            · replace hF := ifT hF c_10
              refine lv_bipush (v := -12) hx hb d_Model_copy_124 (by decide) ?_
              obtain ⟨hF, hG⟩ := sE2 hF
              subst hF
              subst hG
              exact r_iret K hw d_Model_copy_126
            · replace hF := ifF hF c_10
              refine lv_iload_n hx hb d_Model_copy_67 rfl (lv_at hl 2 rfl) ?_
              refine lv_if_lt (tgt := 124) hx hb d_Model_copy_68 (by decide) (fun c_11 => ?_) (fun c_11 => ?_)
              · replace hF := ifT hF c_11
                refine lv_bipush (v := -12) hx hb d_Model_copy_124 (by decide) ?_
                obtain ⟨hF, hG⟩ := sE2 hF
                subst hF
                subst hG
                exact r_iret K hw d_Model_copy_126
              · replace hF := ifF hF c_11
                refine lv_iload hx hb d_Model_copy_71 (lv_at hl 4 rfl) ?_
                refine lv_if_lt (tgt := 124) hx hb d_Model_copy_73 (by decide) (fun c_12 => ?_) (fun c_12 => ?_)
                · replace hF := ifT hF c_12
                  refine lv_bipush (v := -12) hx hb d_Model_copy_124 (by decide) ?_
                  obtain ⟨hF, hG⟩ := sE2 hF
                  subst hF
                  subst hG
                  exact r_iret K hw d_Model_copy_126
                · replace hF := ifF hF c_12
                  refine lv_iload_n hx hb d_Model_copy_76 rfl (lv_at hl 2 rfl) ?_
                  refine lv_aload_n hx hb d_Model_copy_77 rfl (lv_at hl 0 rfl) ?_
                  refine r_get (v := .ref (ad 12)) K hw i_Model sh_Model rfl 18 (by decide) w_1043 rfl rfl rfl d_Model_copy_78 ?_
                  refine lv_iload_n hx hb d_Model_copy_81 rfl (lv_at hl 1 rfl) ?_
                  obtain ⟨g_13, hF⟩ := ifG hF
                  refine r_iald (k := v1.toNatClampNeg) K hw (show shM[12]? = some (.inr (.inl 4)) from rfl) rfl (inB_vp g_13) d_Model_copy_82 ?_
                  refine lv_icmp_gt (tgt := 124) hx hb d_Model_copy_83 (by decide) (fun c_14 => ?_) (fun c_14 => ?_)
                  · replace hF := ifT hF c_14
                    refine lv_bipush (v := -12) hx hb d_Model_copy_124 (by decide) ?_
                    obtain ⟨hF, hG⟩ := sE2 hF
                    subst hF
                    subst hG
                    exact r_iret K hw d_Model_copy_126
                  · replace hF := ifF hF c_14
                    refine lv_iload hx hb d_Model_copy_86 (lv_at hl 4 rfl) ?_
                    refine lv_aload_n hx hb d_Model_copy_88 rfl (lv_at hl 0 rfl) ?_
                    refine r_get (v := .ref (ad 12)) K hw i_Model sh_Model rfl 18 (by decide) w_1043 rfl rfl rfl d_Model_copy_89 ?_
                    refine lv_iload_n hx hb d_Model_copy_92 rfl (lv_at hl 3 rfl) ?_
                    obtain ⟨g_15, hF⟩ := ifG hF
                    refine r_iald (k := v3.toNatClampNeg) K hw (show shM[12]? = some (.inr (.inl 4)) from rfl) rfl (inB_vp g_15) d_Model_copy_93 ?_
                    refine lv_icmp_gt (tgt := 124) hx hb d_Model_copy_94 (by decide) (fun c_16 => ?_) (fun c_16 => ?_)
                    · replace hF := ifT hF c_16
                      refine lv_bipush (v := -12) hx hb d_Model_copy_124 (by decide) ?_
                      obtain ⟨hF, hG⟩ := sE2 hF
                      subst hF
                      subst hG
                      exact r_iret K hw d_Model_copy_126
                    · replace hF := ifF hF c_16
                      refine lv_iload hx hb d_Model_copy_97 (lv_at hl 5 rfl) ?_
                      refine lv_aload_n hx hb d_Model_copy_99 rfl (lv_at hl 0 rfl) ?_
                      refine r_get (v := .ref (ad 12)) K hw i_Model sh_Model rfl 18 (by decide) w_1043 rfl rfl rfl d_Model_copy_100 ?_
                      refine lv_iload_n hx hb d_Model_copy_103 rfl (lv_at hl 1 rfl) ?_
                      obtain ⟨g_17, hF⟩ := ifG hF
                      refine r_iald (k := v1.toNatClampNeg) K hw (show shM[12]? = some (.inr (.inl 4)) from rfl) rfl (inB_vp g_17) d_Model_copy_104 ?_
                      refine lv_iload_n hx hb d_Model_copy_105 rfl (lv_at hl 2 rfl) ?_
                      refine lv_isub hx hb d_Model_copy_106 ?_
                      refine lv_icmp_gt (tgt := 124) hx hb d_Model_copy_107 (by decide) (fun c_18 => ?_) (fun c_18 => ?_)
                      · replace hF := ifT hF c_18
                        refine lv_bipush (v := -12) hx hb d_Model_copy_124 (by decide) ?_
                        obtain ⟨hF, hG⟩ := sE2 hF
                        subst hF
                        subst hG
                        exact r_iret K hw d_Model_copy_126
                      · replace hF := ifF hF c_18
                        refine lv_iload hx hb d_Model_copy_110 (lv_at hl 5 rfl) ?_
                        refine lv_aload_n hx hb d_Model_copy_112 rfl (lv_at hl 0 rfl) ?_
                        refine r_get (v := .ref (ad 12)) K hw i_Model sh_Model rfl 18 (by decide) w_1043 rfl rfl rfl d_Model_copy_113 ?_
                        refine lv_iload_n hx hb d_Model_copy_116 rfl (lv_at hl 3 rfl) ?_
                        obtain ⟨g_19, hF⟩ := ifG hF
                        refine r_iald (k := v3.toNatClampNeg) K hw (show shM[12]? = some (.inr (.inl 4)) from rfl) rfl (inB_vp g_19) d_Model_copy_117 ?_
                        refine lv_iload hx hb d_Model_copy_118 (lv_at hl 4 rfl) ?_
                        refine lv_isub hx hb d_Model_copy_120 ?_
                        refine lv_icmp_le (tgt := 127) hx hb d_Model_copy_121 (by decide) (fun c_20 => ?_) (fun c_20 => ?_)
                        · replace hF := ifT hF c_20
                          refine lv_bipush (v := 40) hx hb d_Model_copy_127 (by decide) ?_
                          refine lv_iload_n hx hb d_Model_copy_129 rfl (lv_at hl 1 rfl) ?_
                          refine lv_imul hx hb d_Model_copy_130 ?_
                          refine lv_iload_n hx hb d_Model_copy_131 rfl (lv_at hl 2 rfl) ?_
                          refine lv_iadd hx hb d_Model_copy_132 ?_
                          refine lv_istore (lv' := [(6, .int (((40 : Int32) * v1) + v2)), (0, .ref (ad 0)), (1, .int v1), (2, .int v2), (3, .int v3), (4, .int v4), (5, .int v5)]) hx hb d_Model_copy_133 hl (by decide) rfl (fun ls hl => ?_)
                          refine lv_bipush (v := 40) hx hb d_Model_copy_135 (by decide) ?_
                          refine lv_iload_n hx hb d_Model_copy_137 rfl (lv_at hl 4 rfl) ?_
                          refine lv_imul hx hb d_Model_copy_138 ?_
                          refine lv_iload hx hb d_Model_copy_139 (lv_at hl 5 rfl) ?_
                          refine lv_iadd hx hb d_Model_copy_141 ?_
                          refine lv_istore (lv' := [(7, .int (((40 : Int32) * v3) + v4)), (6, .int (((40 : Int32) * v1) + v2)), (0, .ref (ad 0)), (1, .int v1), (2, .int v2), (3, .int v3), (4, .int v4), (5, .int v5)]) hx hb d_Model_copy_142 hl (by decide) rfl (fun ls hl => ?_)
                          refine lv_iconst (v := 0) hx hb d_Model_copy_144 (by decide) ?_
                          refine lv_istore (lv' := [(8, .int (0 : Int32)), (7, .int (((40 : Int32) * v3) + v4)), (6, .int (((40 : Int32) * v1) + v2)), (0, .ref (ad 0)), (1, .int v1), (2, .int v2), (3, .int v3), (4, .int v4), (5, .int v5)]) hx hb d_Model_copy_145 hl (by decide) rfl (fun ls hl => ?_)
                          exact q_Model_copy_147 K FU _ _ _ _ _ _ _ _  hw (lv_sub hl [3, 8, 2, 1, 0] rfl) hF
                        · replace hF := ifF hF c_20
                          refine lv_bipush (v := -12) hx hb d_Model_copy_124 (by decide) ?_
                          obtain ⟨hF, hG⟩ := sE2 hF
                          subst hF
                          subst hG
                          exact r_iret K hw d_Model_copy_126
          · replace hF := ifF hF c_9
            refine lv_bipush (v := -13) hx hb d_Model_copy_59 (by decide) ?_
            obtain ⟨hF, hG⟩ := sE2 hF
            subst hF
            subst hG
            exact r_iret K hw d_Model_copy_61
        · replace hF := ifN hF c_6
          refine lv_bipush (v := -11) hx hb d_Model_copy_41 (by decide) ?_
          obtain ⟨hF, hG⟩ := sE2 hF
          subst hF
          subst hG
          exact r_iret K hw d_Model_copy_43
    · replace hF := ifN hF c_2
      refine lv_bipush (v := -2) hx hb d_Model_copy_18 (by decide) ?_
      obtain ⟨hF, hG⟩ := sE2 hF
      subst hF
      subst hG
      exact r_iret K hw d_Model_copy_20
end S_Model_copy
noncomputable abbrev F_Model_copy := F_Model_copy_0
theorem c_Model_copy {l : Launch} {D : va_G} {cA : Nat → ClassId} {ad : Nat → Nat} {s0 τ : St} {r : Int32} {v1 : Int32} {v2 : Int32} {v3 : Int32} {v4 : Int32} {v5 : Int32}  (hF : F_Model_copy s0 v1 v2 v3 v4 v5 = (some (r, τ))) : MI l D cA ad shM y_Model_copy (wT y_Model_copy b_Model_copy 10 (some .int)) rm_Model_copy [.ref (ad 0), .int v1, .int v2, .int v3, .int v4, .int v5] s0 r τ := fun sz => m_start (Qc := fun A => QcI D cA ad shM A r τ) (by decide +kernel) w_1402 (Nat.le_of_ble_eq_true rfl) (fun p e s m below meth c ls K hl hw => q_Model_copy_0 K _ _ _ _ _ _ _ _ _  hw hl hF)
