/-! Reader.readLevel(II)V -/
abbrev b_Reader_readLevel : ByteArray := prog_5_method_6_code
def y_Reader_readLevel : MethodName := ⟨R_Reader, "readLevel", "(II)V"⟩
theorem a_Reader_readLevel : y_Reader_readLevel.cls = R_Reader ∧ y_Reader_readLevel.cls ≠ "java/lang/invoke/MethodHandle" ∧ y_Reader_readLevel.cls ≠ "java/lang/invoke/VarHandle" ∧ (parseMethodDescriptor y_Reader_readLevel.desc).map (fun d => d.parameters.length) = some 2 := by decide +kernel
/-! Reader.readNot(I)V -/
abbrev b_Reader_readNot : ByteArray := prog_5_method_7_code
def y_Reader_readNot : MethodName := ⟨R_Reader, "readNot", "(I)V"⟩
theorem a_Reader_readNot : y_Reader_readNot.cls = R_Reader ∧ y_Reader_readNot.cls ≠ "java/lang/invoke/MethodHandle" ∧ y_Reader_readNot.cls ≠ "java/lang/invoke/VarHandle" ∧ (parseMethodDescriptor y_Reader_readNot.desc).map (fun d => d.parameters.length) = some 1 := by decide +kernel
/-! Reader.readOne(I)V -/
abbrev b_Reader_readOne : ByteArray := prog_5_method_8_code
def y_Reader_readOne : MethodName := ⟨R_Reader, "readOne", "(I)V"⟩
theorem a_Reader_readOne : y_Reader_readOne.cls = R_Reader ∧ y_Reader_readOne.cls ≠ "java/lang/invoke/MethodHandle" ∧ y_Reader_readOne.cls ≠ "java/lang/invoke/VarHandle" ∧ (parseMethodDescriptor y_Reader_readOne.desc).map (fun d => d.parameters.length) = some 1 := by decide +kernel
def rmReader (d : Nat) : Room := { frames := d + 3, cells := 0, slots := 0, locals := d * 25 + 63 }
theorem rmReader_step (d : Nat) : (rmReader d).frames + 1 ≤ (rmReader (d + 1)).frames ∧ ∀ mL, mL ≤ 6 → 8 + (mL + 11) + (rmReader d).locals ≤ (rmReader (d + 1)).locals := by
  simp only [rmReader]
  exact ⟨by omega, fun mL h => by omega⟩
theorem rmReader_big (d : Nat) : 3 ≤ (rmReader (d + 1)).frames ∧ 63 ≤ (rmReader (d + 1)).locals := by
  simp only [rmReader]
  exact ⟨by omega, by omega⟩
theorem w_460 : Cond.code y_Reader_readLevel b_Reader_readLevel 6 none ∈ TB := tb_in 460 (by decide +kernel) (by decide +kernel)
theorem w_457 : Cond.methodLink R_Reader 43 y_Reader_readLevel ∈ TB := tb_in 457 (by decide +kernel) (by decide +kernel)
theorem w_459 : Cond.instanceMethod y_Reader_readLevel ∈ TB := tb_in 459 (by decide +kernel) (by decide +kernel)
theorem w_8 : Cond.selects R_Reader y_Reader_readLevel y_Reader_readLevel ∈ TB := tb_in 8 (by decide +kernel) (by decide +kernel)
theorem w_481 : Cond.methodLink R_Reader 70 y_Reader_isSignOf ∈ TB := tb_in 481 (by decide +kernel) (by decide +kernel)
theorem w_483 : Cond.instanceMethod y_Reader_isSignOf ∈ TB := tb_in 483 (by decide +kernel) (by decide +kernel)
theorem w_12 : Cond.selects R_Reader y_Reader_isSignOf y_Reader_isSignOf ∈ TB := tb_in 12 (by decide +kernel) (by decide +kernel)
theorem w_485 : Cond.methodLink R_Reader 73 y_Reader_stepOf ∈ TB := tb_in 485 (by decide +kernel) (by decide +kernel)
theorem w_486 : Cond.static y_Reader_stepOf ∈ TB := tb_in 486 (by decide +kernel) (by decide +kernel)
theorem w_309 : Cond.fieldLink R_Reader 20 R_Reader "made" "LArmAgainstArm$Text;" ∈ TB := tb_in 309 (by decide +kernel) (by decide +kernel)
theorem w_469 : Cond.methodLink R_Reader 76 y_Text_add ∈ TB := tb_in 469 (by decide +kernel) (by decide +kernel)
theorem w_470 : Cond.instanceMethod y_Text_add ∈ TB := tb_in 470 (by decide +kernel) (by decide +kernel)
theorem w_471 : Cond.selects R_Text y_Text_add y_Text_add ∈ TB := tb_in 471 (by decide +kernel) (by decide +kernel)
theorem w_68 : Cond.initialized R_Text ∈ TB := tb_in 68 (by decide +kernel) (by decide +kernel)
theorem w_480 : Cond.code y_Reader_readNot b_Reader_readNot 2 none ∈ TB := tb_in 480 (by decide +kernel) (by decide +kernel)
theorem w_477 : Cond.methodLink R_Reader 67 y_Reader_readNot ∈ TB := tb_in 477 (by decide +kernel) (by decide +kernel)
theorem w_479 : Cond.instanceMethod y_Reader_readNot ∈ TB := tb_in 479 (by decide +kernel) (by decide +kernel)
theorem w_11 : Cond.selects R_Reader y_Reader_readNot y_Reader_readNot ∈ TB := tb_in 11 (by decide +kernel) (by decide +kernel)
theorem w_464 : Cond.code y_Reader_readOne b_Reader_readOne 2 none ∈ TB := tb_in 464 (by decide +kernel) (by decide +kernel)
theorem w_461 : Cond.methodLink R_Reader 64 y_Reader_readOne ∈ TB := tb_in 461 (by decide +kernel) (by decide +kernel)
theorem w_463 : Cond.instanceMethod y_Reader_readOne ∈ TB := tb_in 463 (by decide +kernel) (by decide +kernel)
theorem w_9 : Cond.selects R_Reader y_Reader_readOne y_Reader_readOne ∈ TB := tb_in 9 (by decide +kernel) (by decide +kernel)
theorem w_473 : Cond.methodLink R_Reader 79 y_Reader_opens ∈ TB := tb_in 473 (by decide +kernel) (by decide +kernel)
theorem w_475 : Cond.instanceMethod y_Reader_opens ∈ TB := tb_in 475 (by decide +kernel) (by decide +kernel)
theorem w_10 : Cond.selects R_Reader y_Reader_opens y_Reader_opens ∈ TB := tb_in 10 (by decide +kernel) (by decide +kernel)
theorem w_437 : Cond.methodLink R_Reader 39 y_Reader_expect ∈ TB := tb_in 437 (by decide +kernel) (by decide +kernel)
theorem w_439 : Cond.instanceMethod y_Reader_expect ∈ TB := tb_in 439 (by decide +kernel) (by decide +kernel)
theorem w_5 : Cond.selects R_Reader y_Reader_expect y_Reader_expect ∈ TB := tb_in 5 (by decide +kernel) (by decide +kernel)
theorem w_465 : Cond.methodLink R_Reader 82 y_Tokens_value ∈ TB := tb_in 465 (by decide +kernel) (by decide +kernel)
theorem w_466 : Cond.instanceMethod y_Tokens_value ∈ TB := tb_in 466 (by decide +kernel) (by decide +kernel)
theorem w_467 : Cond.selects R_Tokens y_Tokens_value y_Tokens_value ∈ TB := tb_in 467 (by decide +kernel) (by decide +kernel)
theorem d_Reader_readLevel_0 : decode b_Reader_readLevel 0 = .ok (.iload_n 1, 1) := by decide +kernel
theorem d_Reader_readLevel_1 : decode b_Reader_readLevel 1 = .ok (.iconst 4, 1) := by decide +kernel
theorem d_Reader_readLevel_2 : decode b_Reader_readLevel 2 = .ok (.if_icmp .le 11, 3) := by decide +kernel
theorem d_Reader_readLevel_5 : decode b_Reader_readLevel 5 = .ok (.aload_n 0, 1) := by decide +kernel
theorem d_Reader_readLevel_6 : decode b_Reader_readLevel 6 = .ok (.iload_n 2, 1) := by decide +kernel
theorem d_Reader_readLevel_7 : decode b_Reader_readLevel 7 = .ok (.invokevirtual 64, 3) := by decide +kernel
theorem d_Reader_readLevel_10 : decode b_Reader_readLevel 10 = .ok (.goto 112, 3) := by decide +kernel
theorem d_Reader_readLevel_13 : decode b_Reader_readLevel 13 = .ok (.iload_n 1, 1) := by decide +kernel
theorem d_Reader_readLevel_14 : decode b_Reader_readLevel 14 = .ok (.iconst 2, 1) := by decide +kernel
theorem d_Reader_readLevel_15 : decode b_Reader_readLevel 15 = .ok (.if_icmp .ne 20, 3) := by decide +kernel
theorem d_Reader_readLevel_18 : decode b_Reader_readLevel 18 = .ok (.aload_n 0, 1) := by decide +kernel
theorem d_Reader_readLevel_19 : decode b_Reader_readLevel 19 = .ok (.bipush 15, 2) := by decide +kernel
theorem d_Reader_readLevel_21 : decode b_Reader_readLevel 21 = .ok (.invokevirtual 57, 3) := by decide +kernel
theorem d_Reader_readLevel_24 : decode b_Reader_readLevel 24 = .ok (.ifCond .eq 11, 3) := by decide +kernel
theorem d_Reader_readLevel_27 : decode b_Reader_readLevel 27 = .ok (.aload_n 0, 1) := by decide +kernel
theorem d_Reader_readLevel_28 : decode b_Reader_readLevel 28 = .ok (.iload_n 2, 1) := by decide +kernel
theorem d_Reader_readLevel_29 : decode b_Reader_readLevel 29 = .ok (.invokevirtual 67, 3) := by decide +kernel
theorem d_Reader_readLevel_32 : decode b_Reader_readLevel 32 = .ok (.goto 90, 3) := by decide +kernel
theorem d_Reader_readLevel_35 : decode b_Reader_readLevel 35 = .ok (.aload_n 0, 1) := by decide +kernel
theorem d_Reader_readLevel_36 : decode b_Reader_readLevel 36 = .ok (.iload_n 1, 1) := by decide +kernel
theorem d_Reader_readLevel_37 : decode b_Reader_readLevel 37 = .ok (.iconst 1, 1) := by decide +kernel
theorem d_Reader_readLevel_38 : decode b_Reader_readLevel 38 = .ok (.iadd, 1) := by decide +kernel
theorem d_Reader_readLevel_39 : decode b_Reader_readLevel 39 = .ok (.iload_n 2, 1) := by decide +kernel
theorem d_Reader_readLevel_40 : decode b_Reader_readLevel 40 = .ok (.invokevirtual 43, 3) := by decide +kernel
theorem d_Reader_readLevel_43 : decode b_Reader_readLevel 43 = .ok (.iload_n 1, 1) := by decide +kernel
theorem d_Reader_readLevel_44 : decode b_Reader_readLevel 44 = .ok (.iconst 2, 1) := by decide +kernel
theorem d_Reader_readLevel_45 : decode b_Reader_readLevel 45 = .ok (.if_icmp .ne 7, 3) := by decide +kernel
theorem d_Reader_readLevel_48 : decode b_Reader_readLevel 48 = .ok (.iconst 1, 1) := by decide +kernel
theorem d_Reader_readLevel_49 : decode b_Reader_readLevel 49 = .ok (.goto 6, 3) := by decide +kernel
theorem d_Reader_readLevel_52 : decode b_Reader_readLevel 52 = .ok (.sipush 160, 3) := by decide +kernel
theorem d_Reader_readLevel_55 : decode b_Reader_readLevel 55 = .ok (.istore_n 3, 1) := by decide +kernel
theorem d_Reader_readLevel_56 : decode b_Reader_readLevel 56 = .ok (.iconst 0, 1) := by decide +kernel
theorem d_Reader_readLevel_57 : decode b_Reader_readLevel 57 = .ok (.istore 4, 2) := by decide +kernel
theorem d_Reader_readLevel_59 : decode b_Reader_readLevel 59 = .ok (.iload 4, 2) := by decide +kernel
theorem d_Reader_readLevel_61 : decode b_Reader_readLevel 61 = .ok (.iload_n 3, 1) := by decide +kernel
theorem d_Reader_readLevel_62 : decode b_Reader_readLevel 62 = .ok (.if_icmp .ge 60, 3) := by decide +kernel
theorem d_Reader_readLevel_65 : decode b_Reader_readLevel 65 = .ok (.aload_n 0, 1) := by decide +kernel
theorem d_Reader_readLevel_66 : decode b_Reader_readLevel 66 = .ok (.iload_n 1, 1) := by decide +kernel
theorem d_Reader_readLevel_67 : decode b_Reader_readLevel 67 = .ok (.invokevirtual 70, 3) := by decide +kernel
theorem d_Reader_readLevel_70 : decode b_Reader_readLevel 70 = .ok (.ifCond .eq 52, 3) := by decide +kernel
theorem d_Reader_readLevel_73 : decode b_Reader_readLevel 73 = .ok (.aload_n 0, 1) := by decide +kernel
theorem d_Reader_readLevel_74 : decode b_Reader_readLevel 74 = .ok (.getfield 14, 3) := by decide +kernel
theorem d_Reader_readLevel_77 : decode b_Reader_readLevel 77 = .ok (.aload_n 0, 1) := by decide +kernel
theorem d_Reader_readLevel_78 : decode b_Reader_readLevel 78 = .ok (.getfield 29, 3) := by decide +kernel
theorem d_Reader_readLevel_81 : decode b_Reader_readLevel 81 = .ok (.invokevirtual 50, 3) := by decide +kernel
theorem d_Reader_readLevel_84 : decode b_Reader_readLevel 84 = .ok (.invokestatic 73, 3) := by decide +kernel
theorem d_Reader_readLevel_87 : decode b_Reader_readLevel 87 = .ok (.istore 5, 2) := by decide +kernel
theorem d_Reader_readLevel_89 : decode b_Reader_readLevel 89 = .ok (.aload_n 0, 1) := by decide +kernel
theorem d_Reader_readLevel_90 : decode b_Reader_readLevel 90 = .ok (.dup, 1) := by decide +kernel
theorem d_Reader_readLevel_91 : decode b_Reader_readLevel 91 = .ok (.getfield 29, 3) := by decide +kernel
theorem d_Reader_readLevel_94 : decode b_Reader_readLevel 94 = .ok (.iconst 1, 1) := by decide +kernel
theorem d_Reader_readLevel_95 : decode b_Reader_readLevel 95 = .ok (.iadd, 1) := by decide +kernel
theorem d_Reader_readLevel_96 : decode b_Reader_readLevel 96 = .ok (.putfield 29, 3) := by decide +kernel
theorem d_Reader_readLevel_99 : decode b_Reader_readLevel 99 = .ok (.aload_n 0, 1) := by decide +kernel
theorem d_Reader_readLevel_100 : decode b_Reader_readLevel 100 = .ok (.iload_n 1, 1) := by decide +kernel
theorem d_Reader_readLevel_101 : decode b_Reader_readLevel 101 = .ok (.iconst 1, 1) := by decide +kernel
theorem d_Reader_readLevel_102 : decode b_Reader_readLevel 102 = .ok (.iadd, 1) := by decide +kernel
theorem d_Reader_readLevel_103 : decode b_Reader_readLevel 103 = .ok (.iload_n 2, 1) := by decide +kernel
theorem d_Reader_readLevel_104 : decode b_Reader_readLevel 104 = .ok (.invokevirtual 43, 3) := by decide +kernel
theorem d_Reader_readLevel_107 : decode b_Reader_readLevel 107 = .ok (.aload_n 0, 1) := by decide +kernel
theorem d_Reader_readLevel_108 : decode b_Reader_readLevel 108 = .ok (.getfield 20, 3) := by decide +kernel
theorem d_Reader_readLevel_111 : decode b_Reader_readLevel 111 = .ok (.iload 5, 2) := by decide +kernel
theorem d_Reader_readLevel_113 : decode b_Reader_readLevel 113 = .ok (.invokevirtual 76, 3) := by decide +kernel
theorem d_Reader_readLevel_116 : decode b_Reader_readLevel 116 = .ok (.iinc 4 1, 3) := by decide +kernel
theorem d_Reader_readLevel_119 : decode b_Reader_readLevel 119 = .ok (.goto (-60), 3) := by decide +kernel
theorem d_Reader_readLevel_122 : decode b_Reader_readLevel 122 = .ok (.return_, 1) := by decide +kernel
section S_Reader_readLevel
variable {p : Program} {l : Launch} {e : Env} {s : State} {m : MethodId} {args : Array Value} {below : List Frame} {meth : Method} {c : Code} {D : va_G} {cA : Nat → ClassId} {ad : Nat → Nat} {nC : Nat} {A : Nat → Prop} {τ : St}
noncomputable def F_Reader_readLevel_59 (r_Reader_readLevel : St → Int32 → Int32 → Option St) (r_Reader_readNot : St → Int32 → Option St) (r_Reader_readOne : St → Int32 → Option St) : Nat → St → Int32 → Int32 → Int32 → Int32 → Option St
  | 0, _, _, _, _, _ => none
  | n + 1, s0, v1, v2, v3, v4 => (if v3 ≤ v4 then (some s0) else (ob1 (F_Reader_isSignOf s0 v1) (fun r_6 => (if r_6 = 0 then (some s0) else (ob1 (F_Tokens_kind s0 (s0.1 2 2)) (fun r_8 => (lt (up1 s0 2 2 ((s0.1 2 2) + (1 : Int32))) (fun s_9 => (ob1 (r_Reader_readLevel s_9 (v1 + (1 : Int32)) v2) (fun s_10 => (if P_Text (s_10.2 2 1) then (ob1 (F_Text_add s_10 (s_10.2 2 1) (F_Reader_stepOf r_8)) (fun s_12 => (F_Reader_readLevel_59 r_Reader_readLevel r_Reader_readNot r_Reader_readOne n s_12 v1 v2 v3 (v4 + 1)))) else none)))))))))))
set_option maxHeartbeats 4000000 in
set_option maxRecDepth 100000 in
theorem q_Reader_readLevel_59 (hn : 20 ≤ nC) {d : Nat} (r_Reader_readLevel : St → Int32 → Int32 → Option St) (hr_Reader_readLevel : ∀ (s0 τ : St) (v1 : Int32) (v2 : Int32), r_Reader_readLevel s0 v1 v2 = some τ → MV l D cA ad (shC.take nC) y_Reader_readLevel (wT y_Reader_readLevel b_Reader_readLevel 6 none) (rmReader d) [.ref (ad 2), .int v1, .int v2] s0 τ) (r_Reader_readNot : St → Int32 → Option St) (hr_Reader_readNot : ∀ (s0 τ : St) (v1 : Int32), r_Reader_readNot s0 v1 = some τ → MV l D cA ad (shC.take nC) y_Reader_readNot (wT y_Reader_readNot b_Reader_readNot 2 none) (rmReader d) [.ref (ad 2), .int v1] s0 τ) (r_Reader_readOne : St → Int32 → Option St) (hr_Reader_readOne : ∀ (s0 τ : St) (v1 : Int32), r_Reader_readOne s0 v1 = some τ → MV l D cA ad (shC.take nC) y_Reader_readOne (wT y_Reader_readOne b_Reader_readOne 2 none) (rmReader d) [.ref (ad 2), .int v1] s0 τ) (K : Fx p s m args meth c b_Reader_readLevel 6 R_Reader none)  : ∀ (n : Nat), ∀ (H : Heap) (locs : List Loc) (ls : Array Slot) (s0 : St) (v1 : Int32) (v2 : Int32) (v3 : Int32) (v4 : Int32), Wh D cA ad (shC.take nC) A s s0 H locs → lv_has ls 6 [(0, .ref (ad 2)), (1, .int v1), (2, .int v2), (3, .int v3), (4, .int v4)] → F_Reader_readLevel_59 r_Reader_readLevel r_Reader_readNot r_Reader_readOne n s0 v1 v2 v3 v4 = (some τ) → W p l e (rmReader (d + 1)) s m args below meth c H locs 0 0 (MQ below (QcV D cA ad (shC.take nC) A τ) args s 0 0 A) (F0 m 59 ls []) := by
  have hx := K.1.1; have hb := K.1.2.1
  intro n
  induction n with
  | zero =>
    intro H locs ls s0 v1 v2 v3 v4 hw hl hF
    exact absurd hF (by rw [F_Reader_readLevel_59]; exact nofun)
  | succ n ih =>
    intro H locs ls s0 v1 v2 v3 v4 hw hl hF
    rw [F_Reader_readLevel_59] at hF
    refine lv_iload hx hb d_Reader_readLevel_59 (lv_at hl 4 rfl) ?_
    refine lv_iload_n hx hb d_Reader_readLevel_61 rfl (lv_at hl 3 rfl) ?_
    refine lv_icmp_ge (tgt := 122) hx hb d_Reader_readLevel_62 (by decide) (fun c_5 => ?_) (fun c_5 => ?_)
    · replace hF := ifT hF c_5
      replace hF := sE1 hF
      subst hF
      exact r_vret K hw d_Reader_readLevel_122
    · replace hF := ifF hF c_5
      refine lv_aload_n hx hb d_Reader_readLevel_65 rfl (lv_at hl 0 rfl) ?_
      refine lv_iload_n hx hb d_Reader_readLevel_66 rfl (lv_at hl 1 rfl) ?_
      obtain ⟨r_6, h_r_6, hF⟩ := ob1E hF
      refine r_callVI (As := [.int v1]) (rest := []) K hw hl.1 (c_Reader_isSignOf (l := l) (D := D) (cA := cA) (ad := ad) (s0 := s0) (Nat.le_trans (Nat.le_of_ble_eq_true rfl) hn)  h_r_6) (sh_Reader (Nat.le_trans (Nat.le_of_ble_eq_true rfl) hn)) rfl (tb_gV w_481 w_483 w_12 w_73 w_484) a_Reader_isSignOf ⟨rfl, rfl, Nat.le_trans (Nat.le_of_ble_eq_true rfl) (rmReader_big d).1, Nat.le_trans (Nat.le_of_ble_eq_true rfl) (rmReader_big d).2⟩ rfl rfl (Nat.le_of_ble_eq_true rfl) d_Reader_readLevel_67 (fun H locs hw => ?_)
      refine lv_if_eq (tgt := 122) hx hb d_Reader_readLevel_70 (by decide) (fun c_7 => ?_) (fun c_7 => ?_)
      · replace hF := ifT hF c_7
        replace hF := sE1 hF
        subst hF
        exact r_vret K hw d_Reader_readLevel_122
      · replace hF := ifF hF c_7
        refine lv_aload_n hx hb d_Reader_readLevel_73 rfl (lv_at hl 0 rfl) ?_
        refine r_get (v := .ref (ad 3)) K hw i_Reader (sh_Reader (Nat.le_trans (Nat.le_of_ble_eq_true rfl) hn)) rfl 0 (by decide) w_308 rfl rfl rfl d_Reader_readLevel_74 ?_
        refine lv_aload_n hx hb d_Reader_readLevel_77 rfl (lv_at hl 0 rfl) ?_
        refine r_get (v := .int (s0.1 2 2)) K hw i_Reader (sh_Reader (Nat.le_trans (Nat.le_of_ble_eq_true rfl) hn)) rfl 2 (by decide) w_311 rfl rfl rfl d_Reader_readLevel_78 ?_
        obtain ⟨r_8, h_r_8, hF⟩ := ob1E hF
        refine r_callVI (As := [.int (s0.1 2 2)]) (rest := []) K hw hl.1 (c_Tokens_kind (l := l) (D := D) (cA := cA) (ad := ad) (s0 := s0) (Nat.le_trans (Nat.le_of_ble_eq_true rfl) hn)  h_r_8) (sh_Tokens (Nat.le_trans (Nat.le_of_ble_eq_true rfl) hn)) rfl (tb_gV w_445 w_446 w_447 w_74 w_448) a_Tokens_kind ⟨rfl, rfl, Nat.le_trans (Nat.le_of_ble_eq_true rfl) (rmReader_big d).1, Nat.le_trans (Nat.le_of_ble_eq_true rfl) (rmReader_big d).2⟩ rfl rfl (Nat.le_of_ble_eq_true rfl) d_Reader_readLevel_81 (fun H locs hw => ?_)
        refine r_callSI (As := [.int r_8]) (rest := []) K hw hl.1 (c_Reader_stepOf (l := l) (D := D) (cA := cA) (ad := ad) (s0 := s0) (Nat.le_trans (Nat.le_of_ble_eq_true rfl) hn)  rfl) (tb_gS w_485 w_486 w_73 w_487) a_Reader_stepOf ⟨rfl, rfl, Nat.le_trans (Nat.le_of_ble_eq_true rfl) (rmReader_big d).1, Nat.le_trans (Nat.le_of_ble_eq_true rfl) (rmReader_big d).2⟩ rfl rfl (Nat.le_of_ble_eq_true rfl) d_Reader_readLevel_84 (fun H locs hw => ?_)
        refine lv_istore (lv' := [(5, .int (F_Reader_stepOf r_8)), (0, .ref (ad 2)), (1, .int v1), (2, .int v2), (3, .int v3), (4, .int v4)]) hx hb d_Reader_readLevel_87 hl (by decide) rfl (fun ls hl => ?_)
        refine lv_aload_n hx hb d_Reader_readLevel_89 rfl (lv_at hl 1 rfl) ?_
        refine lv_dup hx hb d_Reader_readLevel_90 rfl ?_
        refine r_get (v := .int (s0.1 2 2)) K hw i_Reader (sh_Reader (Nat.le_trans (Nat.le_of_ble_eq_true rfl) hn)) rfl 2 (by decide) w_311 rfl rfl rfl d_Reader_readLevel_91 ?_
        refine lv_iconst (v := 1) hx hb d_Reader_readLevel_94 (by decide) ?_
        refine lv_iadd hx hb d_Reader_readLevel_95 ?_
        refine r_putI K hw i_Reader t_Reader t_Reader_ok n_Reader (sh_Reader (Nat.le_trans (Nat.le_of_ble_eq_true rfl) hn)) rfl 2 (by decide) w_311 rfl rfl rfl rfl rfl d_Reader_readLevel_96 (fun s_9 f_s_9 H locs hw => ?_)
        replace hF := ltN hF f_s_9
        refine lv_aload_n hx hb d_Reader_readLevel_99 rfl (lv_at hl 1 rfl) ?_
        refine lv_iload_n hx hb d_Reader_readLevel_100 rfl (lv_at hl 2 rfl) ?_
        refine lv_iconst (v := 1) hx hb d_Reader_readLevel_101 (by decide) ?_
        refine lv_iadd hx hb d_Reader_readLevel_102 ?_
        refine lv_iload_n hx hb d_Reader_readLevel_103 rfl (lv_at hl 3 rfl) ?_
        obtain ⟨s_10, h_s_10, hF⟩ := ob1E hF
        refine r_callVV (As := [.int (v1 + (1 : Int32)), .int v2]) (rest := []) K hw hl.1 (hr_Reader_readLevel _ _ _ _  h_s_10) (sh_Reader (Nat.le_trans (Nat.le_of_ble_eq_true rfl) hn)) rfl (tb_gV w_457 w_459 w_8 w_73 w_460) a_Reader_readLevel ⟨rfl, rfl, (rmReader_step d).1, (rmReader_step d).2 _ (Nat.le_of_ble_eq_true rfl)⟩ rfl rfl (Nat.le_of_ble_eq_true rfl) d_Reader_readLevel_104 (fun H locs hw => ?_)
        refine lv_aload_n hx hb d_Reader_readLevel_107 rfl (lv_at hl 1 rfl) ?_
        obtain ⟨g_11, hF⟩ := ifG hF
        refine r_get (v := .ref (ad (s_10.2 2 1))) K hw i_Reader (sh_Reader (Nat.le_trans (Nat.le_of_ble_eq_true rfl) hn)) rfl 1 (by decide) w_309 rfl rfl rfl d_Reader_readLevel_108 ?_
        refine lv_iload hx hb d_Reader_readLevel_111 (lv_at hl 0 rfl) ?_
        obtain ⟨s_12, h_s_12, hF⟩ := ob1E hF
        refine r_callVV (As := [.int (F_Reader_stepOf r_8)]) (rest := []) K hw hl.1 (c_Text_add (l := l) (D := D) (cA := cA) (ad := ad) (s0 := s_10) (Nat.le_trans (Nat.le_of_ble_eq_true rfl) hn) g_11 h_s_12) (sh_Text g_11 (Nat.le_trans (Nat.le_of_ble_eq_true rfl) hn)) rfl (tb_gV w_469 w_470 w_471 w_68 w_472) a_Text_add ⟨rfl, rfl, Nat.le_trans (Nat.le_of_ble_eq_true rfl) (rmReader_big d).1, Nat.le_trans (Nat.le_of_ble_eq_true rfl) (rmReader_big d).2⟩ rfl rfl (Nat.le_of_ble_eq_true rfl) d_Reader_readLevel_113 (fun H locs hw => ?_)
        refine lv_iinc (v := (v4 + 1)) (lv' := [(4, .int (v4 + 1)), (5, .int (F_Reader_stepOf r_8)), (0, .ref (ad 2)), (1, .int v1), (2, .int v2), (3, .int v3)]) hx hb d_Reader_readLevel_116 hl (k := 5) rfl rfl (by decide) rfl (fun ls hl => ?_)
        refine lv_goto (tgt := 59) hx hb d_Reader_readLevel_119 (by decide) ?_
        exact ih _ _ _ _ _ _ _ _  hw (lv_sub hl [2, 3, 4, 5, 0] rfl) hF
noncomputable def F_Reader_readLevel_55 (r_Reader_readLevel : St → Int32 → Int32 → Option St) (r_Reader_readNot : St → Int32 → Option St) (r_Reader_readOne : St → Int32 → Option St) (s0 : St) (v1 : Int32) (v2 : Int32) (t0 : Int32) : Option St := (F_Reader_readLevel_59 r_Reader_readLevel r_Reader_readNot r_Reader_readOne FU s0 v1 v2 t0 (0 : Int32))
set_option maxHeartbeats 4000000 in
set_option maxRecDepth 100000 in
theorem q_Reader_readLevel_55 (hn : 20 ≤ nC) {d : Nat} (r_Reader_readLevel : St → Int32 → Int32 → Option St) (hr_Reader_readLevel : ∀ (s0 τ : St) (v1 : Int32) (v2 : Int32), r_Reader_readLevel s0 v1 v2 = some τ → MV l D cA ad (shC.take nC) y_Reader_readLevel (wT y_Reader_readLevel b_Reader_readLevel 6 none) (rmReader d) [.ref (ad 2), .int v1, .int v2] s0 τ) (r_Reader_readNot : St → Int32 → Option St) (hr_Reader_readNot : ∀ (s0 τ : St) (v1 : Int32), r_Reader_readNot s0 v1 = some τ → MV l D cA ad (shC.take nC) y_Reader_readNot (wT y_Reader_readNot b_Reader_readNot 2 none) (rmReader d) [.ref (ad 2), .int v1] s0 τ) (r_Reader_readOne : St → Int32 → Option St) (hr_Reader_readOne : ∀ (s0 τ : St) (v1 : Int32), r_Reader_readOne s0 v1 = some τ → MV l D cA ad (shC.take nC) y_Reader_readOne (wT y_Reader_readOne b_Reader_readOne 2 none) (rmReader d) [.ref (ad 2), .int v1] s0 τ) (K : Fx p s m args meth c b_Reader_readLevel 6 R_Reader none)  : ∀ (H : Heap) (locs : List Loc) (ls : Array Slot) (s0 : St) (v1 : Int32) (v2 : Int32) (t0 : Int32), Wh D cA ad (shC.take nC) A s s0 H locs → lv_has ls 6 [(0, .ref (ad 2)), (1, .int v1), (2, .int v2)] → F_Reader_readLevel_55 r_Reader_readLevel r_Reader_readNot r_Reader_readOne s0 v1 v2 t0 = (some τ) → W p l e (rmReader (d + 1)) s m args below meth c H locs 0 0 (MQ below (QcV D cA ad (shC.take nC) A τ) args s 0 0 A) (F0 m 55 ls [.int t0]) := by
  have hx := K.1.1; have hb := K.1.2.1
  intro H locs ls s0 v1 v2 t0 hw hl hF
  unfold F_Reader_readLevel_55 at hF
  refine lv_istore_n (lv' := [(3, .int t0), (0, .ref (ad 2)), (1, .int v1), (2, .int v2)]) hx hb d_Reader_readLevel_55 rfl hl (by decide) rfl (fun ls hl => ?_)
  refine lv_iconst (v := 0) hx hb d_Reader_readLevel_56 (by decide) ?_
  refine lv_istore (lv' := [(4, .int (0 : Int32)), (3, .int t0), (0, .ref (ad 2)), (1, .int v1), (2, .int v2)]) hx hb d_Reader_readLevel_57 hl (by decide) rfl (fun ls hl => ?_)
  exact q_Reader_readLevel_59 hn r_Reader_readLevel hr_Reader_readLevel r_Reader_readNot hr_Reader_readNot r_Reader_readOne hr_Reader_readOne K FU _ _ _ _ _ _ _ _  hw (lv_sub hl [2, 3, 4, 1, 0] rfl) hF
noncomputable def F_Reader_readLevel_35 (r_Reader_readLevel : St → Int32 → Int32 → Option St) (r_Reader_readNot : St → Int32 → Option St) (r_Reader_readOne : St → Int32 → Option St) (s0 : St) (v1 : Int32) (v2 : Int32) : Option St := (ob1 (r_Reader_readLevel s0 (v1 + (1 : Int32)) v2) (fun s_3 => (if ¬ v1 = (2 : Int32) then (F_Reader_readLevel_55 r_Reader_readLevel r_Reader_readNot r_Reader_readOne s_3 v1 v2 (160 : Int32)) else (F_Reader_readLevel_55 r_Reader_readLevel r_Reader_readNot r_Reader_readOne s_3 v1 v2 (1 : Int32)))))
set_option maxHeartbeats 4000000 in
set_option maxRecDepth 100000 in
theorem q_Reader_readLevel_35 (hn : 20 ≤ nC) {d : Nat} (r_Reader_readLevel : St → Int32 → Int32 → Option St) (hr_Reader_readLevel : ∀ (s0 τ : St) (v1 : Int32) (v2 : Int32), r_Reader_readLevel s0 v1 v2 = some τ → MV l D cA ad (shC.take nC) y_Reader_readLevel (wT y_Reader_readLevel b_Reader_readLevel 6 none) (rmReader d) [.ref (ad 2), .int v1, .int v2] s0 τ) (r_Reader_readNot : St → Int32 → Option St) (hr_Reader_readNot : ∀ (s0 τ : St) (v1 : Int32), r_Reader_readNot s0 v1 = some τ → MV l D cA ad (shC.take nC) y_Reader_readNot (wT y_Reader_readNot b_Reader_readNot 2 none) (rmReader d) [.ref (ad 2), .int v1] s0 τ) (r_Reader_readOne : St → Int32 → Option St) (hr_Reader_readOne : ∀ (s0 τ : St) (v1 : Int32), r_Reader_readOne s0 v1 = some τ → MV l D cA ad (shC.take nC) y_Reader_readOne (wT y_Reader_readOne b_Reader_readOne 2 none) (rmReader d) [.ref (ad 2), .int v1] s0 τ) (K : Fx p s m args meth c b_Reader_readLevel 6 R_Reader none)  : ∀ (H : Heap) (locs : List Loc) (ls : Array Slot) (s0 : St) (v1 : Int32) (v2 : Int32), Wh D cA ad (shC.take nC) A s s0 H locs → lv_has ls 6 [(0, .ref (ad 2)), (1, .int v1), (2, .int v2)] → F_Reader_readLevel_35 r_Reader_readLevel r_Reader_readNot r_Reader_readOne s0 v1 v2 = (some τ) → W p l e (rmReader (d + 1)) s m args below meth c H locs 0 0 (MQ below (QcV D cA ad (shC.take nC) A τ) args s 0 0 A) (F0 m 35 ls []) := by
  have hx := K.1.1; have hb := K.1.2.1
  intro H locs ls s0 v1 v2 hw hl hF
  unfold F_Reader_readLevel_35 at hF
  refine lv_aload_n hx hb d_Reader_readLevel_35 rfl (lv_at hl 0 rfl) ?_
  refine lv_iload_n hx hb d_Reader_readLevel_36 rfl (lv_at hl 1 rfl) ?_
  refine lv_iconst (v := 1) hx hb d_Reader_readLevel_37 (by decide) ?_
  refine lv_iadd hx hb d_Reader_readLevel_38 ?_
  refine lv_iload_n hx hb d_Reader_readLevel_39 rfl (lv_at hl 2 rfl) ?_
  obtain ⟨s_3, h_s_3, hF⟩ := ob1E hF
  refine r_callVV (As := [.int (v1 + (1 : Int32)), .int v2]) (rest := []) K hw hl.1 (hr_Reader_readLevel _ _ _ _  h_s_3) (sh_Reader (Nat.le_trans (Nat.le_of_ble_eq_true rfl) hn)) rfl (tb_gV w_457 w_459 w_8 w_73 w_460) a_Reader_readLevel ⟨rfl, rfl, (rmReader_step d).1, (rmReader_step d).2 _ (Nat.le_of_ble_eq_true rfl)⟩ rfl rfl (Nat.le_of_ble_eq_true rfl) d_Reader_readLevel_40 (fun H locs hw => ?_)
  refine lv_iload_n hx hb d_Reader_readLevel_43 rfl (lv_at hl 1 rfl) ?_
  refine lv_iconst (v := 2) hx hb d_Reader_readLevel_44 (by decide) ?_
  refine lv_icmp_ne (tgt := 52) hx hb d_Reader_readLevel_45 (by decide) (fun c_4 => ?_) (fun c_4 => ?_)
  · replace hF := ifT hF c_4
    refine lv_sipush (v := 160) hx hb d_Reader_readLevel_52 (by decide) ?_
    exact q_Reader_readLevel_55 hn r_Reader_readLevel hr_Reader_readLevel r_Reader_readNot hr_Reader_readNot r_Reader_readOne hr_Reader_readOne K _ _ _ _ _ _ _  hw (lv_sub hl [0, 1, 2] rfl) hF
  · replace hF := ifN hF c_4
    refine lv_iconst (v := 1) hx hb d_Reader_readLevel_48 (by decide) ?_
    refine lv_goto (tgt := 55) hx hb d_Reader_readLevel_49 (by decide) ?_
    exact q_Reader_readLevel_55 hn r_Reader_readLevel hr_Reader_readLevel r_Reader_readNot hr_Reader_readNot r_Reader_readOne hr_Reader_readOne K _ _ _ _ _ _ _  hw (lv_sub hl [0, 1, 2] rfl) hF
noncomputable def F_Reader_readLevel_0 (r_Reader_readLevel : St → Int32 → Int32 → Option St) (r_Reader_readNot : St → Int32 → Option St) (r_Reader_readOne : St → Int32 → Option St) (s0 : St) (v1 : Int32) (v2 : Int32) : Option St := (if v1 ≤ (4 : Int32) then (if ¬ v1 = (2 : Int32) then (F_Reader_readLevel_35 r_Reader_readLevel r_Reader_readNot r_Reader_readOne s0 v1 v2) else (ob1 (F_Reader_is s0 (15 : Int32)) (fun r_13 => (if r_13 = 0 then (F_Reader_readLevel_35 r_Reader_readLevel r_Reader_readNot r_Reader_readOne s0 v1 v2) else (ob1 (r_Reader_readNot s0 v2) (fun s_15 => (some s_15))))))) else (ob1 (r_Reader_readOne s0 v2) (fun s_16 => (some s_16))))
set_option maxHeartbeats 4000000 in
set_option maxRecDepth 100000 in
theorem q_Reader_readLevel_0 (hn : 20 ≤ nC) {d : Nat} (r_Reader_readLevel : St → Int32 → Int32 → Option St) (hr_Reader_readLevel : ∀ (s0 τ : St) (v1 : Int32) (v2 : Int32), r_Reader_readLevel s0 v1 v2 = some τ → MV l D cA ad (shC.take nC) y_Reader_readLevel (wT y_Reader_readLevel b_Reader_readLevel 6 none) (rmReader d) [.ref (ad 2), .int v1, .int v2] s0 τ) (r_Reader_readNot : St → Int32 → Option St) (hr_Reader_readNot : ∀ (s0 τ : St) (v1 : Int32), r_Reader_readNot s0 v1 = some τ → MV l D cA ad (shC.take nC) y_Reader_readNot (wT y_Reader_readNot b_Reader_readNot 2 none) (rmReader d) [.ref (ad 2), .int v1] s0 τ) (r_Reader_readOne : St → Int32 → Option St) (hr_Reader_readOne : ∀ (s0 τ : St) (v1 : Int32), r_Reader_readOne s0 v1 = some τ → MV l D cA ad (shC.take nC) y_Reader_readOne (wT y_Reader_readOne b_Reader_readOne 2 none) (rmReader d) [.ref (ad 2), .int v1] s0 τ) (K : Fx p s m args meth c b_Reader_readLevel 6 R_Reader none)  : ∀ (H : Heap) (locs : List Loc) (ls : Array Slot) (s0 : St) (v1 : Int32) (v2 : Int32), Wh D cA ad (shC.take nC) A s s0 H locs → lv_has ls 6 [(0, .ref (ad 2)), (1, .int v1), (2, .int v2)] → F_Reader_readLevel_0 r_Reader_readLevel r_Reader_readNot r_Reader_readOne s0 v1 v2 = (some τ) → W p l e (rmReader (d + 1)) s m args below meth c H locs 0 0 (MQ below (QcV D cA ad (shC.take nC) A τ) args s 0 0 A) (F0 m 0 ls []) := by
  have hx := K.1.1; have hb := K.1.2.1
  intro H locs ls s0 v1 v2 hw hl hF
  unfold F_Reader_readLevel_0 at hF
  refine lv_iload_n hx hb d_Reader_readLevel_0 rfl (lv_at hl 1 rfl) ?_
  refine lv_iconst (v := 4) hx hb d_Reader_readLevel_1 (by decide) ?_
  refine lv_icmp_le (tgt := 13) hx hb d_Reader_readLevel_2 (by decide) (fun c_1 => ?_) (fun c_1 => ?_)
  · replace hF := ifT hF c_1
    refine lv_iload_n hx hb d_Reader_readLevel_13 rfl (lv_at hl 1 rfl) ?_
    refine lv_iconst (v := 2) hx hb d_Reader_readLevel_14 (by decide) ?_
    refine lv_icmp_ne (tgt := 35) hx hb d_Reader_readLevel_15 (by decide) (fun c_2 => ?_) (fun c_2 => ?_)
    · replace hF := ifT hF c_2
      exact q_Reader_readLevel_35 hn r_Reader_readLevel hr_Reader_readLevel r_Reader_readNot hr_Reader_readNot r_Reader_readOne hr_Reader_readOne K _ _ _ _ _ _  hw (lv_sub hl [0, 1, 2] rfl) hF
    · replace hF := ifN hF c_2
      refine lv_aload_n hx hb d_Reader_readLevel_18 rfl (lv_at hl 0 rfl) ?_
      refine lv_bipush (v := 15) hx hb d_Reader_readLevel_19 (by decide) ?_
      obtain ⟨r_13, h_r_13, hF⟩ := ob1E hF
      refine r_callVI (As := [.int (15 : Int32)]) (rest := []) K hw hl.1 (c_Reader_is (l := l) (D := D) (cA := cA) (ad := ad) (s0 := s0) (Nat.le_trans (Nat.le_of_ble_eq_true rfl) hn)  h_r_13) (sh_Reader (Nat.le_trans (Nat.le_of_ble_eq_true rfl) hn)) rfl (tb_gV w_441 w_443 w_6 w_73 w_444) a_Reader_is ⟨rfl, rfl, Nat.le_trans (Nat.le_of_ble_eq_true rfl) (rmReader_big d).1, Nat.le_trans (Nat.le_of_ble_eq_true rfl) (rmReader_big d).2⟩ rfl rfl (Nat.le_of_ble_eq_true rfl) d_Reader_readLevel_21 (fun H locs hw => ?_)
      refine lv_if_eq (tgt := 35) hx hb d_Reader_readLevel_24 (by decide) (fun c_14 => ?_) (fun c_14 => ?_)
      · replace hF := ifT hF c_14
        exact q_Reader_readLevel_35 hn r_Reader_readLevel hr_Reader_readLevel r_Reader_readNot hr_Reader_readNot r_Reader_readOne hr_Reader_readOne K _ _ _ _ _ _  hw (lv_sub hl [0, 1, 2] rfl) hF
      · replace hF := ifF hF c_14
        refine lv_aload_n hx hb d_Reader_readLevel_27 rfl (lv_at hl 0 rfl) ?_
        refine lv_iload_n hx hb d_Reader_readLevel_28 rfl (lv_at hl 2 rfl) ?_
        obtain ⟨s_15, h_s_15, hF⟩ := ob1E hF
        refine r_callVV (As := [.int v2]) (rest := []) K hw hl.1 (hr_Reader_readNot _ _ _  h_s_15) (sh_Reader (Nat.le_trans (Nat.le_of_ble_eq_true rfl) hn)) rfl (tb_gV w_477 w_479 w_11 w_73 w_480) a_Reader_readNot ⟨rfl, rfl, (rmReader_step d).1, (rmReader_step d).2 _ (Nat.le_of_ble_eq_true rfl)⟩ rfl rfl (Nat.le_of_ble_eq_true rfl) d_Reader_readLevel_29 (fun H locs hw => ?_)
        refine lv_goto (tgt := 122) hx hb d_Reader_readLevel_32 (by decide) ?_
        replace hF := sE1 hF
        subst hF
        exact r_vret K hw d_Reader_readLevel_122
  · replace hF := ifF hF c_1
    refine lv_aload_n hx hb d_Reader_readLevel_5 rfl (lv_at hl 0 rfl) ?_
    refine lv_iload_n hx hb d_Reader_readLevel_6 rfl (lv_at hl 2 rfl) ?_
    obtain ⟨s_16, h_s_16, hF⟩ := ob1E hF
    refine r_callVV (As := [.int v2]) (rest := []) K hw hl.1 (hr_Reader_readOne _ _ _  h_s_16) (sh_Reader (Nat.le_trans (Nat.le_of_ble_eq_true rfl) hn)) rfl (tb_gV w_461 w_463 w_9 w_73 w_464) a_Reader_readOne ⟨rfl, rfl, (rmReader_step d).1, (rmReader_step d).2 _ (Nat.le_of_ble_eq_true rfl)⟩ rfl rfl (Nat.le_of_ble_eq_true rfl) d_Reader_readLevel_7 (fun H locs hw => ?_)
    refine lv_goto (tgt := 122) hx hb d_Reader_readLevel_10 (by decide) ?_
    replace hF := sE1 hF
    subst hF
    exact r_vret K hw d_Reader_readLevel_122
end S_Reader_readLevel
theorem d_Reader_readNot_0 : decode b_Reader_readNot 0 = .ok (.aload_n 0, 1) := by decide +kernel
theorem d_Reader_readNot_1 : decode b_Reader_readNot 1 = .ok (.iload_n 1, 1) := by decide +kernel
theorem d_Reader_readNot_2 : decode b_Reader_readNot 2 = .ok (.invokevirtual 79, 3) := by decide +kernel
theorem d_Reader_readNot_5 : decode b_Reader_readNot 5 = .ok (.ifCond .ne 4, 3) := by decide +kernel
theorem d_Reader_readNot_8 : decode b_Reader_readNot 8 = .ok (.return_, 1) := by decide +kernel
theorem d_Reader_readNot_9 : decode b_Reader_readNot 9 = .ok (.aload_n 0, 1) := by decide +kernel
theorem d_Reader_readNot_10 : decode b_Reader_readNot 10 = .ok (.iconst 2, 1) := by decide +kernel
theorem d_Reader_readNot_11 : decode b_Reader_readNot 11 = .ok (.iload_n 1, 1) := by decide +kernel
theorem d_Reader_readNot_12 : decode b_Reader_readNot 12 = .ok (.iconst 1, 1) := by decide +kernel
theorem d_Reader_readNot_13 : decode b_Reader_readNot 13 = .ok (.iadd, 1) := by decide +kernel
theorem d_Reader_readNot_14 : decode b_Reader_readNot 14 = .ok (.invokevirtual 43, 3) := by decide +kernel
theorem d_Reader_readNot_17 : decode b_Reader_readNot 17 = .ok (.aload_n 0, 1) := by decide +kernel
theorem d_Reader_readNot_18 : decode b_Reader_readNot 18 = .ok (.getfield 20, 3) := by decide +kernel
theorem d_Reader_readNot_21 : decode b_Reader_readNot 21 = .ok (.bipush (-12), 2) := by decide +kernel
theorem d_Reader_readNot_23 : decode b_Reader_readNot 23 = .ok (.invokevirtual 76, 3) := by decide +kernel
theorem d_Reader_readNot_26 : decode b_Reader_readNot 26 = .ok (.return_, 1) := by decide +kernel
section S_Reader_readNot
variable {p : Program} {l : Launch} {e : Env} {s : State} {m : MethodId} {args : Array Value} {below : List Frame} {meth : Method} {c : Code} {D : va_G} {cA : Nat → ClassId} {ad : Nat → Nat} {nC : Nat} {A : Nat → Prop} {τ : St}
noncomputable def F_Reader_readNot_0 (r_Reader_readLevel : St → Int32 → Int32 → Option St) (r_Reader_readNot : St → Int32 → Option St) (r_Reader_readOne : St → Int32 → Option St) (s0 : St) (v1 : Int32) : Option St := (ob2 (F_Reader_opens s0 v1) (fun r_1 s_2 => (if ¬ r_1 = 0 then (ob1 (r_Reader_readLevel s_2 (2 : Int32) (v1 + (1 : Int32))) (fun s_4 => (if P_Text (s_4.2 2 1) then (ob1 (F_Text_add s_4 (s_4.2 2 1) (-12 : Int32)) (fun s_6 => (some s_6))) else none))) else (some s_2))))
set_option maxHeartbeats 4000000 in
set_option maxRecDepth 100000 in
theorem q_Reader_readNot_0 (hn : 20 ≤ nC) {d : Nat} (r_Reader_readLevel : St → Int32 → Int32 → Option St) (hr_Reader_readLevel : ∀ (s0 τ : St) (v1 : Int32) (v2 : Int32), r_Reader_readLevel s0 v1 v2 = some τ → MV l D cA ad (shC.take nC) y_Reader_readLevel (wT y_Reader_readLevel b_Reader_readLevel 6 none) (rmReader d) [.ref (ad 2), .int v1, .int v2] s0 τ) (r_Reader_readNot : St → Int32 → Option St) (hr_Reader_readNot : ∀ (s0 τ : St) (v1 : Int32), r_Reader_readNot s0 v1 = some τ → MV l D cA ad (shC.take nC) y_Reader_readNot (wT y_Reader_readNot b_Reader_readNot 2 none) (rmReader d) [.ref (ad 2), .int v1] s0 τ) (r_Reader_readOne : St → Int32 → Option St) (hr_Reader_readOne : ∀ (s0 τ : St) (v1 : Int32), r_Reader_readOne s0 v1 = some τ → MV l D cA ad (shC.take nC) y_Reader_readOne (wT y_Reader_readOne b_Reader_readOne 2 none) (rmReader d) [.ref (ad 2), .int v1] s0 τ) (K : Fx p s m args meth c b_Reader_readNot 2 R_Reader none)  : ∀ (H : Heap) (locs : List Loc) (ls : Array Slot) (s0 : St) (v1 : Int32), Wh D cA ad (shC.take nC) A s s0 H locs → lv_has ls 2 [(0, .ref (ad 2)), (1, .int v1)] → F_Reader_readNot_0 r_Reader_readLevel r_Reader_readNot r_Reader_readOne s0 v1 = (some τ) → W p l e (rmReader (d + 1)) s m args below meth c H locs 0 0 (MQ below (QcV D cA ad (shC.take nC) A τ) args s 0 0 A) (F0 m 0 ls []) := by
  have hx := K.1.1; have hb := K.1.2.1
  intro H locs ls s0 v1 hw hl hF
  unfold F_Reader_readNot_0 at hF
  refine lv_aload_n hx hb d_Reader_readNot_0 rfl (lv_at hl 0 rfl) ?_
  refine lv_iload_n hx hb d_Reader_readNot_1 rfl (lv_at hl 1 rfl) ?_
  obtain ⟨r_1, s_2, h_s_2, hF⟩ := ob2E hF
  refine r_callVI (As := [.int v1]) (rest := []) K hw hl.1 (c_Reader_opens (l := l) (D := D) (cA := cA) (ad := ad) (s0 := s0) (Nat.le_trans (Nat.le_of_ble_eq_true rfl) hn)  h_s_2) (sh_Reader (Nat.le_trans (Nat.le_of_ble_eq_true rfl) hn)) rfl (tb_gV w_473 w_475 w_10 w_73 w_476) a_Reader_opens ⟨rfl, rfl, Nat.le_trans (Nat.le_of_ble_eq_true rfl) (rmReader_big d).1, Nat.le_trans (Nat.le_of_ble_eq_true rfl) (rmReader_big d).2⟩ rfl rfl (Nat.le_of_ble_eq_true rfl) d_Reader_readNot_2 (fun H locs hw => ?_)
  refine lv_if_ne (tgt := 9) hx hb d_Reader_readNot_5 (by decide) (fun c_3 => ?_) (fun c_3 => ?_)
  · replace hF := ifT hF c_3
    refine lv_aload_n hx hb d_Reader_readNot_9 rfl (lv_at hl 0 rfl) ?_
    refine lv_iconst (v := 2) hx hb d_Reader_readNot_10 (by decide) ?_
    refine lv_iload_n hx hb d_Reader_readNot_11 rfl (lv_at hl 1 rfl) ?_
    refine lv_iconst (v := 1) hx hb d_Reader_readNot_12 (by decide) ?_
    refine lv_iadd hx hb d_Reader_readNot_13 ?_
    obtain ⟨s_4, h_s_4, hF⟩ := ob1E hF
    refine r_callVV (As := [.int (2 : Int32), .int (v1 + (1 : Int32))]) (rest := []) K hw hl.1 (hr_Reader_readLevel _ _ _ _  h_s_4) (sh_Reader (Nat.le_trans (Nat.le_of_ble_eq_true rfl) hn)) rfl (tb_gV w_457 w_459 w_8 w_73 w_460) a_Reader_readLevel ⟨rfl, rfl, (rmReader_step d).1, (rmReader_step d).2 _ (Nat.le_of_ble_eq_true rfl)⟩ rfl rfl (Nat.le_of_ble_eq_true rfl) d_Reader_readNot_14 (fun H locs hw => ?_)
    refine lv_aload_n hx hb d_Reader_readNot_17 rfl (lv_at hl 0 rfl) ?_
    obtain ⟨g_5, hF⟩ := ifG hF
    refine r_get (v := .ref (ad (s_4.2 2 1))) K hw i_Reader (sh_Reader (Nat.le_trans (Nat.le_of_ble_eq_true rfl) hn)) rfl 1 (by decide) w_309 rfl rfl rfl d_Reader_readNot_18 ?_
    refine lv_bipush (v := -12) hx hb d_Reader_readNot_21 (by decide) ?_
    obtain ⟨s_6, h_s_6, hF⟩ := ob1E hF
    refine r_callVV (As := [.int (-12 : Int32)]) (rest := []) K hw hl.1 (c_Text_add (l := l) (D := D) (cA := cA) (ad := ad) (s0 := s_4) (Nat.le_trans (Nat.le_of_ble_eq_true rfl) hn) g_5 h_s_6) (sh_Text g_5 (Nat.le_trans (Nat.le_of_ble_eq_true rfl) hn)) rfl (tb_gV w_469 w_470 w_471 w_68 w_472) a_Text_add ⟨rfl, rfl, Nat.le_trans (Nat.le_of_ble_eq_true rfl) (rmReader_big d).1, Nat.le_trans (Nat.le_of_ble_eq_true rfl) (rmReader_big d).2⟩ rfl rfl (Nat.le_of_ble_eq_true rfl) d_Reader_readNot_23 (fun H locs hw => ?_)
    replace hF := sE1 hF
    subst hF
    exact r_vret K hw d_Reader_readNot_26
  · replace hF := ifN hF c_3
    replace hF := sE1 hF
    subst hF
    exact r_vret K hw d_Reader_readNot_8
end S_Reader_readNot
theorem d_Reader_readOne_0 : decode b_Reader_readOne 0 = .ok (.aload_n 0, 1) := by decide +kernel
theorem d_Reader_readOne_1 : decode b_Reader_readOne 1 = .ok (.iconst 2, 1) := by decide +kernel
theorem d_Reader_readOne_2 : decode b_Reader_readOne 2 = .ok (.invokevirtual 57, 3) := by decide +kernel
theorem d_Reader_readOne_5 : decode b_Reader_readOne 5 = .ok (.ifCond .eq 34, 3) := by decide +kernel
theorem d_Reader_readOne_8 : decode b_Reader_readOne 8 = .ok (.aload_n 0, 1) := by decide +kernel
theorem d_Reader_readOne_9 : decode b_Reader_readOne 9 = .ok (.getfield 20, 3) := by decide +kernel
theorem d_Reader_readOne_12 : decode b_Reader_readOne 12 = .ok (.aload_n 0, 1) := by decide +kernel
theorem d_Reader_readOne_13 : decode b_Reader_readOne 13 = .ok (.getfield 14, 3) := by decide +kernel
theorem d_Reader_readOne_16 : decode b_Reader_readOne 16 = .ok (.aload_n 0, 1) := by decide +kernel
theorem d_Reader_readOne_17 : decode b_Reader_readOne 17 = .ok (.getfield 29, 3) := by decide +kernel
theorem d_Reader_readOne_20 : decode b_Reader_readOne 20 = .ok (.invokevirtual 82, 3) := by decide +kernel
theorem d_Reader_readOne_23 : decode b_Reader_readOne 23 = .ok (.invokevirtual 76, 3) := by decide +kernel
theorem d_Reader_readOne_26 : decode b_Reader_readOne 26 = .ok (.aload_n 0, 1) := by decide +kernel
theorem d_Reader_readOne_27 : decode b_Reader_readOne 27 = .ok (.dup, 1) := by decide +kernel
theorem d_Reader_readOne_28 : decode b_Reader_readOne 28 = .ok (.getfield 29, 3) := by decide +kernel
theorem d_Reader_readOne_31 : decode b_Reader_readOne 31 = .ok (.iconst 1, 1) := by decide +kernel
theorem d_Reader_readOne_32 : decode b_Reader_readOne 32 = .ok (.iadd, 1) := by decide +kernel
theorem d_Reader_readOne_33 : decode b_Reader_readOne 33 = .ok (.putfield 29, 3) := by decide +kernel
theorem d_Reader_readOne_36 : decode b_Reader_readOne 36 = .ok (.goto 120, 3) := by decide +kernel
theorem d_Reader_readOne_39 : decode b_Reader_readOne 39 = .ok (.aload_n 0, 1) := by decide +kernel
theorem d_Reader_readOne_40 : decode b_Reader_readOne 40 = .ok (.iconst 3, 1) := by decide +kernel
theorem d_Reader_readOne_41 : decode b_Reader_readOne 41 = .ok (.invokevirtual 57, 3) := by decide +kernel
theorem d_Reader_readOne_44 : decode b_Reader_readOne 44 = .ok (.ifCond .eq 36, 3) := by decide +kernel
theorem d_Reader_readOne_47 : decode b_Reader_readOne 47 = .ok (.aload_n 0, 1) := by decide +kernel
theorem d_Reader_readOne_48 : decode b_Reader_readOne 48 = .ok (.getfield 20, 3) := by decide +kernel
theorem d_Reader_readOne_51 : decode b_Reader_readOne 51 = .ok (.iconst (-1), 1) := by decide +kernel
theorem d_Reader_readOne_52 : decode b_Reader_readOne 52 = .ok (.aload_n 0, 1) := by decide +kernel
theorem d_Reader_readOne_53 : decode b_Reader_readOne 53 = .ok (.getfield 14, 3) := by decide +kernel
theorem d_Reader_readOne_56 : decode b_Reader_readOne 56 = .ok (.aload_n 0, 1) := by decide +kernel
theorem d_Reader_readOne_57 : decode b_Reader_readOne 57 = .ok (.getfield 29, 3) := by decide +kernel
theorem d_Reader_readOne_60 : decode b_Reader_readOne 60 = .ok (.invokevirtual 82, 3) := by decide +kernel
theorem d_Reader_readOne_63 : decode b_Reader_readOne 63 = .ok (.isub, 1) := by decide +kernel
theorem d_Reader_readOne_64 : decode b_Reader_readOne 64 = .ok (.invokevirtual 76, 3) := by decide +kernel
theorem d_Reader_readOne_67 : decode b_Reader_readOne 67 = .ok (.aload_n 0, 1) := by decide +kernel
theorem d_Reader_readOne_68 : decode b_Reader_readOne 68 = .ok (.dup, 1) := by decide +kernel
theorem d_Reader_readOne_69 : decode b_Reader_readOne 69 = .ok (.getfield 29, 3) := by decide +kernel
theorem d_Reader_readOne_72 : decode b_Reader_readOne 72 = .ok (.iconst 1, 1) := by decide +kernel
theorem d_Reader_readOne_73 : decode b_Reader_readOne 73 = .ok (.iadd, 1) := by decide +kernel
theorem d_Reader_readOne_74 : decode b_Reader_readOne 74 = .ok (.putfield 29, 3) := by decide +kernel
theorem d_Reader_readOne_77 : decode b_Reader_readOne 77 = .ok (.goto 79, 3) := by decide +kernel
theorem d_Reader_readOne_80 : decode b_Reader_readOne 80 = .ok (.aload_n 0, 1) := by decide +kernel
theorem d_Reader_readOne_81 : decode b_Reader_readOne 81 = .ok (.bipush 45, 2) := by decide +kernel
theorem d_Reader_readOne_83 : decode b_Reader_readOne 83 = .ok (.invokevirtual 57, 3) := by decide +kernel
theorem d_Reader_readOne_86 : decode b_Reader_readOne 86 = .ok (.ifCond .eq 31, 3) := by decide +kernel
theorem d_Reader_readOne_89 : decode b_Reader_readOne 89 = .ok (.aload_n 0, 1) := by decide +kernel
theorem d_Reader_readOne_90 : decode b_Reader_readOne 90 = .ok (.iload_n 1, 1) := by decide +kernel
theorem d_Reader_readOne_91 : decode b_Reader_readOne 91 = .ok (.invokevirtual 79, 3) := by decide +kernel
theorem d_Reader_readOne_94 : decode b_Reader_readOne 94 = .ok (.ifCond .ne 4, 3) := by decide +kernel
theorem d_Reader_readOne_97 : decode b_Reader_readOne 97 = .ok (.return_, 1) := by decide +kernel
theorem d_Reader_readOne_98 : decode b_Reader_readOne 98 = .ok (.aload_n 0, 1) := by decide +kernel
theorem d_Reader_readOne_99 : decode b_Reader_readOne 99 = .ok (.iload_n 1, 1) := by decide +kernel
theorem d_Reader_readOne_100 : decode b_Reader_readOne 100 = .ok (.iconst 1, 1) := by decide +kernel
theorem d_Reader_readOne_101 : decode b_Reader_readOne 101 = .ok (.iadd, 1) := by decide +kernel
theorem d_Reader_readOne_102 : decode b_Reader_readOne 102 = .ok (.invokevirtual 64, 3) := by decide +kernel
theorem d_Reader_readOne_105 : decode b_Reader_readOne 105 = .ok (.aload_n 0, 1) := by decide +kernel
theorem d_Reader_readOne_106 : decode b_Reader_readOne 106 = .ok (.getfield 20, 3) := by decide +kernel
theorem d_Reader_readOne_109 : decode b_Reader_readOne 109 = .ok (.bipush (-11), 2) := by decide +kernel
theorem d_Reader_readOne_111 : decode b_Reader_readOne 111 = .ok (.invokevirtual 76, 3) := by decide +kernel
theorem d_Reader_readOne_114 : decode b_Reader_readOne 114 = .ok (.goto 42, 3) := by decide +kernel
theorem d_Reader_readOne_117 : decode b_Reader_readOne 117 = .ok (.aload_n 0, 1) := by decide +kernel
theorem d_Reader_readOne_118 : decode b_Reader_readOne 118 = .ok (.bipush 40, 2) := by decide +kernel
theorem d_Reader_readOne_120 : decode b_Reader_readOne 120 = .ok (.invokevirtual 57, 3) := by decide +kernel
theorem d_Reader_readOne_123 : decode b_Reader_readOne 123 = .ok (.ifCond .eq 29, 3) := by decide +kernel
theorem d_Reader_readOne_126 : decode b_Reader_readOne 126 = .ok (.aload_n 0, 1) := by decide +kernel
theorem d_Reader_readOne_127 : decode b_Reader_readOne 127 = .ok (.iload_n 1, 1) := by decide +kernel
theorem d_Reader_readOne_128 : decode b_Reader_readOne 128 = .ok (.invokevirtual 79, 3) := by decide +kernel
theorem d_Reader_readOne_131 : decode b_Reader_readOne 131 = .ok (.ifCond .ne 4, 3) := by decide +kernel
theorem d_Reader_readOne_134 : decode b_Reader_readOne 134 = .ok (.return_, 1) := by decide +kernel
theorem d_Reader_readOne_135 : decode b_Reader_readOne 135 = .ok (.aload_n 0, 1) := by decide +kernel
theorem d_Reader_readOne_136 : decode b_Reader_readOne 136 = .ok (.iconst 0, 1) := by decide +kernel
theorem d_Reader_readOne_137 : decode b_Reader_readOne 137 = .ok (.iload_n 1, 1) := by decide +kernel
theorem d_Reader_readOne_138 : decode b_Reader_readOne 138 = .ok (.iconst 1, 1) := by decide +kernel
theorem d_Reader_readOne_139 : decode b_Reader_readOne 139 = .ok (.iadd, 1) := by decide +kernel
theorem d_Reader_readOne_140 : decode b_Reader_readOne 140 = .ok (.invokevirtual 43, 3) := by decide +kernel
theorem d_Reader_readOne_143 : decode b_Reader_readOne 143 = .ok (.aload_n 0, 1) := by decide +kernel
theorem d_Reader_readOne_144 : decode b_Reader_readOne 144 = .ok (.bipush 41, 2) := by decide +kernel
theorem d_Reader_readOne_146 : decode b_Reader_readOne 146 = .ok (.invokevirtual 39, 3) := by decide +kernel
theorem d_Reader_readOne_149 : decode b_Reader_readOne 149 = .ok (.goto 7, 3) := by decide +kernel
theorem d_Reader_readOne_152 : decode b_Reader_readOne 152 = .ok (.aload_n 0, 1) := by decide +kernel
theorem d_Reader_readOne_153 : decode b_Reader_readOne 153 = .ok (.invokevirtual 61, 3) := by decide +kernel
theorem d_Reader_readOne_156 : decode b_Reader_readOne 156 = .ok (.return_, 1) := by decide +kernel
section S_Reader_readOne
variable {p : Program} {l : Launch} {e : Env} {s : State} {m : MethodId} {args : Array Value} {below : List Frame} {meth : Method} {c : Code} {D : va_G} {cA : Nat → ClassId} {ad : Nat → Nat} {nC : Nat} {A : Nat → Prop} {τ : St}
noncomputable def F_Reader_readOne_0 (r_Reader_readLevel : St → Int32 → Int32 → Option St) (r_Reader_readNot : St → Int32 → Option St) (r_Reader_readOne : St → Int32 → Option St) (s0 : St) (v1 : Int32) : Option St := (ob1 (F_Reader_is s0 (2 : Int32)) (fun r_1 => (if r_1 = 0 then (ob1 (F_Reader_is s0 (3 : Int32)) (fun r_3 => (if r_3 = 0 then (ob1 (F_Reader_is s0 (45 : Int32)) (fun r_5 => (if r_5 = 0 then (ob1 (F_Reader_is s0 (40 : Int32)) (fun r_7 => (if r_7 = 0 then (ob1 (F_Reader_fail s0 ) (fun s_9 => (some s_9))) else (ob2 (F_Reader_opens s0 v1) (fun r_10 s_11 => (if ¬ r_10 = 0 then (ob1 (r_Reader_readLevel s_11 (0 : Int32) (v1 + (1 : Int32))) (fun s_13 => (ob1 (F_Reader_expect s_13 (41 : Int32)) (fun s_14 => (some s_14))))) else (some s_11))))))) else (ob2 (F_Reader_opens s0 v1) (fun r_15 s_16 => (if ¬ r_15 = 0 then (ob1 (r_Reader_readOne s_16 (v1 + (1 : Int32))) (fun s_18 => (if P_Text (s_18.2 2 1) then (ob1 (F_Text_add s_18 (s_18.2 2 1) (-11 : Int32)) (fun s_20 => (some s_20))) else none))) else (some s_16))))))) else (if P_Text (s0.2 2 1) then (ob1 (F_Tokens_value s0 (s0.1 2 2)) (fun r_22 => (ob1 (F_Text_add s0 (s0.2 2 1) ((-1 : Int32) - r_22)) (fun s_23 => (lt (up1 s_23 2 2 ((s_23.1 2 2) + (1 : Int32))) (fun s_24 => (some s_24))))))) else none)))) else (if P_Text (s0.2 2 1) then (ob1 (F_Tokens_value s0 (s0.1 2 2)) (fun r_26 => (ob1 (F_Text_add s0 (s0.2 2 1) r_26) (fun s_27 => (lt (up1 s_27 2 2 ((s_27.1 2 2) + (1 : Int32))) (fun s_28 => (some s_28))))))) else none))))
set_option maxHeartbeats 4000000 in
set_option maxRecDepth 100000 in
theorem q_Reader_readOne_0 (hn : 20 ≤ nC) {d : Nat} (r_Reader_readLevel : St → Int32 → Int32 → Option St) (hr_Reader_readLevel : ∀ (s0 τ : St) (v1 : Int32) (v2 : Int32), r_Reader_readLevel s0 v1 v2 = some τ → MV l D cA ad (shC.take nC) y_Reader_readLevel (wT y_Reader_readLevel b_Reader_readLevel 6 none) (rmReader d) [.ref (ad 2), .int v1, .int v2] s0 τ) (r_Reader_readNot : St → Int32 → Option St) (hr_Reader_readNot : ∀ (s0 τ : St) (v1 : Int32), r_Reader_readNot s0 v1 = some τ → MV l D cA ad (shC.take nC) y_Reader_readNot (wT y_Reader_readNot b_Reader_readNot 2 none) (rmReader d) [.ref (ad 2), .int v1] s0 τ) (r_Reader_readOne : St → Int32 → Option St) (hr_Reader_readOne : ∀ (s0 τ : St) (v1 : Int32), r_Reader_readOne s0 v1 = some τ → MV l D cA ad (shC.take nC) y_Reader_readOne (wT y_Reader_readOne b_Reader_readOne 2 none) (rmReader d) [.ref (ad 2), .int v1] s0 τ) (K : Fx p s m args meth c b_Reader_readOne 2 R_Reader none)  : ∀ (H : Heap) (locs : List Loc) (ls : Array Slot) (s0 : St) (v1 : Int32), Wh D cA ad (shC.take nC) A s s0 H locs → lv_has ls 2 [(0, .ref (ad 2)), (1, .int v1)] → F_Reader_readOne_0 r_Reader_readLevel r_Reader_readNot r_Reader_readOne s0 v1 = (some τ) → W p l e (rmReader (d + 1)) s m args below meth c H locs 0 0 (MQ below (QcV D cA ad (shC.take nC) A τ) args s 0 0 A) (F0 m 0 ls []) := by
  have hx := K.1.1; have hb := K.1.2.1
  intro H locs ls s0 v1 hw hl hF
  unfold F_Reader_readOne_0 at hF
  refine lv_aload_n hx hb d_Reader_readOne_0 rfl (lv_at hl 0 rfl) ?_
  refine lv_iconst (v := 2) hx hb d_Reader_readOne_1 (by decide) ?_
  obtain ⟨r_1, h_r_1, hF⟩ := ob1E hF
  refine r_callVI (As := [.int (2 : Int32)]) (rest := []) K hw hl.1 (c_Reader_is (l := l) (D := D) (cA := cA) (ad := ad) (s0 := s0) (Nat.le_trans (Nat.le_of_ble_eq_true rfl) hn)  h_r_1) (sh_Reader (Nat.le_trans (Nat.le_of_ble_eq_true rfl) hn)) rfl (tb_gV w_441 w_443 w_6 w_73 w_444) a_Reader_is ⟨rfl, rfl, Nat.le_trans (Nat.le_of_ble_eq_true rfl) (rmReader_big d).1, Nat.le_trans (Nat.le_of_ble_eq_true rfl) (rmReader_big d).2⟩ rfl rfl (Nat.le_of_ble_eq_true rfl) d_Reader_readOne_2 (fun H locs hw => ?_)
  refine lv_if_eq (tgt := 39) hx hb d_Reader_readOne_5 (by decide) (fun c_2 => ?_) (fun c_2 => ?_)
  · replace hF := ifT hF c_2
    refine lv_aload_n hx hb d_Reader_readOne_39 rfl (lv_at hl 0 rfl) ?_
    refine lv_iconst (v := 3) hx hb d_Reader_readOne_40 (by decide) ?_
    obtain ⟨r_3, h_r_3, hF⟩ := ob1E hF
    refine r_callVI (As := [.int (3 : Int32)]) (rest := []) K hw hl.1 (c_Reader_is (l := l) (D := D) (cA := cA) (ad := ad) (s0 := s0) (Nat.le_trans (Nat.le_of_ble_eq_true rfl) hn)  h_r_3) (sh_Reader (Nat.le_trans (Nat.le_of_ble_eq_true rfl) hn)) rfl (tb_gV w_441 w_443 w_6 w_73 w_444) a_Reader_is ⟨rfl, rfl, Nat.le_trans (Nat.le_of_ble_eq_true rfl) (rmReader_big d).1, Nat.le_trans (Nat.le_of_ble_eq_true rfl) (rmReader_big d).2⟩ rfl rfl (Nat.le_of_ble_eq_true rfl) d_Reader_readOne_41 (fun H locs hw => ?_)
    refine lv_if_eq (tgt := 80) hx hb d_Reader_readOne_44 (by decide) (fun c_4 => ?_) (fun c_4 => ?_)
    · replace hF := ifT hF c_4
      refine lv_aload_n hx hb d_Reader_readOne_80 rfl (lv_at hl 0 rfl) ?_
      refine lv_bipush (v := 45) hx hb d_Reader_readOne_81 (by decide) ?_
      obtain ⟨r_5, h_r_5, hF⟩ := ob1E hF
      refine r_callVI (As := [.int (45 : Int32)]) (rest := []) K hw hl.1 (c_Reader_is (l := l) (D := D) (cA := cA) (ad := ad) (s0 := s0) (Nat.le_trans (Nat.le_of_ble_eq_true rfl) hn)  h_r_5) (sh_Reader (Nat.le_trans (Nat.le_of_ble_eq_true rfl) hn)) rfl (tb_gV w_441 w_443 w_6 w_73 w_444) a_Reader_is ⟨rfl, rfl, Nat.le_trans (Nat.le_of_ble_eq_true rfl) (rmReader_big d).1, Nat.le_trans (Nat.le_of_ble_eq_true rfl) (rmReader_big d).2⟩ rfl rfl (Nat.le_of_ble_eq_true rfl) d_Reader_readOne_83 (fun H locs hw => ?_)
      refine lv_if_eq (tgt := 117) hx hb d_Reader_readOne_86 (by decide) (fun c_6 => ?_) (fun c_6 => ?_)
      · replace hF := ifT hF c_6
        refine lv_aload_n hx hb d_Reader_readOne_117 rfl (lv_at hl 0 rfl) ?_
        refine lv_bipush (v := 40) hx hb d_Reader_readOne_118 (by decide) ?_
        obtain ⟨r_7, h_r_7, hF⟩ := ob1E hF
        refine r_callVI (As := [.int (40 : Int32)]) (rest := []) K hw hl.1 (c_Reader_is (l := l) (D := D) (cA := cA) (ad := ad) (s0 := s0) (Nat.le_trans (Nat.le_of_ble_eq_true rfl) hn)  h_r_7) (sh_Reader (Nat.le_trans (Nat.le_of_ble_eq_true rfl) hn)) rfl (tb_gV w_441 w_443 w_6 w_73 w_444) a_Reader_is ⟨rfl, rfl, Nat.le_trans (Nat.le_of_ble_eq_true rfl) (rmReader_big d).1, Nat.le_trans (Nat.le_of_ble_eq_true rfl) (rmReader_big d).2⟩ rfl rfl (Nat.le_of_ble_eq_true rfl) d_Reader_readOne_120 (fun H locs hw => ?_)
        refine lv_if_eq (tgt := 152) hx hb d_Reader_readOne_123 (by decide) (fun c_8 => ?_) (fun c_8 => ?_)
        · replace hF := ifT hF c_8
          refine lv_aload_n hx hb d_Reader_readOne_152 rfl (lv_at hl 0 rfl) ?_
          obtain ⟨s_9, h_s_9, hF⟩ := ob1E hF
          refine r_callVV (As := []) (rest := []) K hw hl.1 (c_Reader_fail (l := l) (D := D) (cA := cA) (ad := ad) (s0 := s0) (Nat.le_trans (Nat.le_of_ble_eq_true rfl) hn)  h_s_9) (sh_Reader (Nat.le_trans (Nat.le_of_ble_eq_true rfl) hn)) rfl (tb_gV w_449 w_451 w_7 w_73 w_452) a_Reader_fail ⟨rfl, rfl, Nat.le_trans (Nat.le_of_ble_eq_true rfl) (rmReader_big d).1, Nat.le_trans (Nat.le_of_ble_eq_true rfl) (rmReader_big d).2⟩ rfl rfl (Nat.le_of_ble_eq_true rfl) d_Reader_readOne_153 (fun H locs hw => ?_)
          replace hF := sE1 hF
          subst hF
          exact r_vret K hw d_Reader_readOne_156
        · replace hF := ifF hF c_8
          refine lv_aload_n hx hb d_Reader_readOne_126 rfl (lv_at hl 0 rfl) ?_
          refine lv_iload_n hx hb d_Reader_readOne_127 rfl (lv_at hl 1 rfl) ?_
          obtain ⟨r_10, s_11, h_s_11, hF⟩ := ob2E hF
          refine r_callVI (As := [.int v1]) (rest := []) K hw hl.1 (c_Reader_opens (l := l) (D := D) (cA := cA) (ad := ad) (s0 := s0) (Nat.le_trans (Nat.le_of_ble_eq_true rfl) hn)  h_s_11) (sh_Reader (Nat.le_trans (Nat.le_of_ble_eq_true rfl) hn)) rfl (tb_gV w_473 w_475 w_10 w_73 w_476) a_Reader_opens ⟨rfl, rfl, Nat.le_trans (Nat.le_of_ble_eq_true rfl) (rmReader_big d).1, Nat.le_trans (Nat.le_of_ble_eq_true rfl) (rmReader_big d).2⟩ rfl rfl (Nat.le_of_ble_eq_true rfl) d_Reader_readOne_128 (fun H locs hw => ?_)
          refine lv_if_ne (tgt := 135) hx hb d_Reader_readOne_131 (by decide) (fun c_12 => ?_) (fun c_12 => ?_)
          · replace hF := ifT hF c_12
            refine lv_aload_n hx hb d_Reader_readOne_135 rfl (lv_at hl 0 rfl) ?_
            refine lv_iconst (v := 0) hx hb d_Reader_readOne_136 (by decide) ?_
            refine lv_iload_n hx hb d_Reader_readOne_137 rfl (lv_at hl 1 rfl) ?_
            refine lv_iconst (v := 1) hx hb d_Reader_readOne_138 (by decide) ?_
            refine lv_iadd hx hb d_Reader_readOne_139 ?_
            obtain ⟨s_13, h_s_13, hF⟩ := ob1E hF
            refine r_callVV (As := [.int (0 : Int32), .int (v1 + (1 : Int32))]) (rest := []) K hw hl.1 (hr_Reader_readLevel _ _ _ _  h_s_13) (sh_Reader (Nat.le_trans (Nat.le_of_ble_eq_true rfl) hn)) rfl (tb_gV w_457 w_459 w_8 w_73 w_460) a_Reader_readLevel ⟨rfl, rfl, (rmReader_step d).1, (rmReader_step d).2 _ (Nat.le_of_ble_eq_true rfl)⟩ rfl rfl (Nat.le_of_ble_eq_true rfl) d_Reader_readOne_140 (fun H locs hw => ?_)
            refine lv_aload_n hx hb d_Reader_readOne_143 rfl (lv_at hl 0 rfl) ?_
            refine lv_bipush (v := 41) hx hb d_Reader_readOne_144 (by decide) ?_
            obtain ⟨s_14, h_s_14, hF⟩ := ob1E hF
            refine r_callVV (As := [.int (41 : Int32)]) (rest := []) K hw hl.1 (c_Reader_expect (l := l) (D := D) (cA := cA) (ad := ad) (s0 := s_13) (Nat.le_trans (Nat.le_of_ble_eq_true rfl) hn)  h_s_14) (sh_Reader (Nat.le_trans (Nat.le_of_ble_eq_true rfl) hn)) rfl (tb_gV w_437 w_439 w_5 w_73 w_440) a_Reader_expect ⟨rfl, rfl, Nat.le_trans (Nat.le_of_ble_eq_true rfl) (rmReader_big d).1, Nat.le_trans (Nat.le_of_ble_eq_true rfl) (rmReader_big d).2⟩ rfl rfl (Nat.le_of_ble_eq_true rfl) d_Reader_readOne_146 (fun H locs hw => ?_)
            refine lv_goto (tgt := 156) hx hb d_Reader_readOne_149 (by decide) ?_
            replace hF := sE1 hF
            subst hF
            exact r_vret K hw d_Reader_readOne_156
          · replace hF := ifN hF c_12
            replace hF := sE1 hF
            subst hF
            exact r_vret K hw d_Reader_readOne_134
      · replace hF := ifF hF c_6
        refine lv_aload_n hx hb d_Reader_readOne_89 rfl (lv_at hl 0 rfl) ?_
        refine lv_iload_n hx hb d_Reader_readOne_90 rfl (lv_at hl 1 rfl) ?_
        obtain ⟨r_15, s_16, h_s_16, hF⟩ := ob2E hF
        refine r_callVI (As := [.int v1]) (rest := []) K hw hl.1 (c_Reader_opens (l := l) (D := D) (cA := cA) (ad := ad) (s0 := s0) (Nat.le_trans (Nat.le_of_ble_eq_true rfl) hn)  h_s_16) (sh_Reader (Nat.le_trans (Nat.le_of_ble_eq_true rfl) hn)) rfl (tb_gV w_473 w_475 w_10 w_73 w_476) a_Reader_opens ⟨rfl, rfl, Nat.le_trans (Nat.le_of_ble_eq_true rfl) (rmReader_big d).1, Nat.le_trans (Nat.le_of_ble_eq_true rfl) (rmReader_big d).2⟩ rfl rfl (Nat.le_of_ble_eq_true rfl) d_Reader_readOne_91 (fun H locs hw => ?_)
        refine lv_if_ne (tgt := 98) hx hb d_Reader_readOne_94 (by decide) (fun c_17 => ?_) (fun c_17 => ?_)
        · replace hF := ifT hF c_17
          refine lv_aload_n hx hb d_Reader_readOne_98 rfl (lv_at hl 0 rfl) ?_
          refine lv_iload_n hx hb d_Reader_readOne_99 rfl (lv_at hl 1 rfl) ?_
          refine lv_iconst (v := 1) hx hb d_Reader_readOne_100 (by decide) ?_
          refine lv_iadd hx hb d_Reader_readOne_101 ?_
          obtain ⟨s_18, h_s_18, hF⟩ := ob1E hF
          refine r_callVV (As := [.int (v1 + (1 : Int32))]) (rest := []) K hw hl.1 (hr_Reader_readOne _ _ _  h_s_18) (sh_Reader (Nat.le_trans (Nat.le_of_ble_eq_true rfl) hn)) rfl (tb_gV w_461 w_463 w_9 w_73 w_464) a_Reader_readOne ⟨rfl, rfl, (rmReader_step d).1, (rmReader_step d).2 _ (Nat.le_of_ble_eq_true rfl)⟩ rfl rfl (Nat.le_of_ble_eq_true rfl) d_Reader_readOne_102 (fun H locs hw => ?_)
          refine lv_aload_n hx hb d_Reader_readOne_105 rfl (lv_at hl 0 rfl) ?_
          obtain ⟨g_19, hF⟩ := ifG hF
          refine r_get (v := .ref (ad (s_18.2 2 1))) K hw i_Reader (sh_Reader (Nat.le_trans (Nat.le_of_ble_eq_true rfl) hn)) rfl 1 (by decide) w_309 rfl rfl rfl d_Reader_readOne_106 ?_
          refine lv_bipush (v := -11) hx hb d_Reader_readOne_109 (by decide) ?_
          obtain ⟨s_20, h_s_20, hF⟩ := ob1E hF
          refine r_callVV (As := [.int (-11 : Int32)]) (rest := []) K hw hl.1 (c_Text_add (l := l) (D := D) (cA := cA) (ad := ad) (s0 := s_18) (Nat.le_trans (Nat.le_of_ble_eq_true rfl) hn) g_19 h_s_20) (sh_Text g_19 (Nat.le_trans (Nat.le_of_ble_eq_true rfl) hn)) rfl (tb_gV w_469 w_470 w_471 w_68 w_472) a_Text_add ⟨rfl, rfl, Nat.le_trans (Nat.le_of_ble_eq_true rfl) (rmReader_big d).1, Nat.le_trans (Nat.le_of_ble_eq_true rfl) (rmReader_big d).2⟩ rfl rfl (Nat.le_of_ble_eq_true rfl) d_Reader_readOne_111 (fun H locs hw => ?_)
          refine lv_goto (tgt := 156) hx hb d_Reader_readOne_114 (by decide) ?_
          replace hF := sE1 hF
          subst hF
          exact r_vret K hw d_Reader_readOne_156
        · replace hF := ifN hF c_17
          replace hF := sE1 hF
          subst hF
          exact r_vret K hw d_Reader_readOne_97
    · replace hF := ifF hF c_4
      refine lv_aload_n hx hb d_Reader_readOne_47 rfl (lv_at hl 0 rfl) ?_
      obtain ⟨g_21, hF⟩ := ifG hF
      refine r_get (v := .ref (ad (s0.2 2 1))) K hw i_Reader (sh_Reader (Nat.le_trans (Nat.le_of_ble_eq_true rfl) hn)) rfl 1 (by decide) w_309 rfl rfl rfl d_Reader_readOne_48 ?_
      refine lv_iconst (v := -1) hx hb d_Reader_readOne_51 (by decide) ?_
      refine lv_aload_n hx hb d_Reader_readOne_52 rfl (lv_at hl 0 rfl) ?_
      refine r_get (v := .ref (ad 3)) K hw i_Reader (sh_Reader (Nat.le_trans (Nat.le_of_ble_eq_true rfl) hn)) rfl 0 (by decide) w_308 rfl rfl rfl d_Reader_readOne_53 ?_
      refine lv_aload_n hx hb d_Reader_readOne_56 rfl (lv_at hl 0 rfl) ?_
      refine r_get (v := .int (s0.1 2 2)) K hw i_Reader (sh_Reader (Nat.le_trans (Nat.le_of_ble_eq_true rfl) hn)) rfl 2 (by decide) w_311 rfl rfl rfl d_Reader_readOne_57 ?_
      obtain ⟨r_22, h_r_22, hF⟩ := ob1E hF
      refine r_callVI (As := [.int (s0.1 2 2)]) (rest := [.int (-1 : Int32), .ref (ad (s0.2 2 1))]) K hw hl.1 (c_Tokens_value (l := l) (D := D) (cA := cA) (ad := ad) (s0 := s0) (Nat.le_trans (Nat.le_of_ble_eq_true rfl) hn)  h_r_22) (sh_Tokens (Nat.le_trans (Nat.le_of_ble_eq_true rfl) hn)) rfl (tb_gV w_465 w_466 w_467 w_74 w_468) a_Tokens_value ⟨rfl, rfl, Nat.le_trans (Nat.le_of_ble_eq_true rfl) (rmReader_big d).1, Nat.le_trans (Nat.le_of_ble_eq_true rfl) (rmReader_big d).2⟩ rfl rfl (Nat.le_of_ble_eq_true rfl) d_Reader_readOne_60 (fun H locs hw => ?_)
      refine lv_isub hx hb d_Reader_readOne_63 ?_
      obtain ⟨s_23, h_s_23, hF⟩ := ob1E hF
      refine r_callVV (As := [.int ((-1 : Int32) - r_22)]) (rest := []) K hw hl.1 (c_Text_add (l := l) (D := D) (cA := cA) (ad := ad) (s0 := s0) (Nat.le_trans (Nat.le_of_ble_eq_true rfl) hn) g_21 h_s_23) (sh_Text g_21 (Nat.le_trans (Nat.le_of_ble_eq_true rfl) hn)) rfl (tb_gV w_469 w_470 w_471 w_68 w_472) a_Text_add ⟨rfl, rfl, Nat.le_trans (Nat.le_of_ble_eq_true rfl) (rmReader_big d).1, Nat.le_trans (Nat.le_of_ble_eq_true rfl) (rmReader_big d).2⟩ rfl rfl (Nat.le_of_ble_eq_true rfl) d_Reader_readOne_64 (fun H locs hw => ?_)
      refine lv_aload_n hx hb d_Reader_readOne_67 rfl (lv_at hl 0 rfl) ?_
      refine lv_dup hx hb d_Reader_readOne_68 rfl ?_
      refine r_get (v := .int (s_23.1 2 2)) K hw i_Reader (sh_Reader (Nat.le_trans (Nat.le_of_ble_eq_true rfl) hn)) rfl 2 (by decide) w_311 rfl rfl rfl d_Reader_readOne_69 ?_
      refine lv_iconst (v := 1) hx hb d_Reader_readOne_72 (by decide) ?_
      refine lv_iadd hx hb d_Reader_readOne_73 ?_
      refine r_putI K hw i_Reader t_Reader t_Reader_ok n_Reader (sh_Reader (Nat.le_trans (Nat.le_of_ble_eq_true rfl) hn)) rfl 2 (by decide) w_311 rfl rfl rfl rfl rfl d_Reader_readOne_74 (fun s_24 f_s_24 H locs hw => ?_)
      replace hF := ltN hF f_s_24
      refine lv_goto (tgt := 156) hx hb d_Reader_readOne_77 (by decide) ?_
      replace hF := sE1 hF
      subst hF
      exact r_vret K hw d_Reader_readOne_156
  · replace hF := ifF hF c_2
    refine lv_aload_n hx hb d_Reader_readOne_8 rfl (lv_at hl 0 rfl) ?_
    obtain ⟨g_25, hF⟩ := ifG hF
    refine r_get (v := .ref (ad (s0.2 2 1))) K hw i_Reader (sh_Reader (Nat.le_trans (Nat.le_of_ble_eq_true rfl) hn)) rfl 1 (by decide) w_309 rfl rfl rfl d_Reader_readOne_9 ?_
    refine lv_aload_n hx hb d_Reader_readOne_12 rfl (lv_at hl 0 rfl) ?_
    refine r_get (v := .ref (ad 3)) K hw i_Reader (sh_Reader (Nat.le_trans (Nat.le_of_ble_eq_true rfl) hn)) rfl 0 (by decide) w_308 rfl rfl rfl d_Reader_readOne_13 ?_
    refine lv_aload_n hx hb d_Reader_readOne_16 rfl (lv_at hl 0 rfl) ?_
    refine r_get (v := .int (s0.1 2 2)) K hw i_Reader (sh_Reader (Nat.le_trans (Nat.le_of_ble_eq_true rfl) hn)) rfl 2 (by decide) w_311 rfl rfl rfl d_Reader_readOne_17 ?_
    obtain ⟨r_26, h_r_26, hF⟩ := ob1E hF
    refine r_callVI (As := [.int (s0.1 2 2)]) (rest := [.ref (ad (s0.2 2 1))]) K hw hl.1 (c_Tokens_value (l := l) (D := D) (cA := cA) (ad := ad) (s0 := s0) (Nat.le_trans (Nat.le_of_ble_eq_true rfl) hn)  h_r_26) (sh_Tokens (Nat.le_trans (Nat.le_of_ble_eq_true rfl) hn)) rfl (tb_gV w_465 w_466 w_467 w_74 w_468) a_Tokens_value ⟨rfl, rfl, Nat.le_trans (Nat.le_of_ble_eq_true rfl) (rmReader_big d).1, Nat.le_trans (Nat.le_of_ble_eq_true rfl) (rmReader_big d).2⟩ rfl rfl (Nat.le_of_ble_eq_true rfl) d_Reader_readOne_20 (fun H locs hw => ?_)
    obtain ⟨s_27, h_s_27, hF⟩ := ob1E hF
    refine r_callVV (As := [.int r_26]) (rest := []) K hw hl.1 (c_Text_add (l := l) (D := D) (cA := cA) (ad := ad) (s0 := s0) (Nat.le_trans (Nat.le_of_ble_eq_true rfl) hn) g_25 h_s_27) (sh_Text g_25 (Nat.le_trans (Nat.le_of_ble_eq_true rfl) hn)) rfl (tb_gV w_469 w_470 w_471 w_68 w_472) a_Text_add ⟨rfl, rfl, Nat.le_trans (Nat.le_of_ble_eq_true rfl) (rmReader_big d).1, Nat.le_trans (Nat.le_of_ble_eq_true rfl) (rmReader_big d).2⟩ rfl rfl (Nat.le_of_ble_eq_true rfl) d_Reader_readOne_23 (fun H locs hw => ?_)
    refine lv_aload_n hx hb d_Reader_readOne_26 rfl (lv_at hl 0 rfl) ?_
    refine lv_dup hx hb d_Reader_readOne_27 rfl ?_
    refine r_get (v := .int (s_27.1 2 2)) K hw i_Reader (sh_Reader (Nat.le_trans (Nat.le_of_ble_eq_true rfl) hn)) rfl 2 (by decide) w_311 rfl rfl rfl d_Reader_readOne_28 ?_
    refine lv_iconst (v := 1) hx hb d_Reader_readOne_31 (by decide) ?_
    refine lv_iadd hx hb d_Reader_readOne_32 ?_
    refine r_putI K hw i_Reader t_Reader t_Reader_ok n_Reader (sh_Reader (Nat.le_trans (Nat.le_of_ble_eq_true rfl) hn)) rfl 2 (by decide) w_311 rfl rfl rfl rfl rfl d_Reader_readOne_33 (fun s_28 f_s_28 H locs hw => ?_)
    replace hF := ltN hF f_s_28
    refine lv_goto (tgt := 156) hx hb d_Reader_readOne_36 (by decide) ?_
    replace hF := sE1 hF
    subst hF
    exact r_vret K hw d_Reader_readOne_156
end S_Reader_readOne
noncomputable def GReader : Nat → (St → Int32 → Int32 → Option St) × (St → Int32 → Option St) × (St → Int32 → Option St)
  | 0 => (fun _ _ _ => none, fun _ _ => none, fun _ _ => none)
  | d + 1 => (F_Reader_readLevel_0 (GReader d).1 (GReader d).2.1 (GReader d).2.2, F_Reader_readNot_0 (GReader d).1 (GReader d).2.1 (GReader d).2.2, F_Reader_readOne_0 (GReader d).1 (GReader d).2.1 (GReader d).2.2)
theorem cgReader {l : Launch} {D : va_G} {cA : Nat → ClassId} {ad : Nat → Nat} {nC : Nat} (hn : 20 ≤ nC) : ∀ d : Nat, (∀ (s0 τ : St) (v1 : Int32) (v2 : Int32), (GReader d).1 s0 v1 v2 = some τ → MV l D cA ad (shC.take nC) y_Reader_readLevel (wT y_Reader_readLevel b_Reader_readLevel 6 none) (rmReader d) [.ref (ad 2), .int v1, .int v2] s0 τ) ∧ (∀ (s0 τ : St) (v1 : Int32), (GReader d).2.1 s0 v1 = some τ → MV l D cA ad (shC.take nC) y_Reader_readNot (wT y_Reader_readNot b_Reader_readNot 2 none) (rmReader d) [.ref (ad 2), .int v1] s0 τ) ∧ (∀ (s0 τ : St) (v1 : Int32), (GReader d).2.2 s0 v1 = some τ → MV l D cA ad (shC.take nC) y_Reader_readOne (wT y_Reader_readOne b_Reader_readOne 2 none) (rmReader d) [.ref (ad 2), .int v1] s0 τ) := by
  intro d
  induction d with
  | zero => exact ⟨fun s0 τ v1 v2 h => absurd (show (none : Option St) = some τ from h) nofun, fun s0 τ v1 h => absurd (show (none : Option St) = some τ from h) nofun, fun s0 τ v1 h => absurd (show (none : Option St) = some τ from h) nofun⟩
  | succ d ih =>
    obtain ⟨i0, i1, i2⟩ := ih
    refine ⟨?_, ?_, ?_⟩
    · intro s0 τ v1 v2 hF sz
      exact m_start (Qc := fun A => QcV D cA ad (shC.take nC) A τ) (by decide +kernel) w_460 (Nat.le_of_ble_eq_true rfl) (fun p e s m below meth c ls K hl hw => q_Reader_readLevel_0 hn (GReader d).1 i0 (GReader d).2.1 i1 (GReader d).2.2 i2 K _ _ _ _ _ _ hw hl hF)
    · intro s0 τ v1 hF sz
      exact m_start (Qc := fun A => QcV D cA ad (shC.take nC) A τ) (by decide +kernel) w_480 (Nat.le_of_ble_eq_true rfl) (fun p e s m below meth c ls K hl hw => q_Reader_readNot_0 hn (GReader d).1 i0 (GReader d).2.1 i1 (GReader d).2.2 i2 K _ _ _ _ _ hw hl hF)
    · intro s0 τ v1 hF sz
      exact m_start (Qc := fun A => QcV D cA ad (shC.take nC) A τ) (by decide +kernel) w_464 (Nat.le_of_ble_eq_true rfl) (fun p e s m below meth c ls K hl hw => q_Reader_readOne_0 hn (GReader d).1 i0 (GReader d).2.1 i1 (GReader d).2.2 i2 K _ _ _ _ _ hw hl hF)
noncomputable abbrev F_Reader_readLevel := (GReader 64).1
abbrev rm_Reader_readLevel : Room := rmReader 64
theorem c_Reader_readLevel {l : Launch} {D : va_G} {cA : Nat → ClassId} {ad : Nat → Nat} {s0 τ : St} {nC : Nat} (hn : 20 ≤ nC) {v1 : Int32} {v2 : Int32} (hF : F_Reader_readLevel s0 v1 v2 = some τ) : MV l D cA ad (shC.take nC) y_Reader_readLevel (wT y_Reader_readLevel b_Reader_readLevel 6 none) rm_Reader_readLevel [.ref (ad 2), .int v1, .int v2] s0 τ := (cgReader hn 64).1 _ _ _ _ hF
noncomputable abbrev F_Reader_readNot := (GReader 64).2.1
abbrev rm_Reader_readNot : Room := rmReader 64
theorem c_Reader_readNot {l : Launch} {D : va_G} {cA : Nat → ClassId} {ad : Nat → Nat} {s0 τ : St} {nC : Nat} (hn : 20 ≤ nC) {v1 : Int32} (hF : F_Reader_readNot s0 v1 = some τ) : MV l D cA ad (shC.take nC) y_Reader_readNot (wT y_Reader_readNot b_Reader_readNot 2 none) rm_Reader_readNot [.ref (ad 2), .int v1] s0 τ := (cgReader hn 64).2.1 _ _ _ hF
noncomputable abbrev F_Reader_readOne := (GReader 64).2.2
abbrev rm_Reader_readOne : Room := rmReader 64
theorem c_Reader_readOne {l : Launch} {D : va_G} {cA : Nat → ClassId} {ad : Nat → Nat} {s0 τ : St} {nC : Nat} (hn : 20 ≤ nC) {v1 : Int32} (hF : F_Reader_readOne s0 v1 = some τ) : MV l D cA ad (shC.take nC) y_Reader_readOne (wT y_Reader_readOne b_Reader_readOne 2 none) rm_Reader_readOne [.ref (ad 2), .int v1] s0 τ := (cgReader hn 64).2.2 _ _ _ hF

/-! Text.empty()V -/
abbrev b_Text_empty : ByteArray := prog_10_method_2_code
def y_Text_empty : MethodName := ⟨R_Text, "empty", "()V"⟩
theorem a_Text_empty : y_Text_empty.cls = R_Text ∧ y_Text_empty.cls ≠ "java/lang/invoke/MethodHandle" ∧ y_Text_empty.cls ≠ "java/lang/invoke/VarHandle" ∧ (parseMethodDescriptor y_Text_empty.desc).map (fun d => d.parameters.length) = some 0 := by decide +kernel
abbrev rm_Text_empty : Room := { frames := 0, cells := 0, slots := 0, locals := 0 }
theorem w_329 : Cond.code y_Text_empty b_Text_empty 1 none ∈ TB := tb_in 329 (by decide +kernel) (by decide +kernel)
theorem d_Text_empty_0 : decode b_Text_empty 0 = .ok (.aload_n 0, 1) := by decide +kernel
theorem d_Text_empty_1 : decode b_Text_empty 1 = .ok (.iconst 0, 1) := by decide +kernel
theorem d_Text_empty_2 : decode b_Text_empty 2 = .ok (.putfield 18, 3) := by decide +kernel
theorem d_Text_empty_5 : decode b_Text_empty 5 = .ok (.return_, 1) := by decide +kernel
section S_Text_empty
variable {p : Program} {l : Launch} {e : Env} {s : State} {m : MethodId} {args : Array Value} {below : List Frame} {meth : Method} {c : Code} {D : va_G} {cA : Nat → ClassId} {ad : Nat → Nat} {nC : Nat} {A : Nat → Prop} {τ : St}
noncomputable def F_Text_empty_0 (s0 : St) (v0 : Nat) : St := (lt (up1 s0 v0 2 (0 : Int32)) (fun s_1 => s_1))
set_option maxHeartbeats 4000000 in
set_option maxRecDepth 100000 in
theorem q_Text_empty_0 (hn : 14 ≤ nC) (K : Fx p s m args meth c b_Text_empty 1 R_Text none)  : ∀ (H : Heap) (locs : List Loc) (ls : Array Slot) (s0 : St) (v0 : Nat) (g_v0 : P_Text v0), Wh D cA ad (shC.take nC) A s s0 H locs → lv_has ls 1 [(0, .ref (ad v0))] → F_Text_empty_0 s0 v0 = τ → W p l e rm_Text_empty s m args below meth c H locs 0 0 (MQ below (QcV D cA ad (shC.take nC) A τ) args s 0 0 A) (F0 m 0 ls []) := by
  have hx := K.1.1; have hb := K.1.2.1
  intro H locs ls s0 v0 g_v0 hw hl hF
  unfold F_Text_empty_0 at hF
  refine lv_aload_n hx hb d_Text_empty_0 rfl (lv_at hl 0 rfl) ?_
  refine lv_iconst (v := 0) hx hb d_Text_empty_1 (by decide) ?_
  refine r_putI K hw i_Text t_Text t_Text_ok n_Text (sh_Text g_v0 (Nat.le_trans (Nat.le_of_ble_eq_true rfl) hn)) rfl 2 (by decide) w_209 rfl rfl rfl rfl rfl d_Text_empty_2 (fun s_1 f_s_1 H locs hw => ?_)
  replace hF := ltN hF f_s_1
  subst hF
  exact r_vret K hw d_Text_empty_5
end S_Text_empty
noncomputable abbrev F_Text_empty := F_Text_empty_0
theorem c_Text_empty {l : Launch} {D : va_G} {cA : Nat → ClassId} {ad : Nat → Nat} {s0 τ : St} {nC : Nat} (hn : 14 ≤ nC) {v0 : Nat} (g_v0 : P_Text v0) (hF : F_Text_empty s0 v0 = τ) : MV l D cA ad (shC.take nC) y_Text_empty (wT y_Text_empty b_Text_empty 1 none) rm_Text_empty [.ref (ad v0)] s0 τ := fun sz => m_start (Qc := fun A => QcV D cA ad (shC.take nC) A τ) (by decide +kernel) w_329 (Nat.le_of_ble_eq_true rfl) (fun p e s m below meth c ls K hl hw => q_Text_empty_0 hn K _ _ _ _ _ g_v0 hw hl hF)

/-! Text.endPart(I)V -/
abbrev b_Text_endPart : ByteArray := prog_10_method_4_code
def y_Text_endPart : MethodName := ⟨R_Text, "endPart", "(I)V"⟩
theorem a_Text_endPart : y_Text_endPart.cls = R_Text ∧ y_Text_endPart.cls ≠ "java/lang/invoke/MethodHandle" ∧ y_Text_endPart.cls ≠ "java/lang/invoke/VarHandle" ∧ (parseMethodDescriptor y_Text_endPart.desc).map (fun d => d.parameters.length) = some 1 := by decide +kernel
abbrev rm_Text_endPart : Room := { frames := 0, cells := 0, slots := 0, locals := 0 }
theorem w_211 : Cond.fieldLink R_Text 25 R_Text "spendsEnd" "I" ∈ TB := tb_in 211 (by decide +kernel) (by decide +kernel)
theorem w_210 : Cond.fieldLink R_Text 22 R_Text "forceEnd" "I" ∈ TB := tb_in 210 (by decide +kernel) (by decide +kernel)
theorem w_491 : Cond.code y_Text_endPart b_Text_endPart 2 none ∈ TB := tb_in 491 (by decide +kernel) (by decide +kernel)
theorem d_Text_endPart_0 : decode b_Text_endPart 0 = .ok (.iload_n 1, 1) := by decide +kernel
theorem d_Text_endPart_1 : decode b_Text_endPart 1 = .ok (.ifCond .ne 11, 3) := by decide +kernel
theorem d_Text_endPart_4 : decode b_Text_endPart 4 = .ok (.aload_n 0, 1) := by decide +kernel
theorem d_Text_endPart_5 : decode b_Text_endPart 5 = .ok (.aload_n 0, 1) := by decide +kernel
theorem d_Text_endPart_6 : decode b_Text_endPart 6 = .ok (.getfield 18, 3) := by decide +kernel
theorem d_Text_endPart_9 : decode b_Text_endPart 9 = .ok (.putfield 22, 3) := by decide +kernel
theorem d_Text_endPart_12 : decode b_Text_endPart 12 = .ok (.iload_n 1, 1) := by decide +kernel
theorem d_Text_endPart_13 : decode b_Text_endPart 13 = .ok (.iconst 1, 1) := by decide +kernel
theorem d_Text_endPart_14 : decode b_Text_endPart 14 = .ok (.if_icmp .ne 11, 3) := by decide +kernel
theorem d_Text_endPart_17 : decode b_Text_endPart 17 = .ok (.aload_n 0, 1) := by decide +kernel
theorem d_Text_endPart_18 : decode b_Text_endPart 18 = .ok (.aload_n 0, 1) := by decide +kernel
theorem d_Text_endPart_19 : decode b_Text_endPart 19 = .ok (.getfield 18, 3) := by decide +kernel
theorem d_Text_endPart_22 : decode b_Text_endPart 22 = .ok (.putfield 25, 3) := by decide +kernel
theorem d_Text_endPart_25 : decode b_Text_endPart 25 = .ok (.return_, 1) := by decide +kernel
section S_Text_endPart
variable {p : Program} {l : Launch} {e : Env} {s : State} {m : MethodId} {args : Array Value} {below : List Frame} {meth : Method} {c : Code} {D : va_G} {cA : Nat → ClassId} {ad : Nat → Nat} {nC : Nat} {A : Nat → Prop} {τ : St}
noncomputable def F_Text_endPart_12 (s0 : St) (v0 : Nat) (v1 : Int32) : St := (if ¬ v1 = (1 : Int32) then s0 else (lt (up1 s0 v0 4 (s0.1 v0 2)) (fun s_3 => s_3)))
set_option maxHeartbeats 4000000 in
set_option maxRecDepth 100000 in
theorem q_Text_endPart_12 (hn : 14 ≤ nC) (K : Fx p s m args meth c b_Text_endPart 2 R_Text none)  : ∀ (H : Heap) (locs : List Loc) (ls : Array Slot) (s0 : St) (v0 : Nat) (v1 : Int32) (g_v0 : P_Text v0), Wh D cA ad (shC.take nC) A s s0 H locs → lv_has ls 2 [(0, .ref (ad v0)), (1, .int v1)] → F_Text_endPart_12 s0 v0 v1 = τ → W p l e rm_Text_endPart s m args below meth c H locs 0 0 (MQ below (QcV D cA ad (shC.take nC) A τ) args s 0 0 A) (F0 m 12 ls []) := by
  have hx := K.1.1; have hb := K.1.2.1
  intro H locs ls s0 v0 v1 g_v0 hw hl hF
  unfold F_Text_endPart_12 at hF
  refine lv_iload_n hx hb d_Text_endPart_12 rfl (lv_at hl 1 rfl) ?_
  refine lv_iconst (v := 1) hx hb d_Text_endPart_13 (by decide) ?_
  refine lv_icmp_ne (tgt := 25) hx hb d_Text_endPart_14 (by decide) (fun c_2 => ?_) (fun c_2 => ?_)
  · replace hF := ifT hF c_2
    subst hF
    exact r_vret K hw d_Text_endPart_25
  · replace hF := ifN hF c_2
    refine lv_aload_n hx hb d_Text_endPart_17 rfl (lv_at hl 0 rfl) ?_
    refine lv_aload_n hx hb d_Text_endPart_18 rfl (lv_at hl 0 rfl) ?_
    refine r_get (v := .int (s0.1 v0 2)) K hw i_Text (sh_Text g_v0 (Nat.le_trans (Nat.le_of_ble_eq_true rfl) hn)) rfl 2 (by decide) w_209 rfl rfl rfl d_Text_endPart_19 ?_
    refine r_putI K hw i_Text t_Text t_Text_ok n_Text (sh_Text g_v0 (Nat.le_trans (Nat.le_of_ble_eq_true rfl) hn)) rfl 4 (by decide) w_211 rfl rfl rfl rfl rfl d_Text_endPart_22 (fun s_3 f_s_3 H locs hw => ?_)
    replace hF := ltN hF f_s_3
    subst hF
    exact r_vret K hw d_Text_endPart_25
noncomputable def F_Text_endPart_0 (s0 : St) (v0 : Nat) (v1 : Int32) : St := (if ¬ v1 = 0 then (F_Text_endPart_12 s0 v0 v1) else (lt (up1 s0 v0 3 (s0.1 v0 2)) (fun s_4 => (F_Text_endPart_12 s_4 v0 v1))))
set_option maxHeartbeats 4000000 in
set_option maxRecDepth 100000 in
theorem q_Text_endPart_0 (hn : 14 ≤ nC) (K : Fx p s m args meth c b_Text_endPart 2 R_Text none)  : ∀ (H : Heap) (locs : List Loc) (ls : Array Slot) (s0 : St) (v0 : Nat) (v1 : Int32) (g_v0 : P_Text v0), Wh D cA ad (shC.take nC) A s s0 H locs → lv_has ls 2 [(0, .ref (ad v0)), (1, .int v1)] → F_Text_endPart_0 s0 v0 v1 = τ → W p l e rm_Text_endPart s m args below meth c H locs 0 0 (MQ below (QcV D cA ad (shC.take nC) A τ) args s 0 0 A) (F0 m 0 ls []) := by
  have hx := K.1.1; have hb := K.1.2.1
  intro H locs ls s0 v0 v1 g_v0 hw hl hF
  unfold F_Text_endPart_0 at hF
  refine lv_iload_n hx hb d_Text_endPart_0 rfl (lv_at hl 1 rfl) ?_
  refine lv_if_ne (tgt := 12) hx hb d_Text_endPart_1 (by decide) (fun c_1 => ?_) (fun c_1 => ?_)
  · replace hF := ifT hF c_1
    exact q_Text_endPart_12 hn K _ _ _ _ _ _ g_v0 hw (lv_sub hl [0, 1] rfl) hF
  · replace hF := ifN hF c_1
    refine lv_aload_n hx hb d_Text_endPart_4 rfl (lv_at hl 0 rfl) ?_
    refine lv_aload_n hx hb d_Text_endPart_5 rfl (lv_at hl 0 rfl) ?_
    refine r_get (v := .int (s0.1 v0 2)) K hw i_Text (sh_Text g_v0 (Nat.le_trans (Nat.le_of_ble_eq_true rfl) hn)) rfl 2 (by decide) w_209 rfl rfl rfl d_Text_endPart_6 ?_
    refine r_putI K hw i_Text t_Text t_Text_ok n_Text (sh_Text g_v0 (Nat.le_trans (Nat.le_of_ble_eq_true rfl) hn)) rfl 3 (by decide) w_210 rfl rfl rfl rfl rfl d_Text_endPart_9 (fun s_4 f_s_4 H locs hw => ?_)
    replace hF := ltN hF f_s_4
    exact q_Text_endPart_12 hn K _ _ _ _ _ _ g_v0 hw (lv_sub hl [0, 1] rfl) hF
end S_Text_endPart
noncomputable abbrev F_Text_endPart := F_Text_endPart_0
theorem c_Text_endPart {l : Launch} {D : va_G} {cA : Nat → ClassId} {ad : Nat → Nat} {s0 τ : St} {nC : Nat} (hn : 14 ≤ nC) {v0 : Nat} {v1 : Int32} (g_v0 : P_Text v0) (hF : F_Text_endPart s0 v0 v1 = τ) : MV l D cA ad (shC.take nC) y_Text_endPart (wT y_Text_endPart b_Text_endPart 2 none) rm_Text_endPart [.ref (ad v0), .int v1] s0 τ := fun sz => m_start (Qc := fun A => QcV D cA ad (shC.take nC) A τ) (by decide +kernel) w_491 (Nat.le_of_ble_eq_true rfl) (fun p e s m below meth c ls K hl hw => q_Text_endPart_0 hn K _ _ _ _ _ _ g_v0 hw hl hF)

/-! Tape.at(I)I -/
abbrev b_Tape_at : ByteArray := prog_9_method_4_code
def y_Tape_at : MethodName := ⟨R_Tape, "at", "(I)I"⟩
theorem a_Tape_at : y_Tape_at.cls = R_Tape ∧ y_Tape_at.cls ≠ "java/lang/invoke/MethodHandle" ∧ y_Tape_at.cls ≠ "java/lang/invoke/VarHandle" ∧ (parseMethodDescriptor y_Tape_at.desc).map (fun d => d.parameters.length) = some 1 := by decide +kernel
abbrev rm_Tape_at : Room := { frames := 0, cells := 0, slots := 0, locals := 0 }
theorem w_341 : Cond.code y_Tape_at b_Tape_at 2 (some .int) ∈ TB := tb_in 341 (by decide +kernel) (by decide +kernel)
theorem d_Tape_at_0 : decode b_Tape_at 0 = .ok (.iload_n 1, 1) := by decide +kernel
theorem d_Tape_at_1 : decode b_Tape_at 1 = .ok (.ifCond .lt 29, 3) := by decide +kernel
theorem d_Tape_at_4 : decode b_Tape_at 4 = .ok (.iload_n 1, 1) := by decide +kernel
theorem d_Tape_at_5 : decode b_Tape_at 5 = .ok (.aload_n 0, 1) := by decide +kernel
theorem d_Tape_at_6 : decode b_Tape_at 6 = .ok (.getfield 15, 3) := by decide +kernel
theorem d_Tape_at_9 : decode b_Tape_at 9 = .ok (.if_icmp .ge 21, 3) := by decide +kernel
theorem d_Tape_at_12 : decode b_Tape_at 12 = .ok (.iload_n 1, 1) := by decide +kernel
theorem d_Tape_at_13 : decode b_Tape_at 13 = .ok (.aload_n 0, 1) := by decide +kernel
theorem d_Tape_at_14 : decode b_Tape_at 14 = .ok (.getfield 9, 3) := by decide +kernel
theorem d_Tape_at_17 : decode b_Tape_at 17 = .ok (.arraylength, 1) := by decide +kernel
theorem d_Tape_at_18 : decode b_Tape_at 18 = .ok (.if_icmp .ge 12, 3) := by decide +kernel
theorem d_Tape_at_21 : decode b_Tape_at 21 = .ok (.aload_n 0, 1) := by decide +kernel
theorem d_Tape_at_22 : decode b_Tape_at 22 = .ok (.getfield 9, 3) := by decide +kernel
theorem d_Tape_at_25 : decode b_Tape_at 25 = .ok (.iload_n 1, 1) := by decide +kernel
theorem d_Tape_at_26 : decode b_Tape_at 26 = .ok (.iaload, 1) := by decide +kernel
theorem d_Tape_at_27 : decode b_Tape_at 27 = .ok (.goto 4, 3) := by decide +kernel
theorem d_Tape_at_30 : decode b_Tape_at 30 = .ok (.iconst (-1), 1) := by decide +kernel
theorem d_Tape_at_31 : decode b_Tape_at 31 = .ok (.ireturn, 1) := by decide +kernel
section S_Tape_at
variable {p : Program} {l : Launch} {e : Env} {s : State} {m : MethodId} {args : Array Value} {below : List Frame} {meth : Method} {c : Code} {D : va_G} {cA : Nat → ClassId} {ad : Nat → Nat} {nC : Nat} {A : Nat → Prop} {r : Int32} {τ : St}
noncomputable def F_Tape_at_0 (s0 : St) (v1 : Int32) : Option Int32 := (if v1 < 0 then (some (-1 : Int32)) else (if (s0.1 0 1) ≤ v1 then (some (-1 : Int32)) else (if (160 : Int32) ≤ v1 then (some (-1 : Int32)) else (if inB v1 160 = true then (some (s0.1 1 v1.toNatClampNeg)) else none))))
set_option maxHeartbeats 4000000 in
set_option maxRecDepth 100000 in
theorem q_Tape_at_0 (hn : 2 ≤ nC) (s0 : St) (K : Fx p s m args meth c b_Tape_at 2 R_Tape (some .int))  : ∀ (H : Heap) (locs : List Loc) (ls : Array Slot) (v1 : Int32), Wh D cA ad (shC.take nC) A s s0 H locs → lv_has ls 2 [(0, .ref (ad 0)), (1, .int v1)] → F_Tape_at_0 s0 v1 = (some r) → W p l e rm_Tape_at s m args below meth c H locs 0 0 (MQ below (QcI D cA ad (shC.take nC) A r s0) args s 0 0 A) (F0 m 0 ls []) := by
  have hx := K.1.1; have hb := K.1.2.1
  intro H locs ls v1 hw hl hF
  unfold F_Tape_at_0 at hF
  refine lv_iload_n hx hb d_Tape_at_0 rfl (lv_at hl 1 rfl) ?_
  refine lv_if_lt (tgt := 30) hx hb d_Tape_at_1 (by decide) (fun c_1 => ?_) (fun c_1 => ?_)
  · replace hF := ifT hF c_1
    refine lv_iconst (v := -1) hx hb d_Tape_at_30 (by decide) ?_
    replace hF := sE1 hF
    subst hF
    exact r_iret K hw d_Tape_at_31
  · replace hF := ifF hF c_1
    refine lv_iload_n hx hb d_Tape_at_4 rfl (lv_at hl 1 rfl) ?_
    refine lv_aload_n hx hb d_Tape_at_5 rfl (lv_at hl 0 rfl) ?_
    refine r_get (v := .int (s0.1 0 1)) K hw i_Tape (sh_Tape (Nat.le_trans (Nat.le_of_ble_eq_true rfl) hn)) rfl 1 (by decide) w_102 rfl rfl rfl d_Tape_at_6 ?_
    refine lv_icmp_ge (tgt := 30) hx hb d_Tape_at_9 (by decide) (fun c_2 => ?_) (fun c_2 => ?_)
    · replace hF := ifT hF c_2
      refine lv_iconst (v := -1) hx hb d_Tape_at_30 (by decide) ?_
      replace hF := sE1 hF
      subst hF
      exact r_iret K hw d_Tape_at_31
    · replace hF := ifF hF c_2
      refine lv_iload_n hx hb d_Tape_at_12 rfl (lv_at hl 1 rfl) ?_
      refine lv_aload_n hx hb d_Tape_at_13 rfl (lv_at hl 0 rfl) ?_
      refine r_get (v := .ref (ad 1)) K hw i_Tape (sh_Tape (Nat.le_trans (Nat.le_of_ble_eq_true rfl) hn)) rfl 0 (by decide) w_101 rfl rfl rfl d_Tape_at_14 ?_
      refine r_alen (v := 160) K hw (sh_a1 (Nat.le_trans (Nat.le_of_ble_eq_true rfl) hn)) (by decide) d_Tape_at_17 ?_
      refine lv_icmp_ge (tgt := 30) hx hb d_Tape_at_18 (by decide) (fun c_3 => ?_) (fun c_3 => ?_)
      · replace hF := ifT hF c_3
        refine lv_iconst (v := -1) hx hb d_Tape_at_30 (by decide) ?_
        replace hF := sE1 hF
        subst hF
        exact r_iret K hw d_Tape_at_31
      · replace hF := ifF hF c_3
        refine lv_aload_n hx hb d_Tape_at_21 rfl (lv_at hl 0 rfl) ?_
        refine r_get (v := .ref (ad 1)) K hw i_Tape (sh_Tape (Nat.le_trans (Nat.le_of_ble_eq_true rfl) hn)) rfl 0 (by decide) w_101 rfl rfl rfl d_Tape_at_22 ?_
        refine lv_iload_n hx hb d_Tape_at_25 rfl (lv_at hl 1 rfl) ?_
        obtain ⟨g_4, hF⟩ := ifG hF
        refine r_iald (k := v1.toNatClampNeg) K hw (sh_a1 (Nat.le_trans (Nat.le_of_ble_eq_true rfl) hn)) rfl (inB_vp g_4) d_Tape_at_26 ?_
        refine lv_goto (tgt := 31) hx hb d_Tape_at_27 (by decide) ?_
        replace hF := sE1 hF
        subst hF
        exact r_iret K hw d_Tape_at_31
end S_Tape_at
noncomputable abbrev F_Tape_at := F_Tape_at_0
theorem c_Tape_at {l : Launch} {D : va_G} {cA : Nat → ClassId} {ad : Nat → Nat} {s0 : St} {nC : Nat} (hn : 2 ≤ nC) {r : Int32} {v1 : Int32}  (hF : F_Tape_at s0 v1 = (some r)) : MI l D cA ad (shC.take nC) y_Tape_at (wT y_Tape_at b_Tape_at 2 (some .int)) rm_Tape_at [.ref (ad 0), .int v1] s0 r s0 := fun sz => m_start (Qc := fun A => QcI D cA ad (shC.take nC) A r s0) (by decide +kernel) w_341 (Nat.le_of_ble_eq_true rfl) (fun p e s m below meth c ls K hl hw => q_Tape_at_0 hn s0 K _ _ _ _  hw hl hF)

/-! Tape.isBlank(I)Z -/
abbrev b_Tape_isBlank : ByteArray := prog_9_method_5_code
def y_Tape_isBlank : MethodName := ⟨R_Tape, "isBlank", "(I)Z"⟩
theorem a_Tape_isBlank : y_Tape_isBlank.cls = R_Tape ∧ y_Tape_isBlank.cls ≠ "java/lang/invoke/MethodHandle" ∧ y_Tape_isBlank.cls ≠ "java/lang/invoke/VarHandle" ∧ (parseMethodDescriptor y_Tape_isBlank.desc).map (fun d => d.parameters.length) = some 1 := by decide +kernel
abbrev rm_Tape_isBlank : Room := { frames := 1, cells := 0, slots := 0, locals := 21 }
theorem w_338 : Cond.methodLink R_Tape 19 y_Tape_at ∈ TB := tb_in 338 (by decide +kernel) (by decide +kernel)
theorem w_339 : Cond.instanceMethod y_Tape_at ∈ TB := tb_in 339 (by decide +kernel) (by decide +kernel)
theorem w_340 : Cond.selects R_Tape y_Tape_at y_Tape_at ∈ TB := tb_in 340 (by decide +kernel) (by decide +kernel)
theorem w_337 : Cond.code y_Tape_isBlank b_Tape_isBlank 2 (some .boolean) ∈ TB := tb_in 337 (by decide +kernel) (by decide +kernel)
theorem d_Tape_isBlank_0 : decode b_Tape_isBlank 0 = .ok (.aload_n 0, 1) := by decide +kernel
theorem d_Tape_isBlank_1 : decode b_Tape_isBlank 1 = .ok (.iload_n 1, 1) := by decide +kernel
theorem d_Tape_isBlank_2 : decode b_Tape_isBlank 2 = .ok (.invokevirtual 19, 3) := by decide +kernel
theorem d_Tape_isBlank_5 : decode b_Tape_isBlank 5 = .ok (.bipush 32, 2) := by decide +kernel
theorem d_Tape_isBlank_7 : decode b_Tape_isBlank 7 = .ok (.if_icmp .eq 13, 3) := by decide +kernel
theorem d_Tape_isBlank_10 : decode b_Tape_isBlank 10 = .ok (.aload_n 0, 1) := by decide +kernel
theorem d_Tape_isBlank_11 : decode b_Tape_isBlank 11 = .ok (.iload_n 1, 1) := by decide +kernel
theorem d_Tape_isBlank_12 : decode b_Tape_isBlank 12 = .ok (.invokevirtual 19, 3) := by decide +kernel
theorem d_Tape_isBlank_15 : decode b_Tape_isBlank 15 = .ok (.bipush 10, 2) := by decide +kernel
theorem d_Tape_isBlank_17 : decode b_Tape_isBlank 17 = .ok (.if_icmp .ne 7, 3) := by decide +kernel
theorem d_Tape_isBlank_20 : decode b_Tape_isBlank 20 = .ok (.iconst 1, 1) := by decide +kernel
theorem d_Tape_isBlank_21 : decode b_Tape_isBlank 21 = .ok (.goto 4, 3) := by decide +kernel
theorem d_Tape_isBlank_24 : decode b_Tape_isBlank 24 = .ok (.iconst 0, 1) := by decide +kernel
theorem d_Tape_isBlank_25 : decode b_Tape_isBlank 25 = .ok (.ireturn, 1) := by decide +kernel
section S_Tape_isBlank
variable {p : Program} {l : Launch} {e : Env} {s : State} {m : MethodId} {args : Array Value} {below : List Frame} {meth : Method} {c : Code} {D : va_G} {cA : Nat → ClassId} {ad : Nat → Nat} {nC : Nat} {A : Nat → Prop} {r : Int32} {τ : St}
noncomputable def F_Tape_isBlank_0 (s0 : St) (v1 : Int32) : Option Int32 := (ob1 (F_Tape_at s0 v1) (fun r_1 => (if r_1 = (32 : Int32) then (some (1 : Int32)) else (ob1 (F_Tape_at s0 v1) (fun r_3 => (if ¬ r_3 = (10 : Int32) then (some (0 : Int32)) else (some (1 : Int32))))))))
set_option maxHeartbeats 4000000 in
set_option maxRecDepth 100000 in
theorem q_Tape_isBlank_0 (hn : 2 ≤ nC) (s0 : St) (K : Fx p s m args meth c b_Tape_isBlank 2 R_Tape (some .boolean))  : ∀ (H : Heap) (locs : List Loc) (ls : Array Slot) (v1 : Int32), Wh D cA ad (shC.take nC) A s s0 H locs → lv_has ls 2 [(0, .ref (ad 0)), (1, .int v1)] → F_Tape_isBlank_0 s0 v1 = (some r) → W p l e rm_Tape_isBlank s m args below meth c H locs 0 0 (MQ below (QcI D cA ad (shC.take nC) A r s0) args s 0 0 A) (F0 m 0 ls []) := by
  have hx := K.1.1; have hb := K.1.2.1
  intro H locs ls v1 hw hl hF
  unfold F_Tape_isBlank_0 at hF
  refine lv_aload_n hx hb d_Tape_isBlank_0 rfl (lv_at hl 0 rfl) ?_
  refine lv_iload_n hx hb d_Tape_isBlank_1 rfl (lv_at hl 1 rfl) ?_
  obtain ⟨r_1, h_r_1, hF⟩ := ob1E hF
  refine r_callVI (As := [.int v1]) (rest := []) K hw hl.1 (c_Tape_at (l := l) (D := D) (cA := cA) (ad := ad) (s0 := s0) (Nat.le_trans (Nat.le_of_ble_eq_true rfl) hn)  h_r_1) (sh_Tape (Nat.le_trans (Nat.le_of_ble_eq_true rfl) hn)) rfl (tb_gV w_338 w_339 w_340 w_64 w_341) a_Tape_at ⟨rfl, rfl, Nat.le_of_ble_eq_true rfl, Nat.le_of_ble_eq_true rfl⟩ rfl rfl (Nat.le_of_ble_eq_true rfl) d_Tape_isBlank_2 (fun H locs hw => ?_)
  refine lv_bipush (v := 32) hx hb d_Tape_isBlank_5 (by decide) ?_
  refine lv_icmp_eq (tgt := 20) hx hb d_Tape_isBlank_7 (by decide) (fun c_2 => ?_) (fun c_2 => ?_)
  · replace hF := ifT hF c_2
    refine lv_iconst (v := 1) hx hb d_Tape_isBlank_20 (by decide) ?_
    refine lv_goto (tgt := 25) hx hb d_Tape_isBlank_21 (by decide) ?_
    replace hF := sE1 hF
    subst hF
    exact r_zret K hw (by decide) d_Tape_isBlank_25
  · replace hF := ifF hF c_2
    refine lv_aload_n hx hb d_Tape_isBlank_10 rfl (lv_at hl 0 rfl) ?_
    refine lv_iload_n hx hb d_Tape_isBlank_11 rfl (lv_at hl 1 rfl) ?_
    obtain ⟨r_3, h_r_3, hF⟩ := ob1E hF
    refine r_callVI (As := [.int v1]) (rest := []) K hw hl.1 (c_Tape_at (l := l) (D := D) (cA := cA) (ad := ad) (s0 := s0) (Nat.le_trans (Nat.le_of_ble_eq_true rfl) hn)  h_r_3) (sh_Tape (Nat.le_trans (Nat.le_of_ble_eq_true rfl) hn)) rfl (tb_gV w_338 w_339 w_340 w_64 w_341) a_Tape_at ⟨rfl, rfl, Nat.le_of_ble_eq_true rfl, Nat.le_of_ble_eq_true rfl⟩ rfl rfl (Nat.le_of_ble_eq_true rfl) d_Tape_isBlank_12 (fun H locs hw => ?_)
    refine lv_bipush (v := 10) hx hb d_Tape_isBlank_15 (by decide) ?_
    refine lv_icmp_ne (tgt := 24) hx hb d_Tape_isBlank_17 (by decide) (fun c_4 => ?_) (fun c_4 => ?_)
    · replace hF := ifT hF c_4
      refine lv_iconst (v := 0) hx hb d_Tape_isBlank_24 (by decide) ?_
      replace hF := sE1 hF
      subst hF
      exact r_zret K hw (by decide) d_Tape_isBlank_25
    · replace hF := ifN hF c_4
      refine lv_iconst (v := 1) hx hb d_Tape_isBlank_20 (by decide) ?_
      refine lv_goto (tgt := 25) hx hb d_Tape_isBlank_21 (by decide) ?_
      replace hF := sE1 hF
      subst hF
      exact r_zret K hw (by decide) d_Tape_isBlank_25
end S_Tape_isBlank
noncomputable abbrev F_Tape_isBlank := F_Tape_isBlank_0
theorem c_Tape_isBlank {l : Launch} {D : va_G} {cA : Nat → ClassId} {ad : Nat → Nat} {s0 : St} {nC : Nat} (hn : 2 ≤ nC) {r : Int32} {v1 : Int32}  (hF : F_Tape_isBlank s0 v1 = (some r)) : MI l D cA ad (shC.take nC) y_Tape_isBlank (wT y_Tape_isBlank b_Tape_isBlank 2 (some .boolean)) rm_Tape_isBlank [.ref (ad 0), .int v1] s0 r s0 := fun sz => m_start (Qc := fun A => QcI D cA ad (shC.take nC) A r s0) (by decide +kernel) w_337 (Nat.le_of_ble_eq_true rfl) (fun p e s m below meth c ls K hl hw => q_Tape_isBlank_0 hn s0 K _ _ _ _  hw hl hF)

/-! Tape.isDigit(I)Z -/
abbrev b_Tape_isDigit : ByteArray := prog_9_method_7_code
def y_Tape_isDigit : MethodName := ⟨R_Tape, "isDigit", "(I)Z"⟩
theorem a_Tape_isDigit : y_Tape_isDigit.cls = R_Tape ∧ y_Tape_isDigit.cls ≠ "java/lang/invoke/MethodHandle" ∧ y_Tape_isDigit.cls ≠ "java/lang/invoke/VarHandle" ∧ (parseMethodDescriptor y_Tape_isDigit.desc).map (fun d => d.parameters.length) = some 1 := by decide +kernel
abbrev rm_Tape_isDigit : Room := { frames := 1, cells := 0, slots := 0, locals := 22 }
theorem w_368 : Cond.code y_Tape_isDigit b_Tape_isDigit 2 (some .boolean) ∈ TB := tb_in 368 (by decide +kernel) (by decide +kernel)
theorem nw_346 : Cond.methodLinkNest R_Tape 23 y_Main_isWithin R_Main ∈ NWS := List.mem_of_getElem? (i := 4) (by decide +kernel)
theorem d_Tape_isDigit_0 : decode b_Tape_isDigit 0 = .ok (.aload_n 0, 1) := by decide +kernel
theorem d_Tape_isDigit_1 : decode b_Tape_isDigit 1 = .ok (.iload_n 1, 1) := by decide +kernel
theorem d_Tape_isDigit_2 : decode b_Tape_isDigit 2 = .ok (.invokevirtual 19, 3) := by decide +kernel
theorem d_Tape_isDigit_5 : decode b_Tape_isDigit 5 = .ok (.bipush 48, 2) := by decide +kernel
theorem d_Tape_isDigit_7 : decode b_Tape_isDigit 7 = .ok (.bipush 57, 2) := by decide +kernel
theorem d_Tape_isDigit_9 : decode b_Tape_isDigit 9 = .ok (.invokestatic 23, 3) := by decide +kernel
theorem d_Tape_isDigit_12 : decode b_Tape_isDigit 12 = .ok (.ireturn, 1) := by decide +kernel
section S_Tape_isDigit
variable {p : Program} {l : Launch} {e : Env} {s : State} {m : MethodId} {args : Array Value} {below : List Frame} {meth : Method} {c : Code} {D : va_G} {cA : Nat → ClassId} {ad : Nat → Nat} {nC : Nat} {A : Nat → Prop} {r : Int32} {τ : St}
noncomputable def F_Tape_isDigit_0 (s0 : St) (v1 : Int32) : Option Int32 := (ob1 (F_Tape_at s0 v1) (fun r_1 => (if ((F_Main_isWithin r_1 (48 : Int32) (57 : Int32)) = 0 ∨ (F_Main_isWithin r_1 (48 : Int32) (57 : Int32)) = 1) then (some (F_Main_isWithin r_1 (48 : Int32) (57 : Int32))) else none)))
set_option maxHeartbeats 4000000 in
set_option maxRecDepth 100000 in
theorem q_Tape_isDigit_0 (hn : 2 ≤ nC) (s0 : St) (K : Fx p s m args meth c b_Tape_isDigit 2 R_Tape (some .boolean))  : ∀ (H : Heap) (locs : List Loc) (ls : Array Slot) (v1 : Int32), Wh D cA ad (shC.take nC) A s s0 H locs → lv_has ls 2 [(0, .ref (ad 0)), (1, .int v1)] → F_Tape_isDigit_0 s0 v1 = (some r) → W p l e rm_Tape_isDigit s m args below meth c H locs 0 0 (MQ below (QcI D cA ad (shC.take nC) A r s0) args s 0 0 A) (F0 m 0 ls []) := by
  have hx := K.1.1; have hb := K.1.2.1
  intro H locs ls v1 hw hl hF
  unfold F_Tape_isDigit_0 at hF
  refine lv_aload_n hx hb d_Tape_isDigit_0 rfl (lv_at hl 0 rfl) ?_
  refine lv_iload_n hx hb d_Tape_isDigit_1 rfl (lv_at hl 1 rfl) ?_
  obtain ⟨r_1, h_r_1, hF⟩ := ob1E hF
  refine r_callVI (As := [.int v1]) (rest := []) K hw hl.1 (c_Tape_at (l := l) (D := D) (cA := cA) (ad := ad) (s0 := s0) (Nat.le_trans (Nat.le_of_ble_eq_true rfl) hn)  h_r_1) (sh_Tape (Nat.le_trans (Nat.le_of_ble_eq_true rfl) hn)) rfl (tb_gV w_338 w_339 w_340 w_64 w_341) a_Tape_at ⟨rfl, rfl, Nat.le_of_ble_eq_true rfl, Nat.le_of_ble_eq_true rfl⟩ rfl rfl (Nat.le_of_ble_eq_true rfl) d_Tape_isDigit_2 (fun H locs hw => ?_)
  refine lv_bipush (v := 48) hx hb d_Tape_isDigit_5 (by decide) ?_
  refine lv_bipush (v := 57) hx hb d_Tape_isDigit_7 (by decide) ?_
  refine r_callNI (As := [.int r_1, .int (48 : Int32), .int (57 : Int32)]) (rest := []) K hw hl.1 (c_Main_isWithin (l := l) (D := D) (cA := cA) (ad := ad) (s0 := s0) (Nat.le_trans (Nat.le_of_ble_eq_true rfl) hn)  rfl) (nw_346) w_347 w_63 w_348 a_Main_isWithin.2 ⟨rfl, rfl, Nat.le_of_ble_eq_true rfl, Nat.le_of_ble_eq_true rfl⟩ rfl rfl (Nat.le_of_ble_eq_true rfl) d_Tape_isDigit_9 (fun H locs hw => ?_)
  obtain ⟨g_2, hF⟩ := ifG hF
  replace hF := sE1 hF
  subst hF
  exact r_zret K hw (zN g_2) d_Tape_isDigit_12
end S_Tape_isDigit
noncomputable abbrev F_Tape_isDigit := F_Tape_isDigit_0
theorem c_Tape_isDigit {l : Launch} {D : va_G} {cA : Nat → ClassId} {ad : Nat → Nat} {s0 : St} {nC : Nat} (hn : 2 ≤ nC) {r : Int32} {v1 : Int32}  (hF : F_Tape_isDigit s0 v1 = (some r)) : MI l D cA ad (shC.take nC) y_Tape_isDigit (wT y_Tape_isDigit b_Tape_isDigit 2 (some .boolean)) rm_Tape_isDigit [.ref (ad 0), .int v1] s0 r s0 := fun sz => m_start (Qc := fun A => QcI D cA ad (shC.take nC) A r s0) (by decide +kernel) w_368 (Nat.le_of_ble_eq_true rfl) (fun p e s m below meth c ls K hl hw => q_Tape_isDigit_0 hn s0 K _ _ _ _  hw hl hF)

/-! Tape.isLetter(I)Z -/
abbrev b_Tape_isLetter : ByteArray := prog_9_method_6_code
def y_Tape_isLetter : MethodName := ⟨R_Tape, "isLette\x72", "(I)Z"⟩
theorem a_Tape_isLetter : y_Tape_isLetter.cls = R_Tape ∧ y_Tape_isLetter.cls ≠ "java/lang/invoke/MethodHandle" ∧ y_Tape_isLetter.cls ≠ "java/lang/invoke/VarHandle" ∧ (parseMethodDescriptor y_Tape_isLetter.desc).map (fun d => d.parameters.length) = some 1 := by decide +kernel
abbrev rm_Tape_isLetter : Room := { frames := 1, cells := 0, slots := 0, locals := 22 }
theorem w_345 : Cond.code y_Tape_isLetter b_Tape_isLetter 2 (some .boolean) ∈ TB := tb_in 345 (by decide +kernel) (by decide +kernel)
theorem d_Tape_isLetter_0 : decode b_Tape_isLetter 0 = .ok (.aload_n 0, 1) := by decide +kernel
theorem d_Tape_isLetter_1 : decode b_Tape_isLetter 1 = .ok (.iload_n 1, 1) := by decide +kernel
theorem d_Tape_isLetter_2 : decode b_Tape_isLetter 2 = .ok (.invokevirtual 19, 3) := by decide +kernel
theorem d_Tape_isLetter_5 : decode b_Tape_isLetter 5 = .ok (.bipush 97, 2) := by decide +kernel
theorem d_Tape_isLetter_7 : decode b_Tape_isLetter 7 = .ok (.bipush 122, 2) := by decide +kernel
theorem d_Tape_isLetter_9 : decode b_Tape_isLetter 9 = .ok (.invokestatic 23, 3) := by decide +kernel
theorem d_Tape_isLetter_12 : decode b_Tape_isLetter 12 = .ok (.ireturn, 1) := by decide +kernel
section S_Tape_isLetter
variable {p : Program} {l : Launch} {e : Env} {s : State} {m : MethodId} {args : Array Value} {below : List Frame} {meth : Method} {c : Code} {D : va_G} {cA : Nat → ClassId} {ad : Nat → Nat} {nC : Nat} {A : Nat → Prop} {r : Int32} {τ : St}
noncomputable def F_Tape_isLetter_0 (s0 : St) (v1 : Int32) : Option Int32 := (ob1 (F_Tape_at s0 v1) (fun r_1 => (if ((F_Main_isWithin r_1 (97 : Int32) (122 : Int32)) = 0 ∨ (F_Main_isWithin r_1 (97 : Int32) (122 : Int32)) = 1) then (some (F_Main_isWithin r_1 (97 : Int32) (122 : Int32))) else none)))
set_option maxHeartbeats 4000000 in
set_option maxRecDepth 100000 in
theorem q_Tape_isLetter_0 (hn : 2 ≤ nC) (s0 : St) (K : Fx p s m args meth c b_Tape_isLetter 2 R_Tape (some .boolean))  : ∀ (H : Heap) (locs : List Loc) (ls : Array Slot) (v1 : Int32), Wh D cA ad (shC.take nC) A s s0 H locs → lv_has ls 2 [(0, .ref (ad 0)), (1, .int v1)] → F_Tape_isLetter_0 s0 v1 = (some r) → W p l e rm_Tape_isLetter s m args below meth c H locs 0 0 (MQ below (QcI D cA ad (shC.take nC) A r s0) args s 0 0 A) (F0 m 0 ls []) := by
  have hx := K.1.1; have hb := K.1.2.1
  intro H locs ls v1 hw hl hF
  unfold F_Tape_isLetter_0 at hF
  refine lv_aload_n hx hb d_Tape_isLetter_0 rfl (lv_at hl 0 rfl) ?_
  refine lv_iload_n hx hb d_Tape_isLetter_1 rfl (lv_at hl 1 rfl) ?_
  obtain ⟨r_1, h_r_1, hF⟩ := ob1E hF
  refine r_callVI (As := [.int v1]) (rest := []) K hw hl.1 (c_Tape_at (l := l) (D := D) (cA := cA) (ad := ad) (s0 := s0) (Nat.le_trans (Nat.le_of_ble_eq_true rfl) hn)  h_r_1) (sh_Tape (Nat.le_trans (Nat.le_of_ble_eq_true rfl) hn)) rfl (tb_gV w_338 w_339 w_340 w_64 w_341) a_Tape_at ⟨rfl, rfl, Nat.le_of_ble_eq_true rfl, Nat.le_of_ble_eq_true rfl⟩ rfl rfl (Nat.le_of_ble_eq_true rfl) d_Tape_isLetter_2 (fun H locs hw => ?_)
  refine lv_bipush (v := 97) hx hb d_Tape_isLetter_5 (by decide) ?_
  refine lv_bipush (v := 122) hx hb d_Tape_isLetter_7 (by decide) ?_
  refine r_callNI (As := [.int r_1, .int (97 : Int32), .int (122 : Int32)]) (rest := []) K hw hl.1 (c_Main_isWithin (l := l) (D := D) (cA := cA) (ad := ad) (s0 := s0) (Nat.le_trans (Nat.le_of_ble_eq_true rfl) hn)  rfl) (nw_346) w_347 w_63 w_348 a_Main_isWithin.2 ⟨rfl, rfl, Nat.le_of_ble_eq_true rfl, Nat.le_of_ble_eq_true rfl⟩ rfl rfl (Nat.le_of_ble_eq_true rfl) d_Tape_isLetter_9 (fun H locs hw => ?_)
  obtain ⟨g_2, hF⟩ := ifG hF
  replace hF := sE1 hF
  subst hF
  exact r_zret K hw (zN g_2) d_Tape_isLetter_12
end S_Tape_isLetter
noncomputable abbrev F_Tape_isLetter := F_Tape_isLetter_0
theorem c_Tape_isLetter {l : Launch} {D : va_G} {cA : Nat → ClassId} {ad : Nat → Nat} {s0 : St} {nC : Nat} (hn : 2 ≤ nC) {r : Int32} {v1 : Int32}  (hF : F_Tape_isLetter s0 v1 = (some r)) : MI l D cA ad (shC.take nC) y_Tape_isLetter (wT y_Tape_isLetter b_Tape_isLetter 2 (some .boolean)) rm_Tape_isLetter [.ref (ad 0), .int v1] s0 r s0 := fun sz => m_start (Qc := fun A => QcI D cA ad (shC.take nC) A r s0) (by decide +kernel) w_345 (Nat.le_of_ble_eq_true rfl) (fun p e s m below meth c ls K hl hw => q_Tape_isLetter_0 hn s0 K _ _ _ _  hw hl hF)

/-! Tokens.add(III)V -/
abbrev b_Tokens_add : ByteArray := prog_11_method_6_code
def y_Tokens_add : MethodName := ⟨R_Tokens, "add", "(III)V"⟩
theorem a_Tokens_add : y_Tokens_add.cls = R_Tokens ∧ y_Tokens_add.cls ≠ "java/lang/invoke/MethodHandle" ∧ y_Tokens_add.cls ≠ "java/lang/invoke/VarHandle" ∧ (parseMethodDescriptor y_Tokens_add.desc).map (fun d => d.parameters.length) = some 3 := by decide +kernel
abbrev rm_Tokens_add : Room := { frames := 0, cells := 0, slots := 0, locals := 0 }
theorem w_364 : Cond.code y_Tokens_add b_Tokens_add 4 none ∈ TB := tb_in 364 (by decide +kernel) (by decide +kernel)
theorem d_Tokens_add_0 : decode b_Tokens_add 0 = .ok (.aload_n 0, 1) := by decide +kernel
theorem d_Tokens_add_1 : decode b_Tokens_add 1 = .ok (.getfield 25, 3) := by decide +kernel
theorem d_Tokens_add_4 : decode b_Tokens_add 4 = .ok (.aload_n 0, 1) := by decide +kernel
theorem d_Tokens_add_5 : decode b_Tokens_add 5 = .ok (.getfield 11, 3) := by decide +kernel
theorem d_Tokens_add_8 : decode b_Tokens_add 8 = .ok (.arraylength, 1) := by decide +kernel
theorem d_Tokens_add_9 : decode b_Tokens_add 9 = .ok (.if_icmp .lt 4, 3) := by decide +kernel
theorem d_Tokens_add_12 : decode b_Tokens_add 12 = .ok (.return_, 1) := by decide +kernel
theorem d_Tokens_add_13 : decode b_Tokens_add 13 = .ok (.aload_n 0, 1) := by decide +kernel
theorem d_Tokens_add_14 : decode b_Tokens_add 14 = .ok (.getfield 11, 3) := by decide +kernel
theorem d_Tokens_add_17 : decode b_Tokens_add 17 = .ok (.aload_n 0, 1) := by decide +kernel
theorem d_Tokens_add_18 : decode b_Tokens_add 18 = .ok (.getfield 25, 3) := by decide +kernel
theorem d_Tokens_add_21 : decode b_Tokens_add 21 = .ok (.iload_n 1, 1) := by decide +kernel
theorem d_Tokens_add_22 : decode b_Tokens_add 22 = .ok (.iastore, 1) := by decide +kernel
theorem d_Tokens_add_23 : decode b_Tokens_add 23 = .ok (.aload_n 0, 1) := by decide +kernel
theorem d_Tokens_add_24 : decode b_Tokens_add 24 = .ok (.getfield 15, 3) := by decide +kernel
theorem d_Tokens_add_27 : decode b_Tokens_add 27 = .ok (.aload_n 0, 1) := by decide +kernel
theorem d_Tokens_add_28 : decode b_Tokens_add 28 = .ok (.getfield 25, 3) := by decide +kernel
theorem d_Tokens_add_31 : decode b_Tokens_add 31 = .ok (.iload_n 2, 1) := by decide +kernel
theorem d_Tokens_add_32 : decode b_Tokens_add 32 = .ok (.iastore, 1) := by decide +kernel
theorem d_Tokens_add_33 : decode b_Tokens_add 33 = .ok (.aload_n 0, 1) := by decide +kernel
theorem d_Tokens_add_34 : decode b_Tokens_add 34 = .ok (.getfield 18, 3) := by decide +kernel
theorem d_Tokens_add_37 : decode b_Tokens_add 37 = .ok (.aload_n 0, 1) := by decide +kernel
theorem d_Tokens_add_38 : decode b_Tokens_add 38 = .ok (.getfield 25, 3) := by decide +kernel
theorem d_Tokens_add_41 : decode b_Tokens_add 41 = .ok (.iload_n 3, 1) := by decide +kernel
theorem d_Tokens_add_42 : decode b_Tokens_add 42 = .ok (.iastore, 1) := by decide +kernel
theorem d_Tokens_add_43 : decode b_Tokens_add 43 = .ok (.aload_n 0, 1) := by decide +kernel
theorem d_Tokens_add_44 : decode b_Tokens_add 44 = .ok (.dup, 1) := by decide +kernel
theorem d_Tokens_add_45 : decode b_Tokens_add 45 = .ok (.getfield 25, 3) := by decide +kernel
theorem d_Tokens_add_48 : decode b_Tokens_add 48 = .ok (.iconst 1, 1) := by decide +kernel
theorem d_Tokens_add_49 : decode b_Tokens_add 49 = .ok (.iadd, 1) := by decide +kernel
theorem d_Tokens_add_50 : decode b_Tokens_add 50 = .ok (.putfield 25, 3) := by decide +kernel
theorem d_Tokens_add_53 : decode b_Tokens_add 53 = .ok (.return_, 1) := by decide +kernel
section S_Tokens_add
variable {p : Program} {l : Launch} {e : Env} {s : State} {m : MethodId} {args : Array Value} {below : List Frame} {meth : Method} {c : Code} {D : va_G} {cA : Nat → ClassId} {ad : Nat → Nat} {nC : Nat} {A : Nat → Prop} {τ : St}
noncomputable def F_Tokens_add_0 (s0 : St) (v1 : Int32) (v2 : Int32) (v3 : Int32) : Option St := (if (s0.1 3 4) < (161 : Int32) then (if inB (s0.1 3 4) 161 = true then (lt (up1 s0 4 (s0.1 3 4).toNatClampNeg v1) (fun s_3 => (if inB (s_3.1 3 4) 161 = true then (lt (up1 s_3 5 (s_3.1 3 4).toNatClampNeg v2) (fun s_5 => (if inB (s_5.1 3 4) 161 = true then (lt (up1 s_5 6 (s_5.1 3 4).toNatClampNeg v3) (fun s_7 => (lt (up1 s_7 3 4 ((s_7.1 3 4) + (1 : Int32))) (fun s_8 => (some s_8))))) else none))) else none))) else none) else (some s0))
set_option maxHeartbeats 4000000 in
set_option maxRecDepth 100000 in
theorem q_Tokens_add_0 (hn : 7 ≤ nC) (K : Fx p s m args meth c b_Tokens_add 4 R_Tokens none)  : ∀ (H : Heap) (locs : List Loc) (ls : Array Slot) (s0 : St) (v1 : Int32) (v2 : Int32) (v3 : Int32), Wh D cA ad (shC.take nC) A s s0 H locs → lv_has ls 4 [(0, .ref (ad 3)), (1, .int v1), (2, .int v2), (3, .int v3)] → F_Tokens_add_0 s0 v1 v2 v3 = (some τ) → W p l e rm_Tokens_add s m args below meth c H locs 0 0 (MQ below (QcV D cA ad (shC.take nC) A τ) args s 0 0 A) (F0 m 0 ls []) := by
  have hx := K.1.1; have hb := K.1.2.1
  intro H locs ls s0 v1 v2 v3 hw hl hF
  unfold F_Tokens_add_0 at hF
  refine lv_aload_n hx hb d_Tokens_add_0 rfl (lv_at hl 0 rfl) ?_
  refine r_get (v := .int (s0.1 3 4)) K hw i_Tokens (sh_Tokens (Nat.le_trans (Nat.le_of_ble_eq_true rfl) hn)) rfl 4 (by decide) w_292 rfl rfl rfl d_Tokens_add_1 ?_
  refine lv_aload_n hx hb d_Tokens_add_4 rfl (lv_at hl 0 rfl) ?_
  refine r_get (v := .ref (ad 4)) K hw i_Tokens (sh_Tokens (Nat.le_trans (Nat.le_of_ble_eq_true rfl) hn)) rfl 1 (by decide) w_289 rfl rfl rfl d_Tokens_add_5 ?_
  refine r_alen (v := 161) K hw (sh_a4 (Nat.le_trans (Nat.le_of_ble_eq_true rfl) hn)) (by decide) d_Tokens_add_8 ?_
  refine lv_icmp_lt (tgt := 13) hx hb d_Tokens_add_9 (by decide) (fun c_1 => ?_) (fun c_1 => ?_)
  · replace hF := ifT hF c_1
    refine lv_aload_n hx hb d_Tokens_add_13 rfl (lv_at hl 0 rfl) ?_
    refine r_get (v := .ref (ad 4)) K hw i_Tokens (sh_Tokens (Nat.le_trans (Nat.le_of_ble_eq_true rfl) hn)) rfl 1 (by decide) w_289 rfl rfl rfl d_Tokens_add_14 ?_
    refine lv_aload_n hx hb d_Tokens_add_17 rfl (lv_at hl 0 rfl) ?_
    refine r_get (v := .int (s0.1 3 4)) K hw i_Tokens (sh_Tokens (Nat.le_trans (Nat.le_of_ble_eq_true rfl) hn)) rfl 4 (by decide) w_292 rfl rfl rfl d_Tokens_add_18 ?_
    refine lv_iload_n hx hb d_Tokens_add_21 rfl (lv_at hl 1 rfl) ?_
    obtain ⟨g_2, hF⟩ := ifG hF
    refine r_iast (k := (s0.1 3 4).toNatClampNeg) K hw (sh_a4 (Nat.le_trans (Nat.le_of_ble_eq_true rfl) hn)) rfl (inB_vp g_2) d_Tokens_add_22 (fun s_3 f_s_3 H locs hw => ?_)
    replace hF := ltN hF f_s_3
    refine lv_aload_n hx hb d_Tokens_add_23 rfl (lv_at hl 0 rfl) ?_
    refine r_get (v := .ref (ad 5)) K hw i_Tokens (sh_Tokens (Nat.le_trans (Nat.le_of_ble_eq_true rfl) hn)) rfl 2 (by decide) w_290 rfl rfl rfl d_Tokens_add_24 ?_
    refine lv_aload_n hx hb d_Tokens_add_27 rfl (lv_at hl 0 rfl) ?_
    refine r_get (v := .int (s_3.1 3 4)) K hw i_Tokens (sh_Tokens (Nat.le_trans (Nat.le_of_ble_eq_true rfl) hn)) rfl 4 (by decide) w_292 rfl rfl rfl d_Tokens_add_28 ?_
    refine lv_iload_n hx hb d_Tokens_add_31 rfl (lv_at hl 2 rfl) ?_
    obtain ⟨g_4, hF⟩ := ifG hF
    refine r_iast (k := (s_3.1 3 4).toNatClampNeg) K hw (sh_a5 (Nat.le_trans (Nat.le_of_ble_eq_true rfl) hn)) rfl (inB_vp g_4) d_Tokens_add_32 (fun s_5 f_s_5 H locs hw => ?_)
    replace hF := ltN hF f_s_5
    refine lv_aload_n hx hb d_Tokens_add_33 rfl (lv_at hl 0 rfl) ?_
    refine r_get (v := .ref (ad 6)) K hw i_Tokens (sh_Tokens (Nat.le_trans (Nat.le_of_ble_eq_true rfl) hn)) rfl 3 (by decide) w_291 rfl rfl rfl d_Tokens_add_34 ?_
    refine lv_aload_n hx hb d_Tokens_add_37 rfl (lv_at hl 0 rfl) ?_
    refine r_get (v := .int (s_5.1 3 4)) K hw i_Tokens (sh_Tokens (Nat.le_trans (Nat.le_of_ble_eq_true rfl) hn)) rfl 4 (by decide) w_292 rfl rfl rfl d_Tokens_add_38 ?_
    refine lv_iload_n hx hb d_Tokens_add_41 rfl (lv_at hl 3 rfl) ?_
    obtain ⟨g_6, hF⟩ := ifG hF
    refine r_iast (k := (s_5.1 3 4).toNatClampNeg) K hw (sh_a6 (Nat.le_trans (Nat.le_of_ble_eq_true rfl) hn)) rfl (inB_vp g_6) d_Tokens_add_42 (fun s_7 f_s_7 H locs hw => ?_)
    replace hF := ltN hF f_s_7
    refine lv_aload_n hx hb d_Tokens_add_43 rfl (lv_at hl 0 rfl) ?_
    refine lv_dup hx hb d_Tokens_add_44 rfl ?_
    refine r_get (v := .int (s_7.1 3 4)) K hw i_Tokens (sh_Tokens (Nat.le_trans (Nat.le_of_ble_eq_true rfl) hn)) rfl 4 (by decide) w_292 rfl rfl rfl d_Tokens_add_45 ?_
    refine lv_iconst (v := 1) hx hb d_Tokens_add_48 (by decide) ?_
    refine lv_iadd hx hb d_Tokens_add_49 ?_
    refine r_putI K hw i_Tokens t_Tokens t_Tokens_ok n_Tokens (sh_Tokens (Nat.le_trans (Nat.le_of_ble_eq_true rfl) hn)) rfl 4 (by decide) w_292 rfl rfl rfl rfl rfl d_Tokens_add_50 (fun s_8 f_s_8 H locs hw => ?_)
    replace hF := ltN hF f_s_8
    replace hF := sE1 hF
    subst hF
    exact r_vret K hw d_Tokens_add_53
  · replace hF := ifF hF c_1
    replace hF := sE1 hF
    subst hF
    exact r_vret K hw d_Tokens_add_12
end S_Tokens_add
noncomputable abbrev F_Tokens_add := F_Tokens_add_0
theorem c_Tokens_add {l : Launch} {D : va_G} {cA : Nat → ClassId} {ad : Nat → Nat} {s0 τ : St} {nC : Nat} (hn : 7 ≤ nC) {v1 : Int32} {v2 : Int32} {v3 : Int32}  (hF : F_Tokens_add s0 v1 v2 v3 = (some τ)) : MV l D cA ad (shC.take nC) y_Tokens_add (wT y_Tokens_add b_Tokens_add 4 none) rm_Tokens_add [.ref (ad 3), .int v1, .int v2, .int v3] s0 τ := fun sz => m_start (Qc := fun A => QcV D cA ad (shC.take nC) A τ) (by decide +kernel) w_364 (Nat.le_of_ble_eq_true rfl) (fun p e s m below meth c ls K hl hw => q_Tokens_add_0 hn K _ _ _ _ _ _ _  hw hl hF)

/-! Tokens.takeNumber()V -/
abbrev b_Tokens_takeNumber : ByteArray := prog_11_method_9_code
def y_Tokens_takeNumber : MethodName := ⟨R_Tokens, "takeNumbe\x72", "()V"⟩
theorem a_Tokens_takeNumber : y_Tokens_takeNumber.cls = R_Tokens ∧ y_Tokens_takeNumber.cls ≠ "java/lang/invoke/MethodHandle" ∧ y_Tokens_takeNumber.cls ≠ "java/lang/invoke/VarHandle" ∧ (parseMethodDescriptor y_Tokens_takeNumber.desc).map (fun d => d.parameters.length) = some 0 := by decide +kernel
abbrev rm_Tokens_takeNumber : Room := { frames := 2, cells := 0, slots := 0, locals := 43 }
theorem w_293 : Cond.fieldLink R_Tokens 29 R_Tokens "next" "I" ∈ TB := tb_in 293 (by decide +kernel) (by decide +kernel)
theorem w_361 : Cond.methodLink R_Tokens 54 y_Tokens_add ∈ TB := tb_in 361 (by decide +kernel) (by decide +kernel)
theorem w_363 : Cond.instanceMethod y_Tokens_add ∈ TB := tb_in 363 (by decide +kernel) (by decide +kernel)
theorem w_2 : Cond.selects R_Tokens y_Tokens_add y_Tokens_add ∈ TB := tb_in 2 (by decide +kernel) (by decide +kernel)
theorem w_365 : Cond.methodLink R_Tokens 45 y_Tape_isDigit ∈ TB := tb_in 365 (by decide +kernel) (by decide +kernel)
theorem w_366 : Cond.instanceMethod y_Tape_isDigit ∈ TB := tb_in 366 (by decide +kernel) (by decide +kernel)
theorem w_367 : Cond.selects R_Tape y_Tape_isDigit y_Tape_isDigit ∈ TB := tb_in 367 (by decide +kernel) (by decide +kernel)
theorem w_360 : Cond.methodLink R_Tokens 74 y_Tape_at ∈ TB := tb_in 360 (by decide +kernel) (by decide +kernel)
theorem w_372 : Cond.code y_Tokens_takeNumber b_Tokens_takeNumber 4 none ∈ TB := tb_in 372 (by decide +kernel) (by decide +kernel)
theorem d_Tokens_takeNumber_0 : decode b_Tokens_takeNumber 0 = .ok (.aload_n 0, 1) := by decide +kernel
theorem d_Tokens_takeNumber_1 : decode b_Tokens_takeNumber 1 = .ok (.getfield 29, 3) := by decide +kernel
theorem d_Tokens_takeNumber_4 : decode b_Tokens_takeNumber 4 = .ok (.istore_n 1, 1) := by decide +kernel
theorem d_Tokens_takeNumber_5 : decode b_Tokens_takeNumber 5 = .ok (.iconst 0, 1) := by decide +kernel
theorem d_Tokens_takeNumber_6 : decode b_Tokens_takeNumber 6 = .ok (.istore_n 2, 1) := by decide +kernel
theorem d_Tokens_takeNumber_7 : decode b_Tokens_takeNumber 7 = .ok (.iload_n 1, 1) := by decide +kernel
theorem d_Tokens_takeNumber_8 : decode b_Tokens_takeNumber 8 = .ok (.istore_n 3, 1) := by decide +kernel
theorem d_Tokens_takeNumber_9 : decode b_Tokens_takeNumber 9 = .ok (.iload_n 3, 1) := by decide +kernel
theorem d_Tokens_takeNumber_10 : decode b_Tokens_takeNumber 10 = .ok (.aload_n 0, 1) := by decide +kernel
theorem d_Tokens_takeNumber_11 : decode b_Tokens_takeNumber 11 = .ok (.getfield 21, 3) := by decide +kernel
theorem d_Tokens_takeNumber_14 : decode b_Tokens_takeNumber 14 = .ok (.getfield 32, 3) := by decide +kernel
theorem d_Tokens_takeNumber_17 : decode b_Tokens_takeNumber 17 = .ok (.if_icmp .ge 47, 3) := by decide +kernel
theorem d_Tokens_takeNumber_20 : decode b_Tokens_takeNumber 20 = .ok (.aload_n 0, 1) := by decide +kernel
theorem d_Tokens_takeNumber_21 : decode b_Tokens_takeNumber 21 = .ok (.getfield 21, 3) := by decide +kernel
theorem d_Tokens_takeNumber_24 : decode b_Tokens_takeNumber 24 = .ok (.iload_n 3, 1) := by decide +kernel
theorem d_Tokens_takeNumber_25 : decode b_Tokens_takeNumber 25 = .ok (.invokevirtual 45, 3) := by decide +kernel
theorem d_Tokens_takeNumber_28 : decode b_Tokens_takeNumber 28 = .ok (.ifCond .eq 36, 3) := by decide +kernel
theorem d_Tokens_takeNumber_31 : decode b_Tokens_takeNumber 31 = .ok (.bipush 10, 2) := by decide +kernel
theorem d_Tokens_takeNumber_33 : decode b_Tokens_takeNumber 33 = .ok (.iload_n 2, 1) := by decide +kernel
theorem d_Tokens_takeNumber_34 : decode b_Tokens_takeNumber 34 = .ok (.imul, 1) := by decide +kernel
theorem d_Tokens_takeNumber_35 : decode b_Tokens_takeNumber 35 = .ok (.aload_n 0, 1) := by decide +kernel
theorem d_Tokens_takeNumber_36 : decode b_Tokens_takeNumber 36 = .ok (.getfield 21, 3) := by decide +kernel
theorem d_Tokens_takeNumber_39 : decode b_Tokens_takeNumber 39 = .ok (.iload_n 3, 1) := by decide +kernel
theorem d_Tokens_takeNumber_40 : decode b_Tokens_takeNumber 40 = .ok (.invokevirtual 74, 3) := by decide +kernel
theorem d_Tokens_takeNumber_43 : decode b_Tokens_takeNumber 43 = .ok (.iadd, 1) := by decide +kernel
theorem d_Tokens_takeNumber_44 : decode b_Tokens_takeNumber 44 = .ok (.bipush 48, 2) := by decide +kernel
theorem d_Tokens_takeNumber_46 : decode b_Tokens_takeNumber 46 = .ok (.isub, 1) := by decide +kernel
theorem d_Tokens_takeNumber_47 : decode b_Tokens_takeNumber 47 = .ok (.istore_n 2, 1) := by decide +kernel
theorem d_Tokens_takeNumber_48 : decode b_Tokens_takeNumber 48 = .ok (.aload_n 0, 1) := by decide +kernel
theorem d_Tokens_takeNumber_49 : decode b_Tokens_takeNumber 49 = .ok (.dup, 1) := by decide +kernel
theorem d_Tokens_takeNumber_50 : decode b_Tokens_takeNumber 50 = .ok (.getfield 29, 3) := by decide +kernel
theorem d_Tokens_takeNumber_53 : decode b_Tokens_takeNumber 53 = .ok (.iconst 1, 1) := by decide +kernel
theorem d_Tokens_takeNumber_54 : decode b_Tokens_takeNumber 54 = .ok (.iadd, 1) := by decide +kernel
theorem d_Tokens_takeNumber_55 : decode b_Tokens_takeNumber 55 = .ok (.putfield 29, 3) := by decide +kernel
theorem d_Tokens_takeNumber_58 : decode b_Tokens_takeNumber 58 = .ok (.iinc 3 1, 3) := by decide +kernel
theorem d_Tokens_takeNumber_61 : decode b_Tokens_takeNumber 61 = .ok (.goto (-52), 3) := by decide +kernel
theorem d_Tokens_takeNumber_64 : decode b_Tokens_takeNumber 64 = .ok (.aload_n 0, 1) := by decide +kernel
theorem d_Tokens_takeNumber_65 : decode b_Tokens_takeNumber 65 = .ok (.aload_n 0, 1) := by decide +kernel
theorem d_Tokens_takeNumber_66 : decode b_Tokens_takeNumber 66 = .ok (.getfield 29, 3) := by decide +kernel
theorem d_Tokens_takeNumber_69 : decode b_Tokens_takeNumber 69 = .ok (.iload_n 1, 1) := by decide +kernel
theorem d_Tokens_takeNumber_70 : decode b_Tokens_takeNumber 70 = .ok (.isub, 1) := by decide +kernel
theorem d_Tokens_takeNumber_71 : decode b_Tokens_takeNumber 71 = .ok (.iconst 4, 1) := by decide +kernel
theorem d_Tokens_takeNumber_72 : decode b_Tokens_takeNumber 72 = .ok (.if_icmp .le 7, 3) := by decide +kernel
theorem d_Tokens_takeNumber_75 : decode b_Tokens_takeNumber 75 = .ok (.iconst 1, 1) := by decide +kernel
theorem d_Tokens_takeNumber_76 : decode b_Tokens_takeNumber 76 = .ok (.goto 4, 3) := by decide +kernel
theorem d_Tokens_takeNumber_79 : decode b_Tokens_takeNumber 79 = .ok (.iconst 2, 1) := by decide +kernel
theorem d_Tokens_takeNumber_80 : decode b_Tokens_takeNumber 80 = .ok (.iload_n 2, 1) := by decide +kernel
theorem d_Tokens_takeNumber_81 : decode b_Tokens_takeNumber 81 = .ok (.iload_n 1, 1) := by decide +kernel
theorem d_Tokens_takeNumber_82 : decode b_Tokens_takeNumber 82 = .ok (.invokevirtual 54, 3) := by decide +kernel
theorem d_Tokens_takeNumber_85 : decode b_Tokens_takeNumber 85 = .ok (.return_, 1) := by decide +kernel
section S_Tokens_takeNumber
variable {p : Program} {l : Launch} {e : Env} {s : State} {m : MethodId} {args : Array Value} {below : List Frame} {meth : Method} {c : Code} {D : va_G} {cA : Nat → ClassId} {ad : Nat → Nat} {nC : Nat} {A : Nat → Prop} {τ : St}
noncomputable def F_Tokens_takeNumber_80 (s0 : St) (v1 : Int32) (v2 : Int32) (t1 : Int32) : Option St := (ob1 (F_Tokens_add s0 t1 v2 v1) (fun s_3 => (some s_3)))
set_option maxHeartbeats 4000000 in
set_option maxRecDepth 100000 in
theorem q_Tokens_takeNumber_80 (hn : 7 ≤ nC) (K : Fx p s m args meth c b_Tokens_takeNumber 4 R_Tokens none)  : ∀ (H : Heap) (locs : List Loc) (ls : Array Slot) (s0 : St) (v1 : Int32) (v2 : Int32) (t1 : Int32), Wh D cA ad (shC.take nC) A s s0 H locs → lv_has ls 4 [(1, .int v1), (2, .int v2)] → F_Tokens_takeNumber_80 s0 v1 v2 t1 = (some τ) → W p l e rm_Tokens_takeNumber s m args below meth c H locs 0 0 (MQ below (QcV D cA ad (shC.take nC) A τ) args s 0 0 A) (F0 m 80 ls [.int t1, .ref (ad 3)]) := by
  have hx := K.1.1; have hb := K.1.2.1
  intro H locs ls s0 v1 v2 t1 hw hl hF
  unfold F_Tokens_takeNumber_80 at hF
  refine lv_iload_n hx hb d_Tokens_takeNumber_80 rfl (lv_at hl 1 rfl) ?_
  refine lv_iload_n hx hb d_Tokens_takeNumber_81 rfl (lv_at hl 0 rfl) ?_
  obtain ⟨s_3, h_s_3, hF⟩ := ob1E hF
  refine r_callVV (As := [.int t1, .int v2, .int v1]) (rest := []) K hw hl.1 (c_Tokens_add (l := l) (D := D) (cA := cA) (ad := ad) (s0 := s0) (Nat.le_trans (Nat.le_of_ble_eq_true rfl) hn)  h_s_3) (sh_Tokens (Nat.le_trans (Nat.le_of_ble_eq_true rfl) hn)) rfl (tb_gV w_361 w_363 w_2 w_74 w_364) a_Tokens_add ⟨rfl, rfl, Nat.le_of_ble_eq_true rfl, Nat.le_of_ble_eq_true rfl⟩ rfl rfl (Nat.le_of_ble_eq_true rfl) d_Tokens_takeNumber_82 (fun H locs hw => ?_)
  replace hF := sE1 hF
  subst hF
  exact r_vret K hw d_Tokens_takeNumber_85
noncomputable def F_Tokens_takeNumber_64 (s0 : St) (v1 : Int32) (v2 : Int32) : Option St := (if ((s0.1 3 5) - v1) ≤ (4 : Int32) then (F_Tokens_takeNumber_80 s0 v1 v2 (2 : Int32)) else (F_Tokens_takeNumber_80 s0 v1 v2 (1 : Int32)))
set_option maxHeartbeats 4000000 in
set_option maxRecDepth 100000 in
theorem q_Tokens_takeNumber_64 (hn : 7 ≤ nC) (K : Fx p s m args meth c b_Tokens_takeNumber 4 R_Tokens none)  : ∀ (H : Heap) (locs : List Loc) (ls : Array Slot) (s0 : St) (v1 : Int32) (v2 : Int32), Wh D cA ad (shC.take nC) A s s0 H locs → lv_has ls 4 [(0, .ref (ad 3)), (1, .int v1), (2, .int v2)] → F_Tokens_takeNumber_64 s0 v1 v2 = (some τ) → W p l e rm_Tokens_takeNumber s m args below meth c H locs 0 0 (MQ below (QcV D cA ad (shC.take nC) A τ) args s 0 0 A) (F0 m 64 ls []) := by
  have hx := K.1.1; have hb := K.1.2.1
  intro H locs ls s0 v1 v2 hw hl hF
  unfold F_Tokens_takeNumber_64 at hF
  refine lv_aload_n hx hb d_Tokens_takeNumber_64 rfl (lv_at hl 0 rfl) ?_
  refine lv_aload_n hx hb d_Tokens_takeNumber_65 rfl (lv_at hl 0 rfl) ?_
  refine r_get (v := .int (s0.1 3 5)) K hw i_Tokens (sh_Tokens (Nat.le_trans (Nat.le_of_ble_eq_true rfl) hn)) rfl 5 (by decide) w_293 rfl rfl rfl d_Tokens_takeNumber_66 ?_
  refine lv_iload_n hx hb d_Tokens_takeNumber_69 rfl (lv_at hl 1 rfl) ?_
  refine lv_isub hx hb d_Tokens_takeNumber_70 ?_
  refine lv_iconst (v := 4) hx hb d_Tokens_takeNumber_71 (by decide) ?_
  refine lv_icmp_le (tgt := 79) hx hb d_Tokens_takeNumber_72 (by decide) (fun c_2 => ?_) (fun c_2 => ?_)
  · replace hF := ifT hF c_2
    refine lv_iconst (v := 2) hx hb d_Tokens_takeNumber_79 (by decide) ?_
    exact q_Tokens_takeNumber_80 hn K _ _ _ _ _ _ _  hw (lv_sub hl [1, 2] rfl) hF
  · replace hF := ifF hF c_2
    refine lv_iconst (v := 1) hx hb d_Tokens_takeNumber_75 (by decide) ?_
    refine lv_goto (tgt := 80) hx hb d_Tokens_takeNumber_76 (by decide) ?_
    exact q_Tokens_takeNumber_80 hn K _ _ _ _ _ _ _  hw (lv_sub hl [1, 2] rfl) hF
noncomputable def F_Tokens_takeNumber_9 : Nat → St → Int32 → Int32 → Int32 → Option St
  | 0, _, _, _, _ => none
  | n + 1, s0, v1, v2, v3 => (if (s0.1 0 1) ≤ v3 then (F_Tokens_takeNumber_64 s0 v1 v2) else (ob1 (F_Tape_isDigit s0 v3) (fun r_4 => (if r_4 = 0 then (F_Tokens_takeNumber_64 s0 v1 v2) else (ob1 (F_Tape_at s0 v3) (fun r_6 => (lt (up1 s0 3 5 ((s0.1 3 5) + (1 : Int32))) (fun s_7 => (F_Tokens_takeNumber_9 n s_7 v1 ((((10 : Int32) * v2) + r_6) - (48 : Int32)) (v3 + 1))))))))))
set_option maxHeartbeats 4000000 in
set_option maxRecDepth 100000 in
theorem q_Tokens_takeNumber_9 (hn : 7 ≤ nC) (K : Fx p s m args meth c b_Tokens_takeNumber 4 R_Tokens none)  : ∀ (n : Nat), ∀ (H : Heap) (locs : List Loc) (ls : Array Slot) (s0 : St) (v1 : Int32) (v2 : Int32) (v3 : Int32), Wh D cA ad (shC.take nC) A s s0 H locs → lv_has ls 4 [(0, .ref (ad 3)), (1, .int v1), (2, .int v2), (3, .int v3)] → F_Tokens_takeNumber_9 n s0 v1 v2 v3 = (some τ) → W p l e rm_Tokens_takeNumber s m args below meth c H locs 0 0 (MQ below (QcV D cA ad (shC.take nC) A τ) args s 0 0 A) (F0 m 9 ls []) := by
  have hx := K.1.1; have hb := K.1.2.1
  intro n
  induction n with
  | zero =>
    intro H locs ls s0 v1 v2 v3 hw hl hF
    exact absurd hF (by rw [F_Tokens_takeNumber_9]; exact nofun)
  | succ n ih =>
    intro H locs ls s0 v1 v2 v3 hw hl hF
    rw [F_Tokens_takeNumber_9] at hF
    refine lv_iload_n hx hb d_Tokens_takeNumber_9 rfl (lv_at hl 3 rfl) ?_
    refine lv_aload_n hx hb d_Tokens_takeNumber_10 rfl (lv_at hl 0 rfl) ?_
    refine r_get (v := .ref (ad 0)) K hw i_Tokens (sh_Tokens (Nat.le_trans (Nat.le_of_ble_eq_true rfl) hn)) rfl 0 (by decide) w_288 rfl rfl rfl d_Tokens_takeNumber_11 ?_
    refine r_get (v := .int (s0.1 0 1)) K hw i_Tape (sh_Tape (Nat.le_trans (Nat.le_of_ble_eq_true rfl) hn)) rfl 1 (by decide) w_103 rfl rfl rfl d_Tokens_takeNumber_14 ?_
    refine lv_icmp_ge (tgt := 64) hx hb d_Tokens_takeNumber_17 (by decide) (fun c_1 => ?_) (fun c_1 => ?_)
    · replace hF := ifT hF c_1
      exact q_Tokens_takeNumber_64 hn K _ _ _ _ _ _  hw (lv_sub hl [0, 1, 2] rfl) hF
    · replace hF := ifF hF c_1
      refine lv_aload_n hx hb d_Tokens_takeNumber_20 rfl (lv_at hl 0 rfl) ?_
      refine r_get (v := .ref (ad 0)) K hw i_Tokens (sh_Tokens (Nat.le_trans (Nat.le_of_ble_eq_true rfl) hn)) rfl 0 (by decide) w_288 rfl rfl rfl d_Tokens_takeNumber_21 ?_
      refine lv_iload_n hx hb d_Tokens_takeNumber_24 rfl (lv_at hl 3 rfl) ?_
      obtain ⟨r_4, h_r_4, hF⟩ := ob1E hF
      refine r_callVI (As := [.int v3]) (rest := []) K hw hl.1 (c_Tape_isDigit (l := l) (D := D) (cA := cA) (ad := ad) (s0 := s0) (Nat.le_trans (Nat.le_of_ble_eq_true rfl) hn)  h_r_4) (sh_Tape (Nat.le_trans (Nat.le_of_ble_eq_true rfl) hn)) rfl (tb_gV w_365 w_366 w_367 w_64 w_368) a_Tape_isDigit ⟨rfl, rfl, Nat.le_of_ble_eq_true rfl, Nat.le_of_ble_eq_true rfl⟩ rfl rfl (Nat.le_of_ble_eq_true rfl) d_Tokens_takeNumber_25 (fun H locs hw => ?_)
      refine lv_if_eq (tgt := 64) hx hb d_Tokens_takeNumber_28 (by decide) (fun c_5 => ?_) (fun c_5 => ?_)
      · replace hF := ifT hF c_5
        exact q_Tokens_takeNumber_64 hn K _ _ _ _ _ _  hw (lv_sub hl [0, 1, 2] rfl) hF
      · replace hF := ifF hF c_5
        refine lv_bipush (v := 10) hx hb d_Tokens_takeNumber_31 (by decide) ?_
        refine lv_iload_n hx hb d_Tokens_takeNumber_33 rfl (lv_at hl 2 rfl) ?_
        refine lv_imul hx hb d_Tokens_takeNumber_34 ?_
        refine lv_aload_n hx hb d_Tokens_takeNumber_35 rfl (lv_at hl 0 rfl) ?_
        refine r_get (v := .ref (ad 0)) K hw i_Tokens (sh_Tokens (Nat.le_trans (Nat.le_of_ble_eq_true rfl) hn)) rfl 0 (by decide) w_288 rfl rfl rfl d_Tokens_takeNumber_36 ?_
        refine lv_iload_n hx hb d_Tokens_takeNumber_39 rfl (lv_at hl 3 rfl) ?_
        obtain ⟨r_6, h_r_6, hF⟩ := ob1E hF
        refine r_callVI (As := [.int v3]) (rest := [.int ((10 : Int32) * v2)]) K hw hl.1 (c_Tape_at (l := l) (D := D) (cA := cA) (ad := ad) (s0 := s0) (Nat.le_trans (Nat.le_of_ble_eq_true rfl) hn)  h_r_6) (sh_Tape (Nat.le_trans (Nat.le_of_ble_eq_true rfl) hn)) rfl (tb_gV w_360 w_339 w_340 w_64 w_341) a_Tape_at ⟨rfl, rfl, Nat.le_of_ble_eq_true rfl, Nat.le_of_ble_eq_true rfl⟩ rfl rfl (Nat.le_of_ble_eq_true rfl) d_Tokens_takeNumber_40 (fun H locs hw => ?_)
        refine lv_iadd hx hb d_Tokens_takeNumber_43 ?_
        refine lv_bipush (v := 48) hx hb d_Tokens_takeNumber_44 (by decide) ?_
        refine lv_isub hx hb d_Tokens_takeNumber_46 ?_
        refine lv_istore_n (lv' := [(2, .int ((((10 : Int32) * v2) + r_6) - (48 : Int32))), (0, .ref (ad 3)), (1, .int v1), (3, .int v3)]) hx hb d_Tokens_takeNumber_47 rfl hl (by decide) rfl (fun ls hl => ?_)
        refine lv_aload_n hx hb d_Tokens_takeNumber_48 rfl (lv_at hl 1 rfl) ?_
        refine lv_dup hx hb d_Tokens_takeNumber_49 rfl ?_
        refine r_get (v := .int (s0.1 3 5)) K hw i_Tokens (sh_Tokens (Nat.le_trans (Nat.le_of_ble_eq_true rfl) hn)) rfl 5 (by decide) w_293 rfl rfl rfl d_Tokens_takeNumber_50 ?_
        refine lv_iconst (v := 1) hx hb d_Tokens_takeNumber_53 (by decide) ?_
        refine lv_iadd hx hb d_Tokens_takeNumber_54 ?_
        refine r_putI K hw i_Tokens t_Tokens t_Tokens_ok n_Tokens (sh_Tokens (Nat.le_trans (Nat.le_of_ble_eq_true rfl) hn)) rfl 5 (by decide) w_293 rfl rfl rfl rfl rfl d_Tokens_takeNumber_55 (fun s_7 f_s_7 H locs hw => ?_)
        replace hF := ltN hF f_s_7
        refine lv_iinc (v := (v3 + 1)) (lv' := [(3, .int (v3 + 1)), (2, .int ((((10 : Int32) * v2) + r_6) - (48 : Int32))), (0, .ref (ad 3)), (1, .int v1)]) hx hb d_Tokens_takeNumber_58 hl (k := 3) rfl rfl (by decide) rfl (fun ls hl => ?_)
        refine lv_goto (tgt := 9) hx hb d_Tokens_takeNumber_61 (by decide) ?_
        exact ih _ _ _ _ _ _ _  hw (lv_sub hl [2, 3, 1, 0] rfl) hF
noncomputable def F_Tokens_takeNumber_0 (s0 : St) : Option St := (F_Tokens_takeNumber_9 FU s0 (s0.1 3 5) (0 : Int32) (s0.1 3 5))
set_option maxHeartbeats 4000000 in
set_option maxRecDepth 100000 in
theorem q_Tokens_takeNumber_0 (hn : 7 ≤ nC) (K : Fx p s m args meth c b_Tokens_takeNumber 4 R_Tokens none)  : ∀ (H : Heap) (locs : List Loc) (ls : Array Slot) (s0 : St), Wh D cA ad (shC.take nC) A s s0 H locs → lv_has ls 4 [(0, .ref (ad 3))] → F_Tokens_takeNumber_0 s0 = (some τ) → W p l e rm_Tokens_takeNumber s m args below meth c H locs 0 0 (MQ below (QcV D cA ad (shC.take nC) A τ) args s 0 0 A) (F0 m 0 ls []) := by
  have hx := K.1.1; have hb := K.1.2.1
  intro H locs ls s0 hw hl hF
  unfold F_Tokens_takeNumber_0 at hF
  refine lv_aload_n hx hb d_Tokens_takeNumber_0 rfl (lv_at hl 0 rfl) ?_
  refine r_get (v := .int (s0.1 3 5)) K hw i_Tokens (sh_Tokens (Nat.le_trans (Nat.le_of_ble_eq_true rfl) hn)) rfl 5 (by decide) w_293 rfl rfl rfl d_Tokens_takeNumber_1 ?_
  refine lv_istore_n (lv' := [(1, .int (s0.1 3 5)), (0, .ref (ad 3))]) hx hb d_Tokens_takeNumber_4 rfl hl (by decide) rfl (fun ls hl => ?_)
  refine lv_iconst (v := 0) hx hb d_Tokens_takeNumber_5 (by decide) ?_
  refine lv_istore_n (lv' := [(2, .int (0 : Int32)), (1, .int (s0.1 3 5)), (0, .ref (ad 3))]) hx hb d_Tokens_takeNumber_6 rfl hl (by decide) rfl (fun ls hl => ?_)
  refine lv_iload_n hx hb d_Tokens_takeNumber_7 rfl (lv_at hl 1 rfl) ?_
  refine lv_istore_n (lv' := [(3, .int (s0.1 3 5)), (2, .int (0 : Int32)), (1, .int (s0.1 3 5)), (0, .ref (ad 3))]) hx hb d_Tokens_takeNumber_8 rfl hl (by decide) rfl (fun ls hl => ?_)
  exact q_Tokens_takeNumber_9 hn K FU _ _ _ _ _ _ _  hw (lv_sub hl [3, 2, 1, 0] rfl) hF
end S_Tokens_takeNumber
noncomputable abbrev F_Tokens_takeNumber := F_Tokens_takeNumber_0
theorem c_Tokens_takeNumber {l : Launch} {D : va_G} {cA : Nat → ClassId} {ad : Nat → Nat} {s0 τ : St} {nC : Nat} (hn : 7 ≤ nC)   (hF : F_Tokens_takeNumber s0 = (some τ)) : MV l D cA ad (shC.take nC) y_Tokens_takeNumber (wT y_Tokens_takeNumber b_Tokens_takeNumber 4 none) rm_Tokens_takeNumber [.ref (ad 3)] s0 τ := fun sz => m_start (Qc := fun A => QcV D cA ad (shC.take nC) A τ) (by decide +kernel) w_372 (Nat.le_of_ble_eq_true rfl) (fun p e s m below meth c ls K hl hw => q_Tokens_takeNumber_0 hn K _ _ _ _   hw hl hF)
