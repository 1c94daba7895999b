/-! ===== what the Statement gives of the start ===== -/
noncomputable abbrev FLT : List Cond := flatC (Jvm.Cond.and given_1 narrow_1)
def tmS (i : Nat) : Term := match i with
  | 0 => .string "ArmAgainstArm" 46
  | 1 => .string "ArmAgainstArm$Tokens" 62
  | _ => .string "ArmAgainstArm$Tokens" 78
abbrev tmK : Term := .static "ArmAgainstArm" "KIND_ABOVE" "[I"
theorem fl_cs : Cond.eq (.static "java/lang/String" "COMPACT_STRINGS" "Z") (.int 1) ∈ FLT := List.mem_of_getElem? (i := 4) (by decide +kernel)
theorem fl_sf : Cond.isRef (.static "jdk/internal/util/Preconditions" "SIOOBE_FORMATTER" "Ljava/util/function/BiFunction;") ∈ FLT := List.mem_of_getElem? (i := 5) (by decide +kernel)
theorem fl_ka : Cond.arrayOf tmK .int ∈ FLT := List.mem_of_getElem? (i := 10) (by decide +kernel)
theorem fl_kl : Cond.eq (.length tmK) (.int (Int32.ofNat 6)) ∈ FLT := List.mem_of_getElem? (i := 11) (by decide +kernel)
theorem fl_ke : ∀ j, j < 6 → FLT[12 + j]? = some (Cond.eq (.elem tmK (.int (Int32.ofNat j))) (.int (kaF j))) := by decide +kernel
theorem fl_x0 : Cond.exactly (tmS 0) "java/lang/String" ∈ FLT := List.mem_of_getElem? (i := 54) (by decide +kernel)
theorem fl_c0 : Cond.eq (.field (tmS 0) "java/lang/String" "coder" "B") (.int 0) ∈ FLT := List.mem_of_getElem? (i := 55) (by decide +kernel)
theorem fl_a0 : Cond.arrayOf (.field (tmS 0) "java/lang/String" "value" "[B") .byte ∈ FLT := List.mem_of_getElem? (i := 56) (by decide +kernel)
theorem fl_l0 : Cond.eq (.length (.field (tmS 0) "java/lang/String" "value" "[B")) (.int (Int32.ofNat (SLEN.getD 0 0))) ∈ FLT := List.mem_of_getElem? (i := 57) (by decide +kernel)
theorem fl_e0 : ∀ j, j < 62 → FLT[58 + j]? = some (Cond.eq (.elem (.field (tmS 0) "java/lang/String" "value" "[B") (.int (Int32.ofNat j))) (.int ((SBYT.getD 0 []).getD j 0))) := by decide +kernel
theorem fl_x1 : Cond.exactly (tmS 1) "java/lang/String" ∈ FLT := List.mem_of_getElem? (i := 120) (by decide +kernel)
theorem fl_c1 : Cond.eq (.field (tmS 1) "java/lang/String" "coder" "B") (.int 0) ∈ FLT := List.mem_of_getElem? (i := 121) (by decide +kernel)
theorem fl_a1 : Cond.arrayOf (.field (tmS 1) "java/lang/String" "value" "[B") .byte ∈ FLT := List.mem_of_getElem? (i := 122) (by decide +kernel)
theorem fl_l1 : Cond.eq (.length (.field (tmS 1) "java/lang/String" "value" "[B")) (.int (Int32.ofNat (SLEN.getD 1 0))) ∈ FLT := List.mem_of_getElem? (i := 123) (by decide +kernel)
theorem fl_e1 : ∀ j, j < 62 → FLT[124 + j]? = some (Cond.eq (.elem (.field (tmS 1) "java/lang/String" "value" "[B") (.int (Int32.ofNat j))) (.int ((SBYT.getD 1 []).getD j 0))) := by decide +kernel
theorem fl_x2 : Cond.exactly (tmS 2) "java/lang/String" ∈ FLT := List.mem_of_getElem? (i := 187) (by decide +kernel)
theorem fl_c2 : Cond.eq (.field (tmS 2) "java/lang/String" "coder" "B") (.int 0) ∈ FLT := List.mem_of_getElem? (i := 188) (by decide +kernel)
theorem fl_a2 : Cond.arrayOf (.field (tmS 2) "java/lang/String" "value" "[B") .byte ∈ FLT := List.mem_of_getElem? (i := 189) (by decide +kernel)
theorem fl_l2 : Cond.eq (.length (.field (tmS 2) "java/lang/String" "value" "[B")) (.int (Int32.ofNat (SLEN.getD 2 0))) ∈ FLT := List.mem_of_getElem? (i := 190) (by decide +kernel)
theorem fl_e2 : ∀ j, j < 8 → FLT[191 + j]? = some (Cond.eq (.elem (.field (tmS 2) "java/lang/String" "value" "[B") (.int (Int32.ofNat j))) (.int ((SBYT.getD 2 []).getD j 0))) := by decide +kernel
theorem fl_n01 : Cond.not (Cond.eq (tmS 0) (tmS 1)) ∈ FLT := List.mem_of_getElem? (i := 186) (by decide +kernel)
theorem fl_n02 : Cond.not (Cond.eq (tmS 0) (tmS 2)) ∈ FLT := List.mem_of_getElem? (i := 199) (by decide +kernel)
theorem fl_n12 : Cond.not (Cond.eq (tmS 1) (tmS 2)) ∈ FLT := List.mem_of_getElem? (i := 200) (by decide +kernel)
theorem nws_tb : ∀ w ∈ NWS, w ∈ lw_tbl ∧ w.onTables = true := by
  intro w hw
  have h1 : (NWS.all fun w => w.onTables) = true := by decide +kernel
  refine ⟨?_, List.all_eq_true.mp h1 w hw⟩
  rw [show NWS = [97, 115, 138, 185, 346, 682, 701, 703, 759, 770, 771, 889, 910].filterMap (fun i => lw_tbl[i]?) by decide +kernel] at hw
  obtain ⟨i, -, hi⟩ := List.mem_filterMap.mp hw
  exact List.mem_of_getElem? hi
theorem in_Arm : Cond.instantiable R_Arm 10 ∈ lw_tbl := List.mem_of_getElem? (i := 137) (by decide +kernel)
theorem in_Bout : Cond.instantiable R_Bout 7 ∈ lw_tbl := List.mem_of_getElem? (i := 497) (by decide +kernel)
theorem in_Image : Cond.instantiable R_Image 5 ∈ lw_tbl := List.mem_of_getElem? (i := 114) (by decide +kernel)
theorem in_Reader : Cond.instantiable R_Reader 4 ∈ lw_tbl := List.mem_of_getElem? (i := 277) (by decide +kernel)
theorem in_Seeker : Cond.instantiable R_Seeker 8 ∈ lw_tbl := List.mem_of_getElem? (i := 564) (by decide +kernel)
theorem in_Sheet : Cond.instantiable R_Sheet 3 ∈ lw_tbl := List.mem_of_getElem? (i := 184) (by decide +kernel)
theorem in_Side : Cond.instantiable R_Side 5 ∈ lw_tbl := List.mem_of_getElem? (i := 503) (by decide +kernel)
theorem in_Tape : Cond.instantiable R_Tape 2 ∈ lw_tbl := List.mem_of_getElem? (i := 96) (by decide +kernel)
theorem in_Text : Cond.instantiable R_Text 5 ∈ lw_tbl := List.mem_of_getElem? (i := 202) (by decide +kernel)
theorem in_Tokens : Cond.instantiable R_Tokens 6 ∈ lw_tbl := List.mem_of_getElem? (i := 283) (by decide +kernel)
theorem in_Main : Cond.instantiable R_Main 11 ∈ lw_tbl := List.mem_of_getElem? (i := 84) (by decide +kernel)
theorem in_Model : Cond.instantiable R_Model 45 ∈ lw_tbl := List.mem_of_getElem? (i := 973) (by decide +kernel)
theorem tl_ai : Cond.arrayClass .int ∈ lw_tbl := List.mem_of_getElem? (i := 110) (by decide +kernel)
theorem tl_oArm : Cond.arrayOver (.object "ArmAgainstArm$Arm") ∈ lw_tbl := List.mem_of_getElem? (i := 92) (by decide +kernel)
theorem tl_oText : Cond.arrayOver (.object "ArmAgainstArm$Text") ∈ lw_tbl := List.mem_of_getElem? (i := 94) (by decide +kernel)
theorem tl_oSheet : Cond.arrayOver (.object "ArmAgainstArm$Sheet") ∈ lw_tbl := List.mem_of_getElem? (i := 112) (by decide +kernel)
theorem tl_lk : Cond.laysStatic R_Main "KIND_ABOVE" "[I" ∈ lw_tbl := List.mem_of_getElem? (i := 702) (by decide +kernel)
theorem tl_lc : Cond.laysStatic "java/lang/String" "COMPACT_STRINGS" "Z" ∈ lw_tbl := List.mem_of_getElem? (i := 233) (by decide +kernel)
theorem tl_ls : Cond.laysStatic "jdk/internal/util/Preconditions" "SIOOBE_FORMATTER" "Ljava/util/function/BiFunction;" ∈ lw_tbl := List.mem_of_getElem? (i := 249) (by decide +kernel)
theorem tl_im : Cond.initialized R_Main ∈ lw_tbl := List.mem_of_getElem? (i := 63) (by decide +kernel)
theorem tl_is : Cond.initialized "java/lang/String" ∈ lw_tbl := List.mem_of_getElem? (i := 69) (by decide +kernel)
theorem tl_ip : Cond.initialized "jdk/internal/util/Preconditions" ∈ lw_tbl := List.mem_of_getElem? (i := 71) (by decide +kernel)
theorem tl_r0 : Cond.stringRef R_Main 46 STX0 ∈ lw_tbl := List.mem_of_getElem? (i := 223) (by decide +kernel)
theorem tl_r1 : Cond.stringRef R_Tokens 62 STX1 ∈ lw_tbl := List.mem_of_getElem? (i := 357) (by decide +kernel)
theorem tl_r2 : Cond.stringRef R_Tokens 78 STX2 ∈ lw_tbl := List.mem_of_getElem? (i := 377) (by decide +kernel)
theorem vk_S_congr {N : Nat} {len : List Nat} {byt : List (List Int32)} {k1 v1 k2 v2 : Nat → Nat} {A : Nat → Prop} {U : State} {H : Heap} (h : vk_S N len byt k1 v1 A U H) (e1 : ∀ i, i < N → k2 i = k1 i) (e2 : ∀ i, i < N → v2 i = v1 i) : vk_S N len byt k2 v2 A U H := by
  refine ⟨fun i hi => ?_, fun i j hi hj e => h.2 i j hi hj (by rw [← e1 i hi, ← e1 j hj]; exact e)⟩
  rw [e1 i hi, e2 i hi]
  exact h.1 i hi
theorem known {b : Nat} {s : State} (hts : ∀ w ∈ lw_tbl, w.before #[Value.ref b] s = true) : ∃ (D : va_G) (cA : Nat → ClassId), va_K D CLS (TYS cA) s := by
  have tb : ∀ {ws : List Cond}, (∀ w ∈ ws, w ∈ TB) → ∀ w ∈ ws, w ∈ lw_tbl := fun h w hw => (List.mem_filter.mp (h w hw)).1
  obtain ⟨c0, i0, k0⟩ := u_known hts (tb i_Arm) (hts _ in_Arm)
  obtain ⟨c1, i1, k1⟩ := u_known hts (tb i_Bout) (hts _ in_Bout)
  obtain ⟨c2, i2, k2⟩ := u_known hts (tb i_Image) (hts _ in_Image)
  obtain ⟨c3, i3, k3⟩ := u_known hts (tb i_Reader) (hts _ in_Reader)
  obtain ⟨c4, i4, k4⟩ := u_known hts (tb i_Seeker) (hts _ in_Seeker)
  obtain ⟨c5, i5, k5⟩ := u_known hts (tb i_Sheet) (hts _ in_Sheet)
  obtain ⟨c6, i6, k6⟩ := u_known hts (tb i_Side) (hts _ in_Side)
  obtain ⟨c7, i7, k7⟩ := u_known hts (tb i_Tape) (hts _ in_Tape)
  obtain ⟨c8, i8, k8⟩ := u_known hts (tb i_Text) (hts _ in_Text)
  obtain ⟨c9, i9, k9⟩ := u_known hts (tb i_Tokens) (hts _ in_Tokens)
  obtain ⟨c10, i10, k10⟩ := u_known hts (tb i_Main) (hts _ in_Main)
  obtain ⟨c11, i11, k11⟩ := u_known hts (tb i_Model) (hts _ in_Model)
  obtain ⟨a0, kk0, comp0, x1, x2, x3⟩ := Cond.arrayClass_spec (type := .int) (hts _ tl_ai)
  obtain ⟨comp1, a1, kk1, y11, -, y13, y14, y15⟩ := Cond.arrayOver_spec (n := "ArmAgainstArm$Arm") (hts _ tl_oArm)
  obtain ⟨comp2, a2, kk2, y21, -, y23, y24, y25⟩ := Cond.arrayOver_spec (n := "ArmAgainstArm$Text") (hts _ tl_oText)
  obtain ⟨comp3, a3, kk3, y31, -, y33, y34, y35⟩ := Cond.arrayOver_spec (n := "ArmAgainstArm$Sheet") (hts _ tl_oSheet)
  refine ⟨(fun c => match c with | 0 => c0 | 1 => c1 | 2 => c2 | 3 => c3 | 4 => c4 | 5 => c5 | 6 => c6 | 7 => c7 | 8 => c8 | 9 => c9 | 10 => c10 | _ => c11, fun c => match c with | 0 => i0 | 1 => i1 | 2 => i2 | 3 => i3 | 4 => i4 | 5 => i5 | 6 => i6 | 7 => i7 | 8 => i8 | 9 => i9 | 10 => i10 | _ => i11), fun k => match k with | 0 => a0 | 1 => a1 | 2 => a2 | _ => a3, fun c q hq => ?_, fun k q hq => ?_⟩
  · match c, hq with
    | 0, hq => obtain rfl := Option.some.inj hq; exact k0
    | 1, hq => obtain rfl := Option.some.inj hq; exact k1
    | 2, hq => obtain rfl := Option.some.inj hq; exact k2
    | 3, hq => obtain rfl := Option.some.inj hq; exact k3
    | 4, hq => obtain rfl := Option.some.inj hq; exact k4
    | 5, hq => obtain rfl := Option.some.inj hq; exact k5
    | 6, hq => obtain rfl := Option.some.inj hq; exact k6
    | 7, hq => obtain rfl := Option.some.inj hq; exact k7
    | 8, hq => obtain rfl := Option.some.inj hq; exact k8
    | 9, hq => obtain rfl := Option.some.inj hq; exact k9
    | 10, hq => obtain rfl := Option.some.inj hq; exact k10
    | 11, hq => obtain rfl := Option.some.inj hq; exact k11
    | k + 12, hq => have h : k + 12 < 12 := (List.getElem?_eq_some_iff.mp hq).1; exact absurd h (by omega)
  · match k, hq with
    | 0, hq => obtain rfl := Option.some.inj hq; exact ⟨fun N z => ⟨(fun k h => by cases h), kk0, x2, comp0, x3⟩, x1⟩
    | 1, hq => obtain rfl := Option.some.inj hq; exact ⟨fun N z => ⟨(fun k h => by cases h), kk1, y13, comp1, y14⟩, kk1, comp1, y13, y14, y11, y15⟩
    | 2, hq => obtain rfl := Option.some.inj hq; exact ⟨fun N z => ⟨(fun k h => by cases h), kk2, y23, comp2, y24⟩, kk2, comp2, y23, y24, y21, y25⟩
    | 3, hq => obtain rfl := Option.some.inj hq; exact ⟨fun N z => ⟨(fun k h => by cases h), kk3, y33, comp3, y34⟩, kk3, comp3, y33, y34, y31, y35⟩
    | k + 4, hq => have h : k + 4 < 4 := (List.getElem?_eq_some_iff.mp hq).1; exact absurd h (by omega)
theorem consts {b : Nat} {s : State} (hts : ∀ w ∈ lw_tbl, w.before #[Value.ref b] s = true) (hgv : (Jvm.Cond.and given_1 narrow_1).before #[Value.ref b] s = true) : ∃ adc : Nat → Nat, Cst adc (fun q => s.heap.size ≤ q) s s.heap := by
  have hs := flat_of_before _ hgv
  have hA : ∀ a : Nat, a < s.heap.size → ¬ (fun q => s.heap.size ≤ q) a := fun a h z => absurd z (Nat.not_le.mpr h)
  obtain ⟨t, ht, hT⟩ := va_Tof (tm := tmK) (ty := .int) (N := 6) (f := fun j => .int (kaF j)) (by decide) (hs _ fl_ka) (va_eqt (hs _ fl_kl)) (fun j hj => va_eqt (hs _ (List.mem_of_getElem? (fl_ke j hj)))) hA
  obtain ⟨aK, aV, hS, hR⟩ := vk_Sof (args := #[Value.ref b]) (s := s) (N := 3) (tm := tmS) (len := SLEN) (byt := SBYT) (A := fun q => s.heap.size ≤ q)
    (fun i hi => match i, hi with | 0, _ => by decide | 1, _ => by decide | 2, _ => by decide | k + 3, h => absurd h (by omega))
    (fun i hi => match i, hi with | 0, _ => hs _ fl_x0 | 1, _ => hs _ fl_x1 | 2, _ => hs _ fl_x2 | k + 3, h => absurd h (by omega))
    (fun i hi => match i, hi with | 0, _ => (hs _ fl_c0) | 1, _ => (hs _ fl_c1) | 2, _ => (hs _ fl_c2) | k + 3, h => absurd h (by omega))
    (fun i hi => match i, hi with | 0, _ => hs _ fl_a0 | 1, _ => hs _ fl_a1 | 2, _ => hs _ fl_a2 | k + 3, h => absurd h (by omega))
    (fun i hi => match i, hi with | 0, _ => hs _ fl_l0 | 1, _ => hs _ fl_l1 | 2, _ => hs _ fl_l2 | k + 3, h => absurd h (by omega))
    (fun i hi => match i, hi with | 0, _ => fun j hj => hs _ (List.mem_of_getElem? (fl_e0 j hj)) | 1, _ => fun j hj => hs _ (List.mem_of_getElem? (fl_e1 j hj)) | 2, _ => fun j hj => hs _ (List.mem_of_getElem? (fl_e2 j hj)) | k + 3, h => absurd h (by omega))
    (fun i j hi hj hne => match i, j, hi, hj, hne with | 0, 1, _, _, _ => Or.inl (hs _ fl_n01) | 0, 2, _, _, _ => Or.inl (hs _ fl_n02) | 1, 0, _, _, _ => Or.inr (hs _ fl_n01) | 1, 2, _, _, _ => Or.inl (hs _ fl_n12) | 2, 0, _, _, _ => Or.inr (hs _ fl_n02) | 2, 1, _, _, _ => Or.inr (hs _ fl_n12) | 0, 0, _, _, h => absurd rfl h | 1, 1, _, _, h => absurd rfl h | 2, 2, _, _, h => absurd rfl h | k + 3, _, h, _, _ => absurd h (by omega) | _, k + 3, _, h, _ => absurd h (by omega)) hA
  refine ⟨fun k => if k = 100 then t else if k < 104 then aK (k - 101) else aV (k - 104), fun w hw => va_tabs (nws_tb w hw).2 rfl (hts w (nws_tb w hw).1), va_Zof (hts _ tl_lk) (hts _ tl_im) ht hA, hT, vk_S_congr hS (fun i hi => ?_) (fun i hi => ?_), ⟨vk_R.of (hts _ tl_r0) (hR 0 (by decide)), vk_R.of (hts _ tl_r1) (hR 1 (by decide)), vk_R.of (hts _ tl_r2) (hR 2 (by decide))⟩, va_Zof (hts _ tl_lc) (hts _ tl_is) (va_eqt (hs _ fl_cs)) hA, va_Zqof (hts _ tl_ls) (hts _ tl_ip) (hs _ fl_sf) hA⟩
  · show (if 101 + i = 100 then t else if 101 + i < 104 then aK (101 + i - 101) else aV (101 + i - 104)) = aK i
    rw [if_neg (by omega), if_pos (by omega), Nat.add_sub_cancel_left]
  · show (if 104 + i = 100 then t else if 104 + i < 104 then aK (104 + i - 101) else aV (104 + i - 104)) = aV i
    rw [if_neg (by omega), if_neg (by omega), Nat.add_sub_cancel_left]
