/-! ===== the law's loop, the law ===== -/
section LS
variable {p : Program} {l : Launch} {e : Env} {s : State} {m : MethodId} {below : List Frame} {meth : Method} {c : Code} {H : Heap} {locs : List Loc} {Q : State → Prop} {D : va_G} {cA : Nat → ClassId} {u1 u2 : Nat → Nat} {cells slots : Nat} {ls : Array Slot} {rest : List Value} {b L k na nt : Nat} {xs : Nat → Int32} {σ μ : St}
set_option maxHeartbeats 4000000 in
set_option maxRecDepth 100000 in
theorem law_loop (K : Fx p s m #[Value.ref b] meth c code 4 R_law ret) (hC1 : Cst u1 (fun q => s.heap.size ≤ q) s s.heap) (hC2 : Cst u2 (fun q => s.heap.size ≤ q) s s.heap) (hX : va_X b L xs s s.heap) (hbl : b < s.heap.size) (hL : L ≤ 3584) (hcs : cells ≤ room_1.cells ∧ slots ≤ room_1.slots) (kend : ∀ (H : Heap) (locs : List Loc) (ls : Array Slot), va_S (fun q => s.heap.size ≤ q) s.heap H locs → W p l e room_1 s m #[Value.ref b] below meth c H locs cells slots Q (F0 m 1438 ls [])) : ∀ (n k : Nat), L < k + n → k ≤ L → ∀ (H : Heap) (locs : List Loc) (ls : Array Slot) (σ μ : St) (na nt : Nat), Rel σ μ na nt → lv_has ls 4 [(3, .int (nI k)), (2, .ref (u2 0)), (1, .ref (u1 20)), (0, .ref b)] → Wn D cA (fun q => s.heap.size ≤ q) s (Wd cA u1 shC σ ++ Wd cA u2 shM μ) H locs → W p l e room_1 s m #[Value.ref b] below meth c H locs cells slots Q (F0 m 18 ls []) := by
  have hx := K.1.1; have hb := K.1.2.1
  intro n
  induction n with
  | zero => intro k h1 h2; omega
  | succ n ih =>
    intro k h1 h2 H locs ls σ μ na nt h hl hw
    refine lv_iload_n hx hb d_law_18 rfl (lv_at hl 0 rfl) ?_
    refine lv_aload_n hx hb d_law_19 rfl (lv_at hl 3 rfl) ?_
    refine va_slen hx hb hX hbl (show ¬ s.heap.size ≤ b by omega) hw.2.2.2.1 d_law_20 ?_
    refine lv_bipush (v := 7) hx hb d_law_21 rfl ?_
    refine lv_isub hx hb d_law_23 ?_
    refine lv_icmp_gt (tgt := 1438) hx hb d_law_24 (by decide) (fun _ => kend _ _ _ hw.2.2.2.1) (fun hc => ?_)
    have hk : k + 7 ≤ L := law_in hL h2 hc
    refine lv_aload_n hx hb d_law_27 rfl (lv_at hl 3 rfl) ?_
    refine lv_iload_n hx hb d_law_28 rfl (lv_at hl 0 rfl) ?_
    refine va_sld hx hb hX hbl (show ¬ s.heap.size ≤ b by omega) hw.2.2.2.1 (inB_vp (inB_nI (n := L) (by omega) (by omega))) d_law_29 ?_
    refine lv_bipush (v := 63) hx hb d_law_30 rfl ?_
    refine lv_iand hx hb d_law_32 ?_
    refine lv_topi (fun y hy => ?_)
    obtain ⟨j, hj, ej⟩ := and63 (xs (nI k).toNatClampNeg)
    rw [ej] at hy
    subst hy
    have kk : ∀ (H : Heap) (locs : List Loc) (ls : Array Slot) (σ' μ' : St) (na' nt' : Nat), Rel σ' μ' na' nt' → lv_has ls 4 [(3, .int (nI k)), (2, .ref (u2 0)), (1, .ref (u1 20)), (0, .ref b)] → Wn D cA (fun q => s.heap.size ≤ q) s (Wd cA u1 shC σ' ++ Wd cA u2 shM μ') H locs → W p l e room_1 s m #[Value.ref b] below meth c H locs cells slots Q (F0 m 1432 ls []) := by
      intro H locs ls σ' μ' na' nt' h hl hw
      refine lv_iinc (v := nI (k + 7)) (lv' := [(3, .int (nI (k + 7))), (2, .ref (u2 0)), (1, .ref (u1 20)), (0, .ref b)]) hx hb d_law_1432 hl (k := 0) rfl (nI_add k 7) (by decide) rfl (fun ls hl => ?_)
      refine lv_goto (tgt := 18) hx hb d_law_1435 (by decide) ?_
      exact ih (k + 7) (by omega) hk _ _ _ _ _ _ _ h hl hw
    rcases (show j = 0 ∨ j = 1 ∨ j = 2 ∨ j = 3 ∨ j = 4 ∨ j = 5 ∨ j = 6 ∨ j = 7 ∨ j = 8 ∨ j = 9 ∨ j = 10 ∨ j = 11 ∨ j = 12 ∨ j = 13 ∨ j = 14 ∨ j = 15 ∨ j = 16 ∨ j = 17 ∨ j = 18 ∨ j = 19 ∨ j = 20 ∨ j = 21 ∨ j = 22 ∨ j = 23 ∨ j = 24 ∨ j = 25 ∨ j = 26 ∨ j = 27 ∨ j = 28 ∨ j = 29 ∨ j = 30 ∨ j = 31 ∨ j = 32 ∨ 33 ≤ j by omega) with rfl | rfl | rfl | rfl | rfl | rfl | rfl | rfl | rfl | rfl | rfl | rfl | rfl | rfl | rfl | rfl | rfl | rfl | rfl | rfl | rfl | rfl | rfl | rfl | rfl | rfl | rfl | rfl | rfl | rfl | rfl | rfl | rfl | hj33
    · exact lv_tableIn (off := 147) (tgt := 180) hx hb d_law_33 (by decide) (by decide) (by decide +kernel) (by decide) (law_0 K hC1 hC2 hX hbl hL hcs h hk kk hl hw)
    · exact lv_tableIn (off := 170) (tgt := 203) hx hb d_law_33 (by decide) (by decide) (by decide +kernel) (by decide) (law_1 K hC1 hC2 hX hbl hL hcs h hk kk hl hw)
    · exact lv_tableIn (off := 245) (tgt := 278) hx hb d_law_33 (by decide) (by decide) (by decide +kernel) (by decide) (law_2 K hC1 hC2 hX hbl hL hcs h hk kk hl hw)
    · exact lv_tableIn (off := 258) (tgt := 291) hx hb d_law_33 (by decide) (by decide) (by decide +kernel) (by decide) (law_3 K hC1 hC2 hX hbl hL hcs h hk kk hl hw)
    · exact lv_tableIn (off := 281) (tgt := 314) hx hb d_law_33 (by decide) (by decide) (by decide +kernel) (by decide) (law_4 K hC1 hC2 hX hbl hL hcs h hk kk hl hw)
    · exact lv_tableIn (off := 344) (tgt := 377) hx hb d_law_33 (by decide) (by decide) (by decide +kernel) (by decide) (law_5 K hC1 hC2 hX hbl hL hcs h hk kk hl hw)
    · exact lv_tableIn (off := 387) (tgt := 420) hx hb d_law_33 (by decide) (by decide) (by decide +kernel) (by decide) (law_6 K hC1 hC2 hX hbl hL hcs h hk kk hl hw)
    · exact lv_tableIn (off := 430) (tgt := 463) hx hb d_law_33 (by decide) (by decide) (by decide +kernel) (by decide) (law_7 K hC1 hC2 hX hbl hL hcs h hk kk hl hw)
    · exact lv_tableIn (off := 463) (tgt := 496) hx hb d_law_33 (by decide) (by decide) (by decide +kernel) (by decide) (law_8 K hC1 hC2 hX hbl hL hcs h hk kk hl hw)
    · exact lv_tableIn (off := 506) (tgt := 539) hx hb d_law_33 (by decide) (by decide) (by decide +kernel) (by decide) (law_9 K hC1 hC2 hX hbl hL hcs h hk kk hl hw)
    · exact lv_tableIn (off := 549) (tgt := 582) hx hb d_law_33 (by decide) (by decide) (by decide +kernel) (by decide) (law_10 K hC1 hC2 hX hbl hL hcs h hk kk hl hw)
    · exact lv_tableIn (off := 582) (tgt := 615) hx hb d_law_33 (by decide) (by decide) (by decide +kernel) (by decide) (law_11 K hC1 hC2 hX hbl hL hcs h hk kk hl hw)
    · exact lv_tableIn (off := 605) (tgt := 638) hx hb d_law_33 (by decide) (by decide) (by decide +kernel) (by decide) (law_12 K hC1 hC2 hX hbl hL hcs h hk kk hl hw)
    · exact lv_tableIn (off := 648) (tgt := 681) hx hb d_law_33 (by decide) (by decide) (by decide +kernel) (by decide) (law_13 K hC1 hC2 hX hbl hL hcs h hk kk hl hw)
    · exact lv_tableIn (off := 681) (tgt := 714) hx hb d_law_33 (by decide) (by decide) (by decide +kernel) (by decide) (law_14 K hC1 hC2 hX hbl hL hcs h hk kk hl hw)
    · exact lv_tableIn (off := 714) (tgt := 747) hx hb d_law_33 (by decide) (by decide) (by decide +kernel) (by decide) (law_15 K hC1 hC2 hX hbl hL hcs h hk kk hl hw)
    · exact lv_tableIn (off := 747) (tgt := 780) hx hb d_law_33 (by decide) (by decide) (by decide +kernel) (by decide) (law_16 K hC1 hC2 hX hbl hL hcs h hk kk hl hw)
    · exact lv_tableIn (off := 790) (tgt := 823) hx hb d_law_33 (by decide) (by decide) (by decide +kernel) (by decide) (law_17 K hC1 hC2 hX hbl hL hcs h hk kk hl hw)
    · exact lv_tableIn (off := 813) (tgt := 846) hx hb d_law_33 (by decide) (by decide) (by decide +kernel) (by decide) (law_18 K hC1 hC2 hX hbl hL hcs h hk kk hl hw)
    · exact lv_tableIn (off := 836) (tgt := 869) hx hb d_law_33 (by decide) (by decide) (by decide +kernel) (by decide) (law_19 K hC1 hC2 hX hbl hL hcs h hk kk hl hw)
    · exact lv_tableIn (off := 879) (tgt := 912) hx hb d_law_33 (by decide) (by decide) (by decide +kernel) (by decide) (law_20 K hC1 hC2 hX hbl hL hcs h hk kk hl hw)
    · exact lv_tableIn (off := 922) (tgt := 955) hx hb d_law_33 (by decide) (by decide) (by decide +kernel) (by decide) (law_21 K hC1 hC2 hX hbl hL hcs h hk kk hl hw)
    · exact lv_tableIn (off := 955) (tgt := 988) hx hb d_law_33 (by decide) (by decide) (by decide +kernel) (by decide) (law_22 K hC1 hC2 hX hbl hL hcs h hk kk hl hw)
    · exact lv_tableIn (off := 998) (tgt := 1031) hx hb d_law_33 (by decide) (by decide) (by decide +kernel) (by decide) (law_23 K hC1 hC2 hX hbl hL hcs h hk kk hl hw)
    · exact lv_tableIn (off := 1041) (tgt := 1074) hx hb d_law_33 (by decide) (by decide) (by decide +kernel) (by decide) (law_24 K hC1 hC2 hX hbl hL hcs h hk kk hl hw)
    · exact lv_tableIn (off := 1084) (tgt := 1117) hx hb d_law_33 (by decide) (by decide) (by decide +kernel) (by decide) (law_25 K hC1 hC2 hX hbl hL hcs h hk kk hl hw)
    · exact lv_tableIn (off := 1138) (tgt := 1171) hx hb d_law_33 (by decide) (by decide) (by decide +kernel) (by decide) (law_26 K hC1 hC2 hX hbl hL hcs h hk kk hl hw)
    · exact lv_tableIn (off := 1151) (tgt := 1184) hx hb d_law_33 (by decide) (by decide) (by decide +kernel) (by decide) (law_27 K hC1 hC2 hX hbl hL hcs h hk kk hl hw)
    · exact lv_tableIn (off := 1164) (tgt := 1197) hx hb d_law_33 (by decide) (by decide) (by decide +kernel) (by decide) (law_28 K hC1 hC2 hX hbl hL hcs h hk kk hl hw)
    · exact lv_tableIn (off := 1207) (tgt := 1240) hx hb d_law_33 (by decide) (by decide) (by decide +kernel) (by decide) (law_29 K hC1 hC2 hX hbl hL hcs h hk kk hl hw)
    · exact lv_tableIn (off := 1250) (tgt := 1283) hx hb d_law_33 (by decide) (by decide) (by decide +kernel) (by decide) (law_30 K hC1 hC2 hX hbl hL hcs h hk kk hl hw)
    · exact lv_tableIn (off := 1313) (tgt := 1346) hx hb d_law_33 (by decide) (by decide) (by decide +kernel) (by decide) (law_31 K hC1 hC2 hX hbl hL hcs h hk kk hl hw)
    · exact lv_tableIn (off := 1366) (tgt := 1399) hx hb d_law_33 (by decide) (by decide) (by decide +kernel) (by decide) (law_32 K hC1 hC2 hX hbl hL hcs h hk kk hl hw)
    · refine lv_tableOut (tgt := 1432) hx hb d_law_33 (Or.inr ?_) (by decide) (kk _ _ _ _ _ _ _ h hl hw)
      rw [nI_toInt (by omega)]
      omega
end LS
section LE
variable {p : Program} {l : Launch} {e : Env} {s : State} {m : MethodId} {below : List Frame} {meth : Method} {c : Code} {H : Heap} {locs : List Loc} {Q : State → Prop} {D : va_G} {cA : Nat → ClassId} {u1 u2 : Nat → Nat} {ls : Array Slot} {rest : List Value} {b L k na nt : Nat} {xs : Nat → Int32} {σ μ : St}
theorem law_end (hx : p.tables.exec = Jvm.exec) (hb : c.code = code) (hr : meth.sig.returnType = ret) (hlk : meth.locks = false) (hS : va_S (fun q => s.heap.size ≤ q) s.heap H locs) : W p l e room_1 s m #[Value.ref b] below meth c H locs 70 4339 (lw_Z below #[Value.ref b] s) (F0 m 1438 ls []) := by
  refine va_forget hS.2.2 ?_
  refine lv_iconst (v := 1) hx hb d_law_1438 (by decide) ?_
  refine W.widen (k := 600000) (n := 7302250) (Nat.le_of_ble_eq_true rfl) (Nat.le_of_ble_eq_true rfl) ?_
  exact lw_ret hx hb hr hlk d_law_1439
theorem law_body {adc : Nat → Nat} (K : Fx p s m #[Value.ref b] meth c code 4 R_law ret) (hX : va_X b L xs s s.heap) (hbl : b < s.heap.size) (hL : L ≤ 3584) (hC1 : Cst u1 (fun q => s.heap.size ≤ q) s s.heap) (hC2 : Cst u2 (fun q => s.heap.size ≤ q) s s.heap) (h : Rel σ μ na nt) (hl : lv_has ls 4 [(2, .ref (u2 0)), (1, .ref (u1 20)), (0, .ref b)]) (hw : Wn D cA (fun q => s.heap.size ≤ q) s (Wd cA u1 shC σ ++ Wd cA u2 shM μ) H locs) : W p l e room_1 s m #[Value.ref b] below meth c H locs 70 4339 (lw_Z below #[Value.ref b] s) (F0 m 16 ls []) := by
  have hx := K.1.1; have hb := K.1.2.1
  refine lv_iconst (v := 0) hx hb d_law_16 (by decide) ?_
  refine lv_istore_n (lv' := [(3, .int (0)), (2, .ref (u2 0)), (1, .ref (u1 20)), (0, .ref b)]) hx hb d_law_17 rfl hl (by decide) rfl (fun ls hl => ?_)
  exact law_loop K hC1 hC2 hX hbl hL ⟨Nat.le_of_ble_eq_true rfl, Nat.le_of_ble_eq_true rfl⟩ (fun H locs ls hS => law_end hx hb K.2.1 K.2.2 hS) (L + 1) 0 (by omega) (Nat.zero_le _) _ _ _ _ _ _ _ h hl hw
theorem law_second {adc : Nat → Nat} (K : Fx p s m #[Value.ref b] meth c code 4 R_law ret) (hX : va_X b L xs s s.heap) (hbl : b < s.heap.size) (hL : L ≤ 3584) (hC : Cst adc (fun q => s.heap.size ≤ q) s s.heap) (hO : AOs s) (ha1 : ∀ k, 100 ≤ k → u1 k = adc k) {r : Int32} {μ0 : St} (e4 : F_Model_text muB = some (r, μ0)) (h : Rel σ μ0 na nt) (hl : lv_has ls 4 [(1, .ref (u1 20)), (0, .ref b)]) (hw : Wn D cA (fun q => s.heap.size ≤ q) s (Wd cA u1 shC σ) H locs) : W p l e room_1 s m #[Value.ref b] below meth c H locs 50 2130 (lw_Z below #[Value.ref b] s) (F0 m 8 ls []) := by
  have hx := K.1.1; have hb := K.1.2.1
  refine n_new (ci := 11) K hw i_Model t_Model t_Model_ok w_972 w_973 w_80 rfl [.int 0, .null, .null, .null, .null, .null, .null, .int 0, .null, .null, .int 0, .int 0, .int 0, .int 0, .int 0, .null, .null, .null, .null, .null, .null, .int 0, .int 0, .int 0, .int 0, .null, .null, .int 0, .int 0, .int 0, .null, .null, .int 0, .int 0, .int 0, .int 0, .int 0, .int 0, .int 0, .int 0, .int 0, .int 0, .int 0, .int 0, .null] z_Model (Nat.le_of_ble_eq_true rfl) (Nat.le_of_ble_eq_true rfl) d_law_8 (fun q2 H hw => ?_)
  refine lv_dup hx hb d_law_11 rfl ?_
  refine n_ctorCC (ws0 := Wd cA u1 shC σ) K hl.1 hw hC hO (c_Model_init e4) w_974 w_mModel w_iModel w_cModel rfl a_Model_init.2 ⟨rfl, rfl, Nat.le_of_ble_eq_true rfl, Nat.le_of_ble_eq_true rfl⟩ (Nat.le_of_ble_eq_true rfl) ⟨Nat.le_of_ble_eq_true rfl, Nat.le_of_ble_eq_true rfl⟩ d_law_12 (fun u2 H locs hu2 ha2 hw2 => ?_)
  subst hu2
  refine lv_astore_n (lv' := [(2, .ref (u2 0)), (1, .ref (u1 20)), (0, .ref b)]) hx hb d_law_15 rfl hl (by decide) rfl (fun ls hl => ?_)
  exact law_body (adc := adc) K hX hbl hL (hC.ad ha1) (hC.ad ha2) h hl hw2
theorem law_first {adc : Nat → Nat} (K : Fx p s m #[Value.ref b] meth c code 4 R_law ret) (hX : va_X b L xs s s.heap) (hbl : b < s.heap.size) (hL : L ≤ 3584) {r r' : Int32} {τ ρ μ' : St} (e1 : F_Reader_read (sgT 62) = some (r, τ)) (e2 : F_Tape_empty τ = ρ) (e3 : ρ.2 2 1 = 8) (e4 : F_Model_text muB = some (r', μ')) (hR : Rel (sgZ ρ) μ' 0 1) (hC : Cst adc (fun q => s.heap.size ≤ q) s s.heap) (hO : AOs s) (hl : lv_has ls 4 [(0, .ref b)]) (hw : Wn D cA (fun q => s.heap.size ≤ q) s [] H locs) : W p l e room_1 s m #[Value.ref b] below meth c H locs 0 0 (lw_Z below #[Value.ref b] s) (F0 m 0 ls []) := by
  have hx := K.1.1; have hb := K.1.2.1
  refine n_new (ci := 10) K hw i_Main t_Main t_Main_ok w_83 w_84 w_63 rfl [.null, .int 0, .null, .int 0, .int 0, .null, .null, .null, .null, .null, .null] z_Main (Nat.le_of_ble_eq_true rfl) (Nat.le_of_ble_eq_true rfl) d_law_0 (fun q1 H hw => ?_)
  refine lv_dup hx hb d_law_3 rfl ?_
  refine n_ctorCC (ws0 := []) K hl.1 hw hC hO (c_Main_init e1 e2 e3) w_85 w_mMain w_iMain w_cMain rfl a_Main_init.2 ⟨rfl, rfl, Nat.le_of_ble_eq_true rfl, Nat.le_of_ble_eq_true rfl⟩ (Nat.le_of_ble_eq_true rfl) ⟨Nat.le_of_ble_eq_true rfl, Nat.le_of_ble_eq_true rfl⟩ d_law_4 (fun u1 H locs hu1 ha1 hw1 => ?_)
  subst hu1
  refine lv_astore_n (lv' := [(1, .ref (u1 20)), (0, .ref b)]) hx hb d_law_7 rfl hl (by decide) rfl (fun ls hl => ?_)
  exact law_second K hX hbl hL hC hO ha1 e4 hR hl (hw1.cast (List.nil_append _))
end LE
/-- YOUR PART: from the entry, for every script of at most 3584 ints, the law comes to its end with true ('hflags': the launch's flags, for a law that throws: no stack traces) -/
theorem whole_start {p : Program} {e : Env} {s : State} {m : MethodId} {below : List Frame} {meth : Method} {c : Code} (l : Launch) (hflags : l.flags = flags0) {b L : Nat} {xs : Nat → Int32} (hL : L ≤ 3584) (C0 : lw_At p s m meth c b L xs) : W p l e room_1 s m #[Value.ref b] below meth c s.heap [] 0 0 (lw_Z below #[Value.ref b] s) (entryFrame m ([Value.ref b] : List Value).toArray 4) := by
  obtain ⟨hx, hb, hr, hml, hown, hts, hX, hbl, hlk, hgv⟩ := C0
  obtain ⟨D, cA, hK⟩ := known hts
  obtain ⟨adc, hC⟩ := consts hts hgv
  have hO : AOs s := ⟨va_AO.of (hts _ tl_oArm), va_AO.of (hts _ tl_oText), va_AO.of (hts _ tl_oSheet)⟩
  have K : Fx p s m #[Value.ref b] meth c code 4 R_law ret := ⟨⟨hx, hb, hml, hown, fun w hw => hts w (List.mem_filter.mp hw).1⟩, hr, hlk⟩
  have hl := lv_entry [.ref b] (n := 4) (Nat.le_of_ble_eq_true rfl)
  have hw : Wn D cA (fun q => s.heap.size ≤ q) s [] s.heap [] := ⟨hK, (fun k q h => by simp at h), ⟨(fun i j p q h => by simp at h), (fun k q h => by simp at h)⟩, va_S.rf, fun q h => h⟩
  rw [lg_entry_eq]
  obtain ⟨r, τ, ρ, r', μ', e1, e2, e3, e4, hR⟩ := first_rel
  exact law_first K hX hbl hL e1 e2 e3 e4 hR hC hO hl hw
