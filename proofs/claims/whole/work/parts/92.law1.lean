/-! ===== the calls ===== -/
section LC
variable {p : Program} {l : Launch} {e : Env} {s : State} {m : MethodId} {below : List Frame} {meth : Method} {c : Code} {H : Heap} {locs : List Loc} {Q : State → Prop} {D : va_G} {cA : Nat → ClassId} {u1 u2 : Nat → Nat} {cells slots : Nat} {ls : Array Slot} {rest : List Value} {b L k na nt : Nat} {xs : Nat → Int32} {σ μ : St}
set_option maxHeartbeats 1000000 in
theorem law_11 (K : Fx p s m #[Value.ref b] meth c code 4 R_law ret) (hC1 : Cst u1 (fun q => s.heap.size ≤ q) s s.heap) (hC2 : Cst u2 (fun q => s.heap.size ≤ q) s s.heap) (hX : va_X b L xs s s.heap) (hbl : b < s.heap.size) (hL : L ≤ 3584) (hcs : cells ≤ room_1.cells ∧ slots ≤ room_1.slots) (h : Rel σ μ na nt) (hk : k + 7 ≤ L) (kk : ∀ (H : Heap) (locs : List Loc) (ls : Array Slot) (σ' μ' : St) (na' nt' : Nat), Rel σ' μ' na' nt' → lv_has ls 4 [(3, .int (nI k)), (2, .ref (u2 0)), (1, .ref (u1 20)), (0, .ref b)] → Wn D cA (fun q => s.heap.size ≤ q) s (Wd cA u1 shC σ' ++ Wd cA u2 shM μ') H locs → W p l e room_1 s m #[Value.ref b] below meth c H locs cells slots Q (F0 m 1432 ls [])) (hl : lv_has ls 4 [(3, .int (nI k)), (2, .ref (u2 0)), (1, .ref (u1 20)), (0, .ref b)]) (hw : Wn D cA (fun q => s.heap.size ≤ q) s (Wd cA u1 shC σ ++ Wd cA u2 shM μ) H locs) : W p l e room_1 s m #[Value.ref b] below meth c H locs cells slots Q (F0 m 615 ls []) := by
  have hx := K.1.1; have hb := K.1.2.1
  obtain ⟨r, σ', μ', hF1, hF2, hR⟩ := op_rest h (xs (k + 1))
  refine lv_aload_n hx hb d_law_615 rfl (lv_at hl 2 rfl) ?_
  refine law_arg (i := 1) K hX hbl hw.2.2.2.1 (lv_at hl 3 rfl) (lv_at hl 0 rfl) (by decide) hk hL d_law_616 d_law_617 d_law_618 d_law_619 d_law_620 rfl ?_
  refine n_WVI (ws0 := Wd cA u2 shM μ) (As := [.int (xs (k + 1))]) (rest := []) (q := 20) (sh := shC.take 50) K hw.swap hC1 hl.1 (c_Main_rest (l := l) (D := D) (cA := cA) (ad := u1) (s0 := σ) (nC := 50) (Nat.le_of_ble_eq_true rfl) hF1) (sh_Main (Nat.le_of_ble_eq_true rfl)) rfl (tb_gV w_785 w_786 w_787 w_63 w_788) a_Main_rest ⟨rfl, rfl, Nat.le_of_ble_eq_true rfl, Nat.le_of_ble_eq_true rfl⟩ rfl rfl (by decide) hcs d_law_621 (fun H locs hw => ?_)
  have hw : Wn D cA _ s (Wd cA u1 shC σ' ++ Wd cA u2 shM μ) H locs := hw.swap
  refine lv_aload_n hx hb d_law_624 rfl (lv_at hl 1 rfl) ?_
  refine law_arg (i := 1) K hX hbl hw.2.2.2.1 (lv_at hl 3 rfl) (lv_at hl 0 rfl) (by decide) hk hL d_law_625 d_law_626 d_law_627 d_law_628 d_law_629 rfl ?_
  refine n_WVI (ws0 := Wd cA u1 shC σ') (As := [.int (xs (k + 1))]) (rest := [.int r]) (q := 0) K hw hC2 hl.1 (c_Model_rest (l := l) (D := D) (cA := cA) (ad := u2) (s0 := μ) hF2) sh_Model rfl (tb_gV w_1269 w_1270 w_1271 w_80 w_1272) a_Model_rest ⟨rfl, rfl, Nat.le_of_ble_eq_true rfl, Nat.le_of_ble_eq_true rfl⟩ rfl rfl (Nat.le_of_ble_eq_true rfl) hcs d_law_630 (fun H locs hw => ?_)
  refine lv_icmp_eq (tgt := 1432) hx hb d_law_633 (by decide) (fun _ => ?_) (fun z => absurd rfl z)
  exact kk _ _ _ _ _ _ _ hR hl hw
set_option maxHeartbeats 1000000 in
theorem law_12 (K : Fx p s m #[Value.ref b] meth c code 4 R_law ret) (hC1 : Cst u1 (fun q => s.heap.size ≤ q) s s.heap) (hC2 : Cst u2 (fun q => s.heap.size ≤ q) s s.heap) (hX : va_X b L xs s s.heap) (hbl : b < s.heap.size) (hL : L ≤ 3584) (hcs : cells ≤ room_1.cells ∧ slots ≤ room_1.slots) (h : Rel σ μ na nt) (hk : k + 7 ≤ L) (kk : ∀ (H : Heap) (locs : List Loc) (ls : Array Slot) (σ' μ' : St) (na' nt' : Nat), Rel σ' μ' na' nt' → lv_has ls 4 [(3, .int (nI k)), (2, .ref (u2 0)), (1, .ref (u1 20)), (0, .ref b)] → Wn D cA (fun q => s.heap.size ≤ q) s (Wd cA u1 shC σ' ++ Wd cA u2 shM μ') H locs → W p l e room_1 s m #[Value.ref b] below meth c H locs cells slots Q (F0 m 1432 ls [])) (hl : lv_has ls 4 [(3, .int (nI k)), (2, .ref (u2 0)), (1, .ref (u1 20)), (0, .ref b)]) (hw : Wn D cA (fun q => s.heap.size ≤ q) s (Wd cA u1 shC σ ++ Wd cA u2 shM μ) H locs) : W p l e room_1 s m #[Value.ref b] below meth c H locs cells slots Q (F0 m 638 ls []) := by
  have hx := K.1.1; have hb := K.1.2.1
  obtain ⟨r, σ', μ', hF1, hF2, hR⟩ := op_best h (xs (k + 1)) (xs (k + 2)) (xs (k + 3))
  refine lv_aload_n hx hb d_law_638 rfl (lv_at hl 2 rfl) ?_
  refine law_arg (i := 1) K hX hbl hw.2.2.2.1 (lv_at hl 3 rfl) (lv_at hl 0 rfl) (by decide) hk hL d_law_639 d_law_640 d_law_641 d_law_642 d_law_643 rfl ?_
  refine law_arg (i := 2) K hX hbl hw.2.2.2.1 (lv_at hl 3 rfl) (lv_at hl 0 rfl) (by decide) hk hL d_law_644 d_law_645 d_law_646 d_law_647 d_law_648 rfl ?_
  refine law_arg (i := 3) K hX hbl hw.2.2.2.1 (lv_at hl 3 rfl) (lv_at hl 0 rfl) (by decide) hk hL d_law_649 d_law_650 d_law_651 d_law_652 d_law_653 rfl ?_
  refine n_WVI (ws0 := Wd cA u2 shM μ) (As := [.int (xs (k + 1)), .int (xs (k + 2)), .int (xs (k + 3))]) (rest := []) (q := 20) (sh := shC.take 50) K hw.swap hC1 hl.1 (c_Main_best (l := l) (D := D) (cA := cA) (ad := u1) (s0 := σ) (nC := 50) (Nat.le_of_ble_eq_true rfl) hF1) (sh_Main (Nat.le_of_ble_eq_true rfl)) rfl (tb_gV w_790 w_791 w_792 w_63 w_793) a_Main_best ⟨rfl, rfl, Nat.le_of_ble_eq_true rfl, Nat.le_of_ble_eq_true rfl⟩ rfl rfl (by decide) hcs d_law_654 (fun H locs hw => ?_)
  have hw : Wn D cA _ s (Wd cA u1 shC σ' ++ Wd cA u2 shM μ) H locs := hw.swap
  refine lv_aload_n hx hb d_law_657 rfl (lv_at hl 1 rfl) ?_
  refine law_arg (i := 1) K hX hbl hw.2.2.2.1 (lv_at hl 3 rfl) (lv_at hl 0 rfl) (by decide) hk hL d_law_658 d_law_659 d_law_660 d_law_661 d_law_662 rfl ?_
  refine law_arg (i := 2) K hX hbl hw.2.2.2.1 (lv_at hl 3 rfl) (lv_at hl 0 rfl) (by decide) hk hL d_law_663 d_law_664 d_law_665 d_law_666 d_law_667 rfl ?_
  refine law_arg (i := 3) K hX hbl hw.2.2.2.1 (lv_at hl 3 rfl) (lv_at hl 0 rfl) (by decide) hk hL d_law_668 d_law_669 d_law_670 d_law_671 d_law_672 rfl ?_
  refine n_WVI (ws0 := Wd cA u1 shC σ') (As := [.int (xs (k + 1)), .int (xs (k + 2)), .int (xs (k + 3))]) (rest := [.int r]) (q := 0) K hw hC2 hl.1 (c_Model_best (l := l) (D := D) (cA := cA) (ad := u2) (s0 := μ) hF2) sh_Model rfl (tb_gV w_1273 w_1274 w_1275 w_80 w_1276) a_Model_best ⟨rfl, rfl, Nat.le_of_ble_eq_true rfl, Nat.le_of_ble_eq_true rfl⟩ rfl rfl (Nat.le_of_ble_eq_true rfl) hcs d_law_673 (fun H locs hw => ?_)
  refine lv_icmp_eq (tgt := 1432) hx hb d_law_676 (by decide) (fun _ => ?_) (fun z => absurd rfl z)
  exact kk _ _ _ _ _ _ _ hR hl hw
set_option maxHeartbeats 1000000 in
theorem law_13 (K : Fx p s m #[Value.ref b] meth c code 4 R_law ret) (hC1 : Cst u1 (fun q => s.heap.size ≤ q) s s.heap) (hC2 : Cst u2 (fun q => s.heap.size ≤ q) s s.heap) (hX : va_X b L xs s s.heap) (hbl : b < s.heap.size) (hL : L ≤ 3584) (hcs : cells ≤ room_1.cells ∧ slots ≤ room_1.slots) (h : Rel σ μ na nt) (hk : k + 7 ≤ L) (kk : ∀ (H : Heap) (locs : List Loc) (ls : Array Slot) (σ' μ' : St) (na' nt' : Nat), Rel σ' μ' na' nt' → lv_has ls 4 [(3, .int (nI k)), (2, .ref (u2 0)), (1, .ref (u1 20)), (0, .ref b)] → Wn D cA (fun q => s.heap.size ≤ q) s (Wd cA u1 shC σ' ++ Wd cA u2 shM μ') H locs → W p l e room_1 s m #[Value.ref b] below meth c H locs cells slots Q (F0 m 1432 ls [])) (hl : lv_has ls 4 [(3, .int (nI k)), (2, .ref (u2 0)), (1, .ref (u1 20)), (0, .ref b)]) (hw : Wn D cA (fun q => s.heap.size ≤ q) s (Wd cA u1 shC σ ++ Wd cA u2 shM μ) H locs) : W p l e room_1 s m #[Value.ref b] below meth c H locs cells slots Q (F0 m 681 ls []) := by
  have hx := K.1.1; have hb := K.1.2.1
  obtain ⟨r, σ', μ', hF1, hF2, hR⟩ := op_even h (xs (k + 1)) (xs (k + 2))
  refine lv_aload_n hx hb d_law_681 rfl (lv_at hl 2 rfl) ?_
  refine law_arg (i := 1) K hX hbl hw.2.2.2.1 (lv_at hl 3 rfl) (lv_at hl 0 rfl) (by decide) hk hL d_law_682 d_law_683 d_law_684 d_law_685 d_law_686 rfl ?_
  refine law_arg (i := 2) K hX hbl hw.2.2.2.1 (lv_at hl 3 rfl) (lv_at hl 0 rfl) (by decide) hk hL d_law_687 d_law_688 d_law_689 d_law_690 d_law_691 rfl ?_
  refine n_WVI (ws0 := Wd cA u2 shM μ) (As := [.int (xs (k + 1)), .int (xs (k + 2))]) (rest := []) (q := 20) (sh := shC.take 50) K hw.swap hC1 hl.1 (c_Main_even (l := l) (D := D) (cA := cA) (ad := u1) (s0 := σ) (nC := 50) (Nat.le_of_ble_eq_true rfl) hF1) (sh_Main (Nat.le_of_ble_eq_true rfl)) rfl (tb_gV w_818 w_819 w_820 w_63 w_821) a_Main_even ⟨rfl, rfl, Nat.le_of_ble_eq_true rfl, Nat.le_of_ble_eq_true rfl⟩ rfl rfl (by decide) hcs d_law_692 (fun H locs hw => ?_)
  have hw : Wn D cA _ s (Wd cA u1 shC σ' ++ Wd cA u2 shM μ) H locs := hw.swap
  refine lv_aload_n hx hb d_law_695 rfl (lv_at hl 1 rfl) ?_
  refine law_arg (i := 1) K hX hbl hw.2.2.2.1 (lv_at hl 3 rfl) (lv_at hl 0 rfl) (by decide) hk hL d_law_696 d_law_697 d_law_698 d_law_699 d_law_700 rfl ?_
  refine law_arg (i := 2) K hX hbl hw.2.2.2.1 (lv_at hl 3 rfl) (lv_at hl 0 rfl) (by decide) hk hL d_law_701 d_law_702 d_law_703 d_law_704 d_law_705 rfl ?_
  refine n_WVI (ws0 := Wd cA u1 shC σ') (As := [.int (xs (k + 1)), .int (xs (k + 2))]) (rest := [.int r]) (q := 0) K hw hC2 hl.1 (c_Model_even (l := l) (D := D) (cA := cA) (ad := u2) (s0 := μ) hF2) sh_Model rfl (tb_gV w_1284 w_1285 w_1286 w_80 w_1287) a_Model_even ⟨rfl, rfl, Nat.le_of_ble_eq_true rfl, Nat.le_of_ble_eq_true rfl⟩ rfl rfl (Nat.le_of_ble_eq_true rfl) hcs d_law_706 (fun H locs hw => ?_)
  refine lv_icmp_eq (tgt := 1432) hx hb d_law_709 (by decide) (fun _ => ?_) (fun z => absurd rfl z)
  exact kk _ _ _ _ _ _ _ hR hl hw
set_option maxHeartbeats 1000000 in
theorem law_14 (K : Fx p s m #[Value.ref b] meth c code 4 R_law ret) (hC1 : Cst u1 (fun q => s.heap.size ≤ q) s s.heap) (hC2 : Cst u2 (fun q => s.heap.size ≤ q) s s.heap) (hX : va_X b L xs s s.heap) (hbl : b < s.heap.size) (hL : L ≤ 3584) (hcs : cells ≤ room_1.cells ∧ slots ≤ room_1.slots) (h : Rel σ μ na nt) (hk : k + 7 ≤ L) (kk : ∀ (H : Heap) (locs : List Loc) (ls : Array Slot) (σ' μ' : St) (na' nt' : Nat), Rel σ' μ' na' nt' → lv_has ls 4 [(3, .int (nI k)), (2, .ref (u2 0)), (1, .ref (u1 20)), (0, .ref b)] → Wn D cA (fun q => s.heap.size ≤ q) s (Wd cA u1 shC σ' ++ Wd cA u2 shM μ') H locs → W p l e room_1 s m #[Value.ref b] below meth c H locs cells slots Q (F0 m 1432 ls [])) (hl : lv_has ls 4 [(3, .int (nI k)), (2, .ref (u2 0)), (1, .ref (u1 20)), (0, .ref b)]) (hw : Wn D cA (fun q => s.heap.size ≤ q) s (Wd cA u1 shC σ ++ Wd cA u2 shM μ) H locs) : W p l e room_1 s m #[Value.ref b] below meth c H locs cells slots Q (F0 m 714 ls []) := by
  have hx := K.1.1; have hb := K.1.2.1
  obtain ⟨r, σ', μ', hF1, hF2, hR⟩ := op_line h (xs (k + 1)) (xs (k + 2))
  refine lv_aload_n hx hb d_law_714 rfl (lv_at hl 2 rfl) ?_
  refine law_arg (i := 1) K hX hbl hw.2.2.2.1 (lv_at hl 3 rfl) (lv_at hl 0 rfl) (by decide) hk hL d_law_715 d_law_716 d_law_717 d_law_718 d_law_719 rfl ?_
  refine law_arg (i := 2) K hX hbl hw.2.2.2.1 (lv_at hl 3 rfl) (lv_at hl 0 rfl) (by decide) hk hL d_law_720 d_law_721 d_law_722 d_law_723 d_law_724 rfl ?_
  refine n_WVI (ws0 := Wd cA u2 shM μ) (As := [.int (xs (k + 1)), .int (xs (k + 2))]) (rest := []) (q := 20) (sh := shC.take 50) K hw.swap hC1 hl.1 (c_Main_line (l := l) (D := D) (cA := cA) (ad := u1) (s0 := σ) (nC := 50) (Nat.le_of_ble_eq_true rfl) hF1) (sh_Main (Nat.le_of_ble_eq_true rfl)) rfl (tb_gV w_822 w_823 w_824 w_63 w_825) a_Main_line ⟨rfl, rfl, Nat.le_of_ble_eq_true rfl, Nat.le_of_ble_eq_true rfl⟩ rfl rfl (by decide) hcs d_law_725 (fun H locs hw => ?_)
  have hw : Wn D cA _ s (Wd cA u1 shC σ' ++ Wd cA u2 shM μ) H locs := hw.swap
  refine lv_aload_n hx hb d_law_728 rfl (lv_at hl 1 rfl) ?_
  refine law_arg (i := 1) K hX hbl hw.2.2.2.1 (lv_at hl 3 rfl) (lv_at hl 0 rfl) (by decide) hk hL d_law_729 d_law_730 d_law_731 d_law_732 d_law_733 rfl ?_
  refine law_arg (i := 2) K hX hbl hw.2.2.2.1 (lv_at hl 3 rfl) (lv_at hl 0 rfl) (by decide) hk hL d_law_734 d_law_735 d_law_736 d_law_737 d_law_738 rfl ?_
  refine n_WVI (ws0 := Wd cA u1 shC σ') (As := [.int (xs (k + 1)), .int (xs (k + 2))]) (rest := [.int r]) (q := 0) K hw hC2 hl.1 (c_Model_line (l := l) (D := D) (cA := cA) (ad := u2) (s0 := μ) hF2) sh_Model rfl (tb_gV w_1292 w_1293 w_1294 w_80 w_1295) a_Model_line ⟨rfl, rfl, Nat.le_of_ble_eq_true rfl, Nat.le_of_ble_eq_true rfl⟩ rfl rfl (Nat.le_of_ble_eq_true rfl) hcs d_law_739 (fun H locs hw => ?_)
  refine lv_icmp_eq (tgt := 1432) hx hb d_law_742 (by decide) (fun _ => ?_) (fun z => absurd rfl z)
  exact kk _ _ _ _ _ _ _ hR hl hw
set_option maxHeartbeats 1000000 in
theorem law_15 (K : Fx p s m #[Value.ref b] meth c code 4 R_law ret) (hC1 : Cst u1 (fun q => s.heap.size ≤ q) s s.heap) (hC2 : Cst u2 (fun q => s.heap.size ≤ q) s s.heap) (hX : va_X b L xs s s.heap) (hbl : b < s.heap.size) (hL : L ≤ 3584) (hcs : cells ≤ room_1.cells ∧ slots ≤ room_1.slots) (h : Rel σ μ na nt) (hk : k + 7 ≤ L) (kk : ∀ (H : Heap) (locs : List Loc) (ls : Array Slot) (σ' μ' : St) (na' nt' : Nat), Rel σ' μ' na' nt' → lv_has ls 4 [(3, .int (nI k)), (2, .ref (u2 0)), (1, .ref (u1 20)), (0, .ref b)] → Wn D cA (fun q => s.heap.size ≤ q) s (Wd cA u1 shC σ' ++ Wd cA u2 shM μ') H locs → W p l e room_1 s m #[Value.ref b] below meth c H locs cells slots Q (F0 m 1432 ls [])) (hl : lv_has ls 4 [(3, .int (nI k)), (2, .ref (u2 0)), (1, .ref (u1 20)), (0, .ref b)]) (hw : Wn D cA (fun q => s.heap.size ≤ q) s (Wd cA u1 shC σ ++ Wd cA u2 shM μ) H locs) : W p l e room_1 s m #[Value.ref b] below meth c H locs cells slots Q (F0 m 747 ls []) := by
  have hx := K.1.1; have hb := K.1.2.1
  obtain ⟨r, σ', μ', hF1, hF2, hR⟩ := op_needs h (xs (k + 1)) (xs (k + 2))
  refine lv_aload_n hx hb d_law_747 rfl (lv_at hl 2 rfl) ?_
  refine law_arg (i := 1) K hX hbl hw.2.2.2.1 (lv_at hl 3 rfl) (lv_at hl 0 rfl) (by decide) hk hL d_law_748 d_law_749 d_law_750 d_law_751 d_law_752 rfl ?_
  refine law_arg (i := 2) K hX hbl hw.2.2.2.1 (lv_at hl 3 rfl) (lv_at hl 0 rfl) (by decide) hk hL d_law_753 d_law_754 d_law_755 d_law_756 d_law_757 rfl ?_
  refine n_WVI (ws0 := Wd cA u2 shM μ) (As := [.int (xs (k + 1)), .int (xs (k + 2))]) (rest := []) (q := 20) (sh := shC.take 50) K hw.swap hC1 hl.1 (c_Main_needs (l := l) (D := D) (cA := cA) (ad := u1) (s0 := σ) (nC := 50) (Nat.le_of_ble_eq_true rfl) hF1) (sh_Main (Nat.le_of_ble_eq_true rfl)) rfl (tb_gV w_826 w_827 w_828 w_63 w_829) a_Main_needs ⟨rfl, rfl, Nat.le_of_ble_eq_true rfl, Nat.le_of_ble_eq_true rfl⟩ rfl rfl (by decide) hcs d_law_758 (fun H locs hw => ?_)
  have hw : Wn D cA _ s (Wd cA u1 shC σ' ++ Wd cA u2 shM μ) H locs := hw.swap
  refine lv_aload_n hx hb d_law_761 rfl (lv_at hl 1 rfl) ?_
  refine law_arg (i := 1) K hX hbl hw.2.2.2.1 (lv_at hl 3 rfl) (lv_at hl 0 rfl) (by decide) hk hL d_law_762 d_law_763 d_law_764 d_law_765 d_law_766 rfl ?_
  refine law_arg (i := 2) K hX hbl hw.2.2.2.1 (lv_at hl 3 rfl) (lv_at hl 0 rfl) (by decide) hk hL d_law_767 d_law_768 d_law_769 d_law_770 d_law_771 rfl ?_
  refine n_WVI (ws0 := Wd cA u1 shC σ') (As := [.int (xs (k + 1)), .int (xs (k + 2))]) (rest := [.int r]) (q := 0) K hw hC2 hl.1 (c_Model_needs (l := l) (D := D) (cA := cA) (ad := u2) (s0 := μ) hF2) sh_Model rfl (tb_gV w_1296 w_1297 w_1298 w_80 w_1299) a_Model_needs ⟨rfl, rfl, Nat.le_of_ble_eq_true rfl, Nat.le_of_ble_eq_true rfl⟩ rfl rfl (Nat.le_of_ble_eq_true rfl) hcs d_law_772 (fun H locs hw => ?_)
  refine lv_icmp_eq (tgt := 1432) hx hb d_law_775 (by decide) (fun _ => ?_) (fun z => absurd rfl z)
  exact kk _ _ _ _ _ _ _ hR hl hw
set_option maxHeartbeats 1000000 in
theorem law_16 (K : Fx p s m #[Value.ref b] meth c code 4 R_law ret) (hC1 : Cst u1 (fun q => s.heap.size ≤ q) s s.heap) (hC2 : Cst u2 (fun q => s.heap.size ≤ q) s s.heap) (hX : va_X b L xs s s.heap) (hbl : b < s.heap.size) (hL : L ≤ 3584) (hcs : cells ≤ room_1.cells ∧ slots ≤ room_1.slots) (h : Rel σ μ na nt) (hk : k + 7 ≤ L) (kk : ∀ (H : Heap) (locs : List Loc) (ls : Array Slot) (σ' μ' : St) (na' nt' : Nat), Rel σ' μ' na' nt' → lv_has ls 4 [(3, .int (nI k)), (2, .ref (u2 0)), (1, .ref (u1 20)), (0, .ref b)] → Wn D cA (fun q => s.heap.size ≤ q) s (Wd cA u1 shC σ' ++ Wd cA u2 shM μ') H locs → W p l e room_1 s m #[Value.ref b] below meth c H locs cells slots Q (F0 m 1432 ls [])) (hl : lv_has ls 4 [(3, .int (nI k)), (2, .ref (u2 0)), (1, .ref (u1 20)), (0, .ref b)]) (hw : Wn D cA (fun q => s.heap.size ≤ q) s (Wd cA u1 shC σ ++ Wd cA u2 shM μ) H locs) : W p l e room_1 s m #[Value.ref b] below meth c H locs cells slots Q (F0 m 780 ls []) := by
  have hx := K.1.1; have hb := K.1.2.1
  obtain ⟨r, σ', μ', hF1, hF2, hR⟩ := op_row h (xs (k + 1)) (xs (k + 2)) (xs (k + 3))
  refine lv_aload_n hx hb d_law_780 rfl (lv_at hl 2 rfl) ?_
  refine law_arg (i := 1) K hX hbl hw.2.2.2.1 (lv_at hl 3 rfl) (lv_at hl 0 rfl) (by decide) hk hL d_law_781 d_law_782 d_law_783 d_law_784 d_law_785 rfl ?_
  refine law_arg (i := 2) K hX hbl hw.2.2.2.1 (lv_at hl 3 rfl) (lv_at hl 0 rfl) (by decide) hk hL d_law_786 d_law_787 d_law_788 d_law_789 d_law_790 rfl ?_
  refine law_arg (i := 3) K hX hbl hw.2.2.2.1 (lv_at hl 3 rfl) (lv_at hl 0 rfl) (by decide) hk hL d_law_791 d_law_792 d_law_793 d_law_794 d_law_795 rfl ?_
  refine n_WVI (ws0 := Wd cA u2 shM μ) (As := [.int (xs (k + 1)), .int (xs (k + 2)), .int (xs (k + 3))]) (rest := []) (q := 20) (sh := shC.take 50) K hw.swap hC1 hl.1 (c_Main_row (l := l) (D := D) (cA := cA) (ad := u1) (s0 := σ) (nC := 50) (Nat.le_of_ble_eq_true rfl) hF1) (sh_Main (Nat.le_of_ble_eq_true rfl)) rfl (tb_gV w_834 w_835 w_836 w_63 w_837) a_Main_row ⟨rfl, rfl, Nat.le_of_ble_eq_true rfl, Nat.le_of_ble_eq_true rfl⟩ rfl rfl (by decide) hcs d_law_796 (fun H locs hw => ?_)
  have hw : Wn D cA _ s (Wd cA u1 shC σ' ++ Wd cA u2 shM μ) H locs := hw.swap
  refine lv_aload_n hx hb d_law_799 rfl (lv_at hl 1 rfl) ?_
  refine law_arg (i := 1) K hX hbl hw.2.2.2.1 (lv_at hl 3 rfl) (lv_at hl 0 rfl) (by decide) hk hL d_law_800 d_law_801 d_law_802 d_law_803 d_law_804 rfl ?_
  refine law_arg (i := 2) K hX hbl hw.2.2.2.1 (lv_at hl 3 rfl) (lv_at hl 0 rfl) (by decide) hk hL d_law_805 d_law_806 d_law_807 d_law_808 d_law_809 rfl ?_
  refine law_arg (i := 3) K hX hbl hw.2.2.2.1 (lv_at hl 3 rfl) (lv_at hl 0 rfl) (by decide) hk hL d_law_810 d_law_811 d_law_812 d_law_813 d_law_814 rfl ?_
  refine n_WVI (ws0 := Wd cA u1 shC σ') (As := [.int (xs (k + 1)), .int (xs (k + 2)), .int (xs (k + 3))]) (rest := [.int r]) (q := 0) K hw hC2 hl.1 (c_Model_row (l := l) (D := D) (cA := cA) (ad := u2) (s0 := μ) hF2) sh_Model rfl (tb_gV w_1300 w_1301 w_1302 w_80 w_1303) a_Model_row ⟨rfl, rfl, Nat.le_of_ble_eq_true rfl, Nat.le_of_ble_eq_true rfl⟩ rfl rfl (Nat.le_of_ble_eq_true rfl) hcs d_law_815 (fun H locs hw => ?_)
  refine lv_icmp_eq (tgt := 1432) hx hb d_law_818 (by decide) (fun _ => ?_) (fun z => absurd rfl z)
  exact kk _ _ _ _ _ _ _ hR hl hw
set_option maxHeartbeats 1000000 in
theorem law_17 (K : Fx p s m #[Value.ref b] meth c code 4 R_law ret) (hC1 : Cst u1 (fun q => s.heap.size ≤ q) s s.heap) (hC2 : Cst u2 (fun q => s.heap.size ≤ q) s s.heap) (hX : va_X b L xs s s.heap) (hbl : b < s.heap.size) (hL : L ≤ 3584) (hcs : cells ≤ room_1.cells ∧ slots ≤ room_1.slots) (h : Rel σ μ na nt) (hk : k + 7 ≤ L) (kk : ∀ (H : Heap) (locs : List Loc) (ls : Array Slot) (σ' μ' : St) (na' nt' : Nat), Rel σ' μ' na' nt' → lv_has ls 4 [(3, .int (nI k)), (2, .ref (u2 0)), (1, .ref (u1 20)), (0, .ref b)] → Wn D cA (fun q => s.heap.size ≤ q) s (Wd cA u1 shC σ' ++ Wd cA u2 shM μ') H locs → W p l e room_1 s m #[Value.ref b] below meth c H locs cells slots Q (F0 m 1432 ls [])) (hl : lv_has ls 4 [(3, .int (nI k)), (2, .ref (u2 0)), (1, .ref (u1 20)), (0, .ref b)]) (hw : Wn D cA (fun q => s.heap.size ≤ q) s (Wd cA u1 shC σ ++ Wd cA u2 shM μ) H locs) : W p l e room_1 s m #[Value.ref b] below meth c H locs cells slots Q (F0 m 823 ls []) := by
  have hx := K.1.1; have hb := K.1.2.1
  obtain ⟨r, σ', μ', hF1, hF2, hR⟩ := op_beats h (xs (k + 1))
  refine lv_aload_n hx hb d_law_823 rfl (lv_at hl 2 rfl) ?_
  refine law_arg (i := 1) K hX hbl hw.2.2.2.1 (lv_at hl 3 rfl) (lv_at hl 0 rfl) (by decide) hk hL d_law_824 d_law_825 d_law_826 d_law_827 d_law_828 rfl ?_
  refine n_WVI (ws0 := Wd cA u2 shM μ) (As := [.int (xs (k + 1))]) (rest := []) (q := 20) (sh := shC.take 50) K hw.swap hC1 hl.1 (c_Main_beats (l := l) (D := D) (cA := cA) (ad := u1) (s0 := σ) (nC := 50) (Nat.le_of_ble_eq_true rfl) hF1) (sh_Main (Nat.le_of_ble_eq_true rfl)) rfl (tb_gV w_854 w_855 w_856 w_63 w_857) a_Main_beats ⟨rfl, rfl, Nat.le_of_ble_eq_true rfl, Nat.le_of_ble_eq_true rfl⟩ rfl rfl (by decide) hcs d_law_829 (fun H locs hw => ?_)
  have hw : Wn D cA _ s (Wd cA u1 shC σ' ++ Wd cA u2 shM μ) H locs := hw.swap
  refine lv_aload_n hx hb d_law_832 rfl (lv_at hl 1 rfl) ?_
  refine law_arg (i := 1) K hX hbl hw.2.2.2.1 (lv_at hl 3 rfl) (lv_at hl 0 rfl) (by decide) hk hL d_law_833 d_law_834 d_law_835 d_law_836 d_law_837 rfl ?_
  refine n_WVI (ws0 := Wd cA u1 shC σ') (As := [.int (xs (k + 1))]) (rest := [.int r]) (q := 0) K hw hC2 hl.1 (c_Model_beats (l := l) (D := D) (cA := cA) (ad := u2) (s0 := μ) hF2) sh_Model rfl (tb_gV w_1311 w_1312 w_1313 w_80 w_1314) a_Model_beats ⟨rfl, rfl, Nat.le_of_ble_eq_true rfl, Nat.le_of_ble_eq_true rfl⟩ rfl rfl (Nat.le_of_ble_eq_true rfl) hcs d_law_838 (fun H locs hw => ?_)
  refine lv_icmp_eq (tgt := 1432) hx hb d_law_841 (by decide) (fun _ => ?_) (fun z => absurd rfl z)
  exact kk _ _ _ _ _ _ _ hR hl hw
set_option maxHeartbeats 1000000 in
theorem law_18 (K : Fx p s m #[Value.ref b] meth c code 4 R_law ret) (hC1 : Cst u1 (fun q => s.heap.size ≤ q) s s.heap) (hC2 : Cst u2 (fun q => s.heap.size ≤ q) s s.heap) (hX : va_X b L xs s s.heap) (hbl : b < s.heap.size) (hL : L ≤ 3584) (hcs : cells ≤ room_1.cells ∧ slots ≤ room_1.slots) (h : Rel σ μ na nt) (hk : k + 7 ≤ L) (kk : ∀ (H : Heap) (locs : List Loc) (ls : Array Slot) (σ' μ' : St) (na' nt' : Nat), Rel σ' μ' na' nt' → lv_has ls 4 [(3, .int (nI k)), (2, .ref (u2 0)), (1, .ref (u1 20)), (0, .ref b)] → Wn D cA (fun q => s.heap.size ≤ q) s (Wd cA u1 shC σ' ++ Wd cA u2 shM μ') H locs → W p l e room_1 s m #[Value.ref b] below meth c H locs cells slots Q (F0 m 1432 ls [])) (hl : lv_has ls 4 [(3, .int (nI k)), (2, .ref (u2 0)), (1, .ref (u1 20)), (0, .ref b)]) (hw : Wn D cA (fun q => s.heap.size ≤ q) s (Wd cA u1 shC σ ++ Wd cA u2 shM μ) H locs) : W p l e room_1 s m #[Value.ref b] below meth c H locs cells slots Q (F0 m 846 ls []) := by
  have hx := K.1.1; have hb := K.1.2.1
  obtain ⟨r, σ', μ', hF1, hF2, hR⟩ := op_rings h (xs (k + 1))
  refine lv_aload_n hx hb d_law_846 rfl (lv_at hl 2 rfl) ?_
  refine law_arg (i := 1) K hX hbl hw.2.2.2.1 (lv_at hl 3 rfl) (lv_at hl 0 rfl) (by decide) hk hL d_law_847 d_law_848 d_law_849 d_law_850 d_law_851 rfl ?_
  refine n_WVI (ws0 := Wd cA u2 shM μ) (As := [.int (xs (k + 1))]) (rest := []) (q := 20) (sh := shC.take 50) K hw.swap hC1 hl.1 (c_Main_rings (l := l) (D := D) (cA := cA) (ad := u1) (s0 := σ) (nC := 50) (Nat.le_of_ble_eq_true rfl) hF1) (sh_Main (Nat.le_of_ble_eq_true rfl)) rfl (tb_gV w_862 w_863 w_864 w_63 w_865) a_Main_rings ⟨rfl, rfl, Nat.le_of_ble_eq_true rfl, Nat.le_of_ble_eq_true rfl⟩ rfl rfl (by decide) hcs d_law_852 (fun H locs hw => ?_)
  have hw : Wn D cA _ s (Wd cA u1 shC σ' ++ Wd cA u2 shM μ) H locs := hw.swap
  refine lv_aload_n hx hb d_law_855 rfl (lv_at hl 1 rfl) ?_
  refine law_arg (i := 1) K hX hbl hw.2.2.2.1 (lv_at hl 3 rfl) (lv_at hl 0 rfl) (by decide) hk hL d_law_856 d_law_857 d_law_858 d_law_859 d_law_860 rfl ?_
  refine n_WVI (ws0 := Wd cA u1 shC σ') (As := [.int (xs (k + 1))]) (rest := [.int r]) (q := 0) K hw hC2 hl.1 (c_Model_rings (l := l) (D := D) (cA := cA) (ad := u2) (s0 := μ) hF2) sh_Model rfl (tb_gV w_1323 w_1324 w_1325 w_80 w_1326) a_Model_rings ⟨rfl, rfl, Nat.le_of_ble_eq_true rfl, Nat.le_of_ble_eq_true rfl⟩ rfl rfl (Nat.le_of_ble_eq_true rfl) hcs d_law_861 (fun H locs hw => ?_)
  refine lv_icmp_eq (tgt := 1432) hx hb d_law_864 (by decide) (fun _ => ?_) (fun z => absurd rfl z)
  exact kk _ _ _ _ _ _ _ hR hl hw
set_option maxHeartbeats 1000000 in
theorem law_19 (K : Fx p s m #[Value.ref b] meth c code 4 R_law ret) (hC1 : Cst u1 (fun q => s.heap.size ≤ q) s s.heap) (hC2 : Cst u2 (fun q => s.heap.size ≤ q) s s.heap) (hX : va_X b L xs s s.heap) (hbl : b < s.heap.size) (hL : L ≤ 3584) (hcs : cells ≤ room_1.cells ∧ slots ≤ room_1.slots) (h : Rel σ μ na nt) (hk : k + 7 ≤ L) (kk : ∀ (H : Heap) (locs : List Loc) (ls : Array Slot) (σ' μ' : St) (na' nt' : Nat), Rel σ' μ' na' nt' → lv_has ls 4 [(3, .int (nI k)), (2, .ref (u2 0)), (1, .ref (u1 20)), (0, .ref b)] → Wn D cA (fun q => s.heap.size ≤ q) s (Wd cA u1 shC σ' ++ Wd cA u2 shM μ') H locs → W p l e room_1 s m #[Value.ref b] below meth c H locs cells slots Q (F0 m 1432 ls [])) (hl : lv_has ls 4 [(3, .int (nI k)), (2, .ref (u2 0)), (1, .ref (u1 20)), (0, .ref b)]) (hw : Wn D cA (fun q => s.heap.size ≤ q) s (Wd cA u1 shC σ ++ Wd cA u2 shM μ) H locs) : W p l e room_1 s m #[Value.ref b] below meth c H locs cells slots Q (F0 m 869 ls []) := by
  have hx := K.1.1; have hb := K.1.2.1
  obtain ⟨r, σ', μ', hF1, hF2, hR⟩ := op_judge h (xs (k + 1)) (xs (k + 2)) (xs (k + 3))
  refine lv_aload_n hx hb d_law_869 rfl (lv_at hl 2 rfl) ?_
  refine law_arg (i := 1) K hX hbl hw.2.2.2.1 (lv_at hl 3 rfl) (lv_at hl 0 rfl) (by decide) hk hL d_law_870 d_law_871 d_law_872 d_law_873 d_law_874 rfl ?_
  refine law_arg (i := 2) K hX hbl hw.2.2.2.1 (lv_at hl 3 rfl) (lv_at hl 0 rfl) (by decide) hk hL d_law_875 d_law_876 d_law_877 d_law_878 d_law_879 rfl ?_
  refine law_arg (i := 3) K hX hbl hw.2.2.2.1 (lv_at hl 3 rfl) (lv_at hl 0 rfl) (by decide) hk hL d_law_880 d_law_881 d_law_882 d_law_883 d_law_884 rfl ?_
  refine n_WVI (ws0 := Wd cA u2 shM μ) (As := [.int (xs (k + 1)), .int (xs (k + 2)), .int (xs (k + 3))]) (rest := []) (q := 20) (sh := shC.take 50) K hw.swap hC1 hl.1 (c_Main_judge (l := l) (D := D) (cA := cA) (ad := u1) (s0 := σ) (nC := 50) (Nat.le_of_ble_eq_true rfl) hF1) (sh_Main (Nat.le_of_ble_eq_true rfl)) rfl (tb_gV w_866 w_867 w_868 w_63 w_869) a_Main_judge ⟨rfl, rfl, Nat.le_of_ble_eq_true rfl, Nat.le_of_ble_eq_true rfl⟩ rfl rfl (by decide) hcs d_law_885 (fun H locs hw => ?_)
  have hw : Wn D cA _ s (Wd cA u1 shC σ' ++ Wd cA u2 shM μ) H locs := hw.swap
  refine lv_aload_n hx hb d_law_888 rfl (lv_at hl 1 rfl) ?_
  refine law_arg (i := 1) K hX hbl hw.2.2.2.1 (lv_at hl 3 rfl) (lv_at hl 0 rfl) (by decide) hk hL d_law_889 d_law_890 d_law_891 d_law_892 d_law_893 rfl ?_
  refine law_arg (i := 2) K hX hbl hw.2.2.2.1 (lv_at hl 3 rfl) (lv_at hl 0 rfl) (by decide) hk hL d_law_894 d_law_895 d_law_896 d_law_897 d_law_898 rfl ?_
  refine law_arg (i := 3) K hX hbl hw.2.2.2.1 (lv_at hl 3 rfl) (lv_at hl 0 rfl) (by decide) hk hL d_law_899 d_law_900 d_law_901 d_law_902 d_law_903 rfl ?_
  refine n_WVI (ws0 := Wd cA u1 shC σ') (As := [.int (xs (k + 1)), .int (xs (k + 2)), .int (xs (k + 3))]) (rest := [.int r]) (q := 0) K hw hC2 hl.1 (c_Model_judge (l := l) (D := D) (cA := cA) (ad := u2) (s0 := μ) hF2) sh_Model rfl (tb_gV w_1327 w_1328 w_1329 w_80 w_1330) a_Model_judge ⟨rfl, rfl, Nat.le_of_ble_eq_true rfl, Nat.le_of_ble_eq_true rfl⟩ rfl rfl (Nat.le_of_ble_eq_true rfl) hcs d_law_904 (fun H locs hw => ?_)
  refine lv_icmp_eq (tgt := 1432) hx hb d_law_907 (by decide) (fun _ => ?_) (fun z => absurd rfl z)
  exact kk _ _ _ _ _ _ _ hR hl hw
set_option maxHeartbeats 1000000 in
theorem law_20 (K : Fx p s m #[Value.ref b] meth c code 4 R_law ret) (hC1 : Cst u1 (fun q => s.heap.size ≤ q) s s.heap) (hC2 : Cst u2 (fun q => s.heap.size ≤ q) s s.heap) (hX : va_X b L xs s s.heap) (hbl : b < s.heap.size) (hL : L ≤ 3584) (hcs : cells ≤ room_1.cells ∧ slots ≤ room_1.slots) (h : Rel σ μ na nt) (hk : k + 7 ≤ L) (kk : ∀ (H : Heap) (locs : List Loc) (ls : Array Slot) (σ' μ' : St) (na' nt' : Nat), Rel σ' μ' na' nt' → lv_has ls 4 [(3, .int (nI k)), (2, .ref (u2 0)), (1, .ref (u1 20)), (0, .ref b)] → Wn D cA (fun q => s.heap.size ≤ q) s (Wd cA u1 shC σ' ++ Wd cA u2 shM μ') H locs → W p l e room_1 s m #[Value.ref b] below meth c H locs cells slots Q (F0 m 1432 ls [])) (hl : lv_has ls 4 [(3, .int (nI k)), (2, .ref (u2 0)), (1, .ref (u1 20)), (0, .ref b)]) (hw : Wn D cA (fun q => s.heap.size ≤ q) s (Wd cA u1 shC σ ++ Wd cA u2 shM μ) H locs) : W p l e room_1 s m #[Value.ref b] below meth c H locs cells slots Q (F0 m 912 ls []) := by
  have hx := K.1.1; have hb := K.1.2.1
  obtain ⟨r, σ', μ', hF1, hF2, hR⟩ := op_left h (xs (k + 1)) (xs (k + 2)) (xs (k + 3))
  refine lv_aload_n hx hb d_law_912 rfl (lv_at hl 2 rfl) ?_
  refine law_arg (i := 1) K hX hbl hw.2.2.2.1 (lv_at hl 3 rfl) (lv_at hl 0 rfl) (by decide) hk hL d_law_913 d_law_914 d_law_915 d_law_916 d_law_917 rfl ?_
  refine law_arg (i := 2) K hX hbl hw.2.2.2.1 (lv_at hl 3 rfl) (lv_at hl 0 rfl) (by decide) hk hL d_law_918 d_law_919 d_law_920 d_law_921 d_law_922 rfl ?_
  refine law_arg (i := 3) K hX hbl hw.2.2.2.1 (lv_at hl 3 rfl) (lv_at hl 0 rfl) (by decide) hk hL d_law_923 d_law_924 d_law_925 d_law_926 d_law_927 rfl ?_
  refine n_WVI (ws0 := Wd cA u2 shM μ) (As := [.int (xs (k + 1)), .int (xs (k + 2)), .int (xs (k + 3))]) (rest := []) (q := 20) (sh := shC.take 50) K hw.swap hC1 hl.1 (c_Main_left (l := l) (D := D) (cA := cA) (ad := u1) (s0 := σ) (nC := 50) (Nat.le_of_ble_eq_true rfl) hF1) (sh_Main (Nat.le_of_ble_eq_true rfl)) rfl (tb_gV w_890 w_891 w_892 w_63 w_893) a_Main_left ⟨rfl, rfl, Nat.le_of_ble_eq_true rfl, Nat.le_of_ble_eq_true rfl⟩ rfl rfl (by decide) hcs d_law_928 (fun H locs hw => ?_)
  have hw : Wn D cA _ s (Wd cA u1 shC σ' ++ Wd cA u2 shM μ) H locs := hw.swap
  refine lv_aload_n hx hb d_law_931 rfl (lv_at hl 1 rfl) ?_
  refine law_arg (i := 1) K hX hbl hw.2.2.2.1 (lv_at hl 3 rfl) (lv_at hl 0 rfl) (by decide) hk hL d_law_932 d_law_933 d_law_934 d_law_935 d_law_936 rfl ?_
  refine law_arg (i := 2) K hX hbl hw.2.2.2.1 (lv_at hl 3 rfl) (lv_at hl 0 rfl) (by decide) hk hL d_law_937 d_law_938 d_law_939 d_law_940 d_law_941 rfl ?_
  refine law_arg (i := 3) K hX hbl hw.2.2.2.1 (lv_at hl 3 rfl) (lv_at hl 0 rfl) (by decide) hk hL d_law_942 d_law_943 d_law_944 d_law_945 d_law_946 rfl ?_
  refine n_WVI (ws0 := Wd cA u1 shC σ') (As := [.int (xs (k + 1)), .int (xs (k + 2)), .int (xs (k + 3))]) (rest := [.int r]) (q := 0) K hw hC2 hl.1 (c_Model_left (l := l) (D := D) (cA := cA) (ad := u2) (s0 := μ) hF2) sh_Model rfl (tb_gV w_1347 w_1348 w_1349 w_80 w_1350) a_Model_left ⟨rfl, rfl, Nat.le_of_ble_eq_true rfl, Nat.le_of_ble_eq_true rfl⟩ rfl rfl (Nat.le_of_ble_eq_true rfl) hcs d_law_947 (fun H locs hw => ?_)
  refine lv_icmp_eq (tgt := 1432) hx hb d_law_950 (by decide) (fun _ => ?_) (fun z => absurd rfl z)
  exact kk _ _ _ _ _ _ _ hR hl hw
set_option maxHeartbeats 1000000 in
theorem law_21 (K : Fx p s m #[Value.ref b] meth c code 4 R_law ret) (hC1 : Cst u1 (fun q => s.heap.size ≤ q) s s.heap) (hC2 : Cst u2 (fun q => s.heap.size ≤ q) s s.heap) (hX : va_X b L xs s s.heap) (hbl : b < s.heap.size) (hL : L ≤ 3584) (hcs : cells ≤ room_1.cells ∧ slots ≤ room_1.slots) (h : Rel σ μ na nt) (hk : k + 7 ≤ L) (kk : ∀ (H : Heap) (locs : List Loc) (ls : Array Slot) (σ' μ' : St) (na' nt' : Nat), Rel σ' μ' na' nt' → lv_has ls 4 [(3, .int (nI k)), (2, .ref (u2 0)), (1, .ref (u1 20)), (0, .ref b)] → Wn D cA (fun q => s.heap.size ≤ q) s (Wd cA u1 shC σ' ++ Wd cA u2 shM μ') H locs → W p l e room_1 s m #[Value.ref b] below meth c H locs cells slots Q (F0 m 1432 ls [])) (hl : lv_has ls 4 [(3, .int (nI k)), (2, .ref (u2 0)), (1, .ref (u1 20)), (0, .ref b)]) (hw : Wn D cA (fun q => s.heap.size ≤ q) s (Wd cA u1 shC σ ++ Wd cA u2 shM μ) H locs) : W p l e room_1 s m #[Value.ref b] below meth c H locs cells slots Q (F0 m 955 ls []) := by
  have hx := K.1.1; have hb := K.1.2.1
  obtain ⟨r, σ', μ', hF1, hF2, hR⟩ := op_whom h (xs (k + 1)) (xs (k + 2))
  refine lv_aload_n hx hb d_law_955 rfl (lv_at hl 2 rfl) ?_
  refine law_arg (i := 1) K hX hbl hw.2.2.2.1 (lv_at hl 3 rfl) (lv_at hl 0 rfl) (by decide) hk hL d_law_956 d_law_957 d_law_958 d_law_959 d_law_960 rfl ?_
  refine law_arg (i := 2) K hX hbl hw.2.2.2.1 (lv_at hl 3 rfl) (lv_at hl 0 rfl) (by decide) hk hL d_law_961 d_law_962 d_law_963 d_law_964 d_law_965 rfl ?_
  refine n_WVI (ws0 := Wd cA u2 shM μ) (As := [.int (xs (k + 1)), .int (xs (k + 2))]) (rest := []) (q := 20) (sh := shC.take 50) K hw.swap hC1 hl.1 (c_Main_whom (l := l) (D := D) (cA := cA) (ad := u1) (s0 := σ) (nC := 50) (Nat.le_of_ble_eq_true rfl) hF1) (sh_Main (Nat.le_of_ble_eq_true rfl)) rfl (tb_gV w_894 w_895 w_896 w_63 w_897) a_Main_whom ⟨rfl, rfl, Nat.le_of_ble_eq_true rfl, Nat.le_of_ble_eq_true rfl⟩ rfl rfl (by decide) hcs d_law_966 (fun H locs hw => ?_)
  have hw : Wn D cA _ s (Wd cA u1 shC σ' ++ Wd cA u2 shM μ) H locs := hw.swap
  refine lv_aload_n hx hb d_law_969 rfl (lv_at hl 1 rfl) ?_
  refine law_arg (i := 1) K hX hbl hw.2.2.2.1 (lv_at hl 3 rfl) (lv_at hl 0 rfl) (by decide) hk hL d_law_970 d_law_971 d_law_972 d_law_973 d_law_974 rfl ?_
  refine law_arg (i := 2) K hX hbl hw.2.2.2.1 (lv_at hl 3 rfl) (lv_at hl 0 rfl) (by decide) hk hL d_law_975 d_law_976 d_law_977 d_law_978 d_law_979 rfl ?_
  refine n_WVI (ws0 := Wd cA u1 shC σ') (As := [.int (xs (k + 1)), .int (xs (k + 2))]) (rest := [.int r]) (q := 0) K hw hC2 hl.1 (c_Model_whom (l := l) (D := D) (cA := cA) (ad := u2) (s0 := μ) hF2) sh_Model rfl (tb_gV w_1351 w_1352 w_1353 w_80 w_1354) a_Model_whom ⟨rfl, rfl, Nat.le_of_ble_eq_true rfl, Nat.le_of_ble_eq_true rfl⟩ rfl rfl (Nat.le_of_ble_eq_true rfl) hcs d_law_980 (fun H locs hw => ?_)
  refine lv_icmp_eq (tgt := 1432) hx hb d_law_983 (by decide) (fun _ => ?_) (fun z => absurd rfl z)
  exact kk _ _ _ _ _ _ _ hR hl hw
end LC
