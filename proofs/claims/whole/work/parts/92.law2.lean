/-! ===== the calls ===== -/
section LC
variable {p : Program} {l : Launch} {e : Env} {s : State} {m : MethodId} {below : List Frame} {meth : Method} {c : Code} {H : Heap} {locs : List Loc} {Q : State → Prop} {D : va_G} {cA : Nat → ClassId} {u1 u2 : Nat → Nat} {cells slots : Nat} {ls : Array Slot} {rest : List Value} {b L k na nt : Nat} {xs : Nat → Int32} {σ μ : St}
set_option maxHeartbeats 1000000 in
theorem law_22 (K : Fx p s m #[Value.ref b] meth c code 4 R_law ret) (hC1 : Cst u1 (fun q => s.heap.size ≤ q) s s.heap) (hC2 : Cst u2 (fun q => s.heap.size ≤ q) s s.heap) (hX : va_X b L xs s s.heap) (hbl : b < s.heap.size) (hL : L ≤ 3584) (hcs : cells ≤ room_1.cells ∧ slots ≤ room_1.slots) (h : Rel σ μ na nt) (hk : k + 7 ≤ L) (kk : ∀ (H : Heap) (locs : List Loc) (ls : Array Slot) (σ' μ' : St) (na' nt' : Nat), Rel σ' μ' na' nt' → lv_has ls 4 [(3, .int (nI k)), (2, .ref (u2 0)), (1, .ref (u1 20)), (0, .ref b)] → Wn D cA (fun q => s.heap.size ≤ q) s (Wd cA u1 shC σ' ++ Wd cA u2 shM μ') H locs → W p l e room_1 s m #[Value.ref b] below meth c H locs cells slots Q (F0 m 1432 ls [])) (hl : lv_has ls 4 [(3, .int (nI k)), (2, .ref (u2 0)), (1, .ref (u1 20)), (0, .ref b)]) (hw : Wn D cA (fun q => s.heap.size ≤ q) s (Wd cA u1 shC σ ++ Wd cA u2 shM μ) H locs) : W p l e room_1 s m #[Value.ref b] below meth c H locs cells slots Q (F0 m 988 ls []) := by
  have hx := K.1.1; have hb := K.1.2.1
  obtain ⟨r, σ', μ', hF1, hF2, hR⟩ := op_laws h (xs (k + 1)) (xs (k + 2)) (xs (k + 3))
  refine lv_aload_n hx hb d_law_988 rfl (lv_at hl 2 rfl) ?_
  refine law_arg (i := 1) K hX hbl hw.2.2.2.1 (lv_at hl 3 rfl) (lv_at hl 0 rfl) (by decide) hk hL d_law_989 d_law_990 d_law_991 d_law_992 d_law_993 rfl ?_
  refine law_arg (i := 2) K hX hbl hw.2.2.2.1 (lv_at hl 3 rfl) (lv_at hl 0 rfl) (by decide) hk hL d_law_994 d_law_995 d_law_996 d_law_997 d_law_998 rfl ?_
  refine law_arg (i := 3) K hX hbl hw.2.2.2.1 (lv_at hl 3 rfl) (lv_at hl 0 rfl) (by decide) hk hL d_law_999 d_law_1000 d_law_1001 d_law_1002 d_law_1003 rfl ?_
  refine n_WVI (ws0 := Wd cA u2 shM μ) (As := [.int (xs (k + 1)), .int (xs (k + 2)), .int (xs (k + 3))]) (rest := []) (q := 20) (sh := shC.take 50) K hw.swap hC1 hl.1 (c_Main_laws (l := l) (D := D) (cA := cA) (ad := u1) (s0 := σ) (nC := 50) (Nat.le_of_ble_eq_true rfl) hF1) (sh_Main (Nat.le_of_ble_eq_true rfl)) rfl (tb_gV w_898 w_899 w_900 w_63 w_901) a_Main_laws ⟨rfl, rfl, Nat.le_of_ble_eq_true rfl, Nat.le_of_ble_eq_true rfl⟩ rfl rfl (by decide) hcs d_law_1004 (fun H locs hw => ?_)
  have hw : Wn D cA _ s (Wd cA u1 shC σ' ++ Wd cA u2 shM μ) H locs := hw.swap
  refine lv_aload_n hx hb d_law_1007 rfl (lv_at hl 1 rfl) ?_
  refine law_arg (i := 1) K hX hbl hw.2.2.2.1 (lv_at hl 3 rfl) (lv_at hl 0 rfl) (by decide) hk hL d_law_1008 d_law_1009 d_law_1010 d_law_1011 d_law_1012 rfl ?_
  refine law_arg (i := 2) K hX hbl hw.2.2.2.1 (lv_at hl 3 rfl) (lv_at hl 0 rfl) (by decide) hk hL d_law_1013 d_law_1014 d_law_1015 d_law_1016 d_law_1017 rfl ?_
  refine law_arg (i := 3) K hX hbl hw.2.2.2.1 (lv_at hl 3 rfl) (lv_at hl 0 rfl) (by decide) hk hL d_law_1018 d_law_1019 d_law_1020 d_law_1021 d_law_1022 rfl ?_
  refine n_WVI (ws0 := Wd cA u1 shC σ') (As := [.int (xs (k + 1)), .int (xs (k + 2)), .int (xs (k + 3))]) (rest := [.int r]) (q := 0) K hw hC2 hl.1 (c_Model_laws (l := l) (D := D) (cA := cA) (ad := u2) (s0 := μ) hF2) sh_Model rfl (tb_gV w_1355 w_1356 w_1357 w_80 w_1358) a_Model_laws ⟨rfl, rfl, Nat.le_of_ble_eq_true rfl, Nat.le_of_ble_eq_true rfl⟩ rfl rfl (Nat.le_of_ble_eq_true rfl) hcs d_law_1023 (fun H locs hw => ?_)
  refine lv_icmp_eq (tgt := 1432) hx hb d_law_1026 (by decide) (fun _ => ?_) (fun z => absurd rfl z)
  exact kk _ _ _ _ _ _ _ hR hl hw
set_option maxHeartbeats 1000000 in
theorem law_23 (K : Fx p s m #[Value.ref b] meth c code 4 R_law ret) (hC1 : Cst u1 (fun q => s.heap.size ≤ q) s s.heap) (hC2 : Cst u2 (fun q => s.heap.size ≤ q) s s.heap) (hX : va_X b L xs s s.heap) (hbl : b < s.heap.size) (hL : L ≤ 3584) (hcs : cells ≤ room_1.cells ∧ slots ≤ room_1.slots) (h : Rel σ μ na nt) (hk : k + 7 ≤ L) (kk : ∀ (H : Heap) (locs : List Loc) (ls : Array Slot) (σ' μ' : St) (na' nt' : Nat), Rel σ' μ' na' nt' → lv_has ls 4 [(3, .int (nI k)), (2, .ref (u2 0)), (1, .ref (u1 20)), (0, .ref b)] → Wn D cA (fun q => s.heap.size ≤ q) s (Wd cA u1 shC σ' ++ Wd cA u2 shM μ') H locs → W p l e room_1 s m #[Value.ref b] below meth c H locs cells slots Q (F0 m 1432 ls [])) (hl : lv_has ls 4 [(3, .int (nI k)), (2, .ref (u2 0)), (1, .ref (u1 20)), (0, .ref b)]) (hw : Wn D cA (fun q => s.heap.size ≤ q) s (Wd cA u1 shC σ ++ Wd cA u2 shM μ) H locs) : W p l e room_1 s m #[Value.ref b] below meth c H locs cells slots Q (F0 m 1031 ls []) := by
  have hx := K.1.1; have hb := K.1.2.1
  obtain ⟨r, σ', μ', hF1, hF2, hR⟩ := op_film h (xs (k + 1)) (xs (k + 2)) (xs (k + 3))
  refine lv_aload_n hx hb d_law_1031 rfl (lv_at hl 2 rfl) ?_
  refine law_arg (i := 1) K hX hbl hw.2.2.2.1 (lv_at hl 3 rfl) (lv_at hl 0 rfl) (by decide) hk hL d_law_1032 d_law_1033 d_law_1034 d_law_1035 d_law_1036 rfl ?_
  refine law_arg (i := 2) K hX hbl hw.2.2.2.1 (lv_at hl 3 rfl) (lv_at hl 0 rfl) (by decide) hk hL d_law_1037 d_law_1038 d_law_1039 d_law_1040 d_law_1041 rfl ?_
  refine law_arg (i := 3) K hX hbl hw.2.2.2.1 (lv_at hl 3 rfl) (lv_at hl 0 rfl) (by decide) hk hL d_law_1042 d_law_1043 d_law_1044 d_law_1045 d_law_1046 rfl ?_
  refine n_WVI (ws0 := Wd cA u2 shM μ) (As := [.int (xs (k + 1)), .int (xs (k + 2)), .int (xs (k + 3))]) (rest := []) (q := 20) (sh := shC.take 50) K hw.swap hC1 hl.1 (c_Main_film (l := l) (D := D) (cA := cA) (ad := u1) (s0 := σ) (nC := 50) (Nat.le_of_ble_eq_true rfl) hF1) (sh_Main (Nat.le_of_ble_eq_true rfl)) rfl (tb_gV w_902 w_903 w_904 w_63 w_905) a_Main_film ⟨rfl, rfl, Nat.le_of_ble_eq_true rfl, Nat.le_of_ble_eq_true rfl⟩ rfl rfl (by decide) hcs d_law_1047 (fun H locs hw => ?_)
  have hw : Wn D cA _ s (Wd cA u1 shC σ' ++ Wd cA u2 shM μ) H locs := hw.swap
  refine lv_aload_n hx hb d_law_1050 rfl (lv_at hl 1 rfl) ?_
  refine law_arg (i := 1) K hX hbl hw.2.2.2.1 (lv_at hl 3 rfl) (lv_at hl 0 rfl) (by decide) hk hL d_law_1051 d_law_1052 d_law_1053 d_law_1054 d_law_1055 rfl ?_
  refine law_arg (i := 2) K hX hbl hw.2.2.2.1 (lv_at hl 3 rfl) (lv_at hl 0 rfl) (by decide) hk hL d_law_1056 d_law_1057 d_law_1058 d_law_1059 d_law_1060 rfl ?_
  refine law_arg (i := 3) K hX hbl hw.2.2.2.1 (lv_at hl 3 rfl) (lv_at hl 0 rfl) (by decide) hk hL d_law_1061 d_law_1062 d_law_1063 d_law_1064 d_law_1065 rfl ?_
  refine n_WVI (ws0 := Wd cA u1 shC σ') (As := [.int (xs (k + 1)), .int (xs (k + 2)), .int (xs (k + 3))]) (rest := [.int r]) (q := 0) K hw hC2 hl.1 (c_Model_film (l := l) (D := D) (cA := cA) (ad := u2) (s0 := μ) hF2) sh_Model rfl (tb_gV w_1359 w_1360 w_1361 w_80 w_1362) a_Model_film ⟨rfl, rfl, Nat.le_of_ble_eq_true rfl, Nat.le_of_ble_eq_true rfl⟩ rfl rfl (Nat.le_of_ble_eq_true rfl) hcs d_law_1066 (fun H locs hw => ?_)
  refine lv_icmp_eq (tgt := 1432) hx hb d_law_1069 (by decide) (fun _ => ?_) (fun z => absurd rfl z)
  exact kk _ _ _ _ _ _ _ hR hl hw
set_option maxHeartbeats 1000000 in
theorem law_24 (K : Fx p s m #[Value.ref b] meth c code 4 R_law ret) (hC1 : Cst u1 (fun q => s.heap.size ≤ q) s s.heap) (hC2 : Cst u2 (fun q => s.heap.size ≤ q) s s.heap) (hX : va_X b L xs s s.heap) (hbl : b < s.heap.size) (hL : L ≤ 3584) (hcs : cells ≤ room_1.cells ∧ slots ≤ room_1.slots) (h : Rel σ μ na nt) (hk : k + 7 ≤ L) (kk : ∀ (H : Heap) (locs : List Loc) (ls : Array Slot) (σ' μ' : St) (na' nt' : Nat), Rel σ' μ' na' nt' → lv_has ls 4 [(3, .int (nI k)), (2, .ref (u2 0)), (1, .ref (u1 20)), (0, .ref b)] → Wn D cA (fun q => s.heap.size ≤ q) s (Wd cA u1 shC σ' ++ Wd cA u2 shM μ') H locs → W p l e room_1 s m #[Value.ref b] below meth c H locs cells slots Q (F0 m 1432 ls [])) (hl : lv_has ls 4 [(3, .int (nI k)), (2, .ref (u2 0)), (1, .ref (u1 20)), (0, .ref b)]) (hw : Wn D cA (fun q => s.heap.size ≤ q) s (Wd cA u1 shC σ ++ Wd cA u2 shM μ) H locs) : W p l e room_1 s m #[Value.ref b] below meth c H locs cells slots Q (F0 m 1074 ls []) := by
  have hx := K.1.1; have hb := K.1.2.1
  obtain ⟨r, σ', μ', hF1, hF2, hR⟩ := op_drawn h (xs (k + 1)) (xs (k + 2)) (xs (k + 3))
  refine lv_aload_n hx hb d_law_1074 rfl (lv_at hl 2 rfl) ?_
  refine law_arg (i := 1) K hX hbl hw.2.2.2.1 (lv_at hl 3 rfl) (lv_at hl 0 rfl) (by decide) hk hL d_law_1075 d_law_1076 d_law_1077 d_law_1078 d_law_1079 rfl ?_
  refine law_arg (i := 2) K hX hbl hw.2.2.2.1 (lv_at hl 3 rfl) (lv_at hl 0 rfl) (by decide) hk hL d_law_1080 d_law_1081 d_law_1082 d_law_1083 d_law_1084 rfl ?_
  refine law_arg (i := 3) K hX hbl hw.2.2.2.1 (lv_at hl 3 rfl) (lv_at hl 0 rfl) (by decide) hk hL d_law_1085 d_law_1086 d_law_1087 d_law_1088 d_law_1089 rfl ?_
  refine n_WVI (ws0 := Wd cA u2 shM μ) (As := [.int (xs (k + 1)), .int (xs (k + 2)), .int (xs (k + 3))]) (rest := []) (q := 20) (sh := shC.take 50) K hw.swap hC1 hl.1 (c_Main_drawn (l := l) (D := D) (cA := cA) (ad := u1) (s0 := σ) (nC := 50) (Nat.le_of_ble_eq_true rfl) hF1) (sh_Main (Nat.le_of_ble_eq_true rfl)) rfl (tb_gV w_915 w_916 w_917 w_63 w_918) a_Main_drawn ⟨rfl, rfl, Nat.le_of_ble_eq_true rfl, Nat.le_of_ble_eq_true rfl⟩ rfl rfl (by decide) hcs d_law_1090 (fun H locs hw => ?_)
  have hw : Wn D cA _ s (Wd cA u1 shC σ' ++ Wd cA u2 shM μ) H locs := hw.swap
  refine lv_aload_n hx hb d_law_1093 rfl (lv_at hl 1 rfl) ?_
  refine law_arg (i := 1) K hX hbl hw.2.2.2.1 (lv_at hl 3 rfl) (lv_at hl 0 rfl) (by decide) hk hL d_law_1094 d_law_1095 d_law_1096 d_law_1097 d_law_1098 rfl ?_
  refine law_arg (i := 2) K hX hbl hw.2.2.2.1 (lv_at hl 3 rfl) (lv_at hl 0 rfl) (by decide) hk hL d_law_1099 d_law_1100 d_law_1101 d_law_1102 d_law_1103 rfl ?_
  refine law_arg (i := 3) K hX hbl hw.2.2.2.1 (lv_at hl 3 rfl) (lv_at hl 0 rfl) (by decide) hk hL d_law_1104 d_law_1105 d_law_1106 d_law_1107 d_law_1108 rfl ?_
  refine n_WVI (ws0 := Wd cA u1 shC σ') (As := [.int (xs (k + 1)), .int (xs (k + 2)), .int (xs (k + 3))]) (rest := [.int r]) (q := 0) K hw hC2 hl.1 (c_Model_drawn (l := l) (D := D) (cA := cA) (ad := u2) (s0 := μ) hF2) sh_Model rfl (tb_gV w_1363 w_1364 w_1365 w_80 w_1366) a_Model_drawn ⟨rfl, rfl, Nat.le_of_ble_eq_true rfl, Nat.le_of_ble_eq_true rfl⟩ rfl rfl (Nat.le_of_ble_eq_true rfl) hcs d_law_1109 (fun H locs hw => ?_)
  refine lv_icmp_eq (tgt := 1432) hx hb d_law_1112 (by decide) (fun _ => ?_) (fun z => absurd rfl z)
  exact kk _ _ _ _ _ _ _ hR hl hw
set_option maxHeartbeats 1000000 in
theorem law_25 (K : Fx p s m #[Value.ref b] meth c code 4 R_law ret) (hC1 : Cst u1 (fun q => s.heap.size ≤ q) s s.heap) (hC2 : Cst u2 (fun q => s.heap.size ≤ q) s s.heap) (hX : va_X b L xs s s.heap) (hbl : b < s.heap.size) (hL : L ≤ 3584) (hcs : cells ≤ room_1.cells ∧ slots ≤ room_1.slots) (h : Rel σ μ na nt) (hk : k + 7 ≤ L) (kk : ∀ (H : Heap) (locs : List Loc) (ls : Array Slot) (σ' μ' : St) (na' nt' : Nat), Rel σ' μ' na' nt' → lv_has ls 4 [(3, .int (nI k)), (2, .ref (u2 0)), (1, .ref (u1 20)), (0, .ref b)] → Wn D cA (fun q => s.heap.size ≤ q) s (Wd cA u1 shC σ' ++ Wd cA u2 shM μ') H locs → W p l e room_1 s m #[Value.ref b] below meth c H locs cells slots Q (F0 m 1432 ls [])) (hl : lv_has ls 4 [(3, .int (nI k)), (2, .ref (u2 0)), (1, .ref (u1 20)), (0, .ref b)]) (hw : Wn D cA (fun q => s.heap.size ≤ q) s (Wd cA u1 shC σ ++ Wd cA u2 shM μ) H locs) : W p l e room_1 s m #[Value.ref b] below meth c H locs cells slots Q (F0 m 1117 ls []) := by
  have hx := K.1.1; have hb := K.1.2.1
  obtain ⟨r, σ', μ', hF1, hF2, hR⟩ := op_odds h (xs (k + 1)) (xs (k + 2)) (xs (k + 3)) (xs (k + 4))
  refine lv_aload_n hx hb d_law_1117 rfl (lv_at hl 2 rfl) ?_
  refine law_arg (i := 1) K hX hbl hw.2.2.2.1 (lv_at hl 3 rfl) (lv_at hl 0 rfl) (by decide) hk hL d_law_1118 d_law_1119 d_law_1120 d_law_1121 d_law_1122 rfl ?_
  refine law_arg (i := 2) K hX hbl hw.2.2.2.1 (lv_at hl 3 rfl) (lv_at hl 0 rfl) (by decide) hk hL d_law_1123 d_law_1124 d_law_1125 d_law_1126 d_law_1127 rfl ?_
  refine law_arg (i := 3) K hX hbl hw.2.2.2.1 (lv_at hl 3 rfl) (lv_at hl 0 rfl) (by decide) hk hL d_law_1128 d_law_1129 d_law_1130 d_law_1131 d_law_1132 rfl ?_
  refine law_arg (i := 4) K hX hbl hw.2.2.2.1 (lv_at hl 3 rfl) (lv_at hl 0 rfl) (by decide) hk hL d_law_1133 d_law_1134 d_law_1135 d_law_1136 d_law_1137 rfl ?_
  refine n_WVL (ws0 := Wd cA u2 shM μ) (As := [.int (xs (k + 1)), .int (xs (k + 2)), .int (xs (k + 3)), .int (xs (k + 4))]) (rest := []) (q := 20) (sh := shC.take 50) K hw.swap hC1 hl.1 (c_Main_odds (l := l) (D := D) (cA := cA) (ad := u1) (s0 := σ) (nC := 50) (Nat.le_of_ble_eq_true rfl) hF1) (sh_Main (Nat.le_of_ble_eq_true rfl)) rfl (tb_gV w_930 w_931 w_932 w_63 w_933) a_Main_odds ⟨rfl, rfl, Nat.le_of_ble_eq_true rfl, Nat.le_of_ble_eq_true rfl⟩ rfl rfl (by decide) hcs d_law_1138 (fun H locs hw => ?_)
  have hw : Wn D cA _ s (Wd cA u1 shC σ' ++ Wd cA u2 shM μ) H locs := hw.swap
  refine lv_aload_n hx hb d_law_1141 rfl (lv_at hl 1 rfl) ?_
  refine law_arg (i := 1) K hX hbl hw.2.2.2.1 (lv_at hl 3 rfl) (lv_at hl 0 rfl) (by decide) hk hL d_law_1142 d_law_1143 d_law_1144 d_law_1145 d_law_1146 rfl ?_
  refine law_arg (i := 2) K hX hbl hw.2.2.2.1 (lv_at hl 3 rfl) (lv_at hl 0 rfl) (by decide) hk hL d_law_1147 d_law_1148 d_law_1149 d_law_1150 d_law_1151 rfl ?_
  refine law_arg (i := 3) K hX hbl hw.2.2.2.1 (lv_at hl 3 rfl) (lv_at hl 0 rfl) (by decide) hk hL d_law_1152 d_law_1153 d_law_1154 d_law_1155 d_law_1156 rfl ?_
  refine law_arg (i := 4) K hX hbl hw.2.2.2.1 (lv_at hl 3 rfl) (lv_at hl 0 rfl) (by decide) hk hL d_law_1157 d_law_1158 d_law_1159 d_law_1160 d_law_1161 rfl ?_
  refine n_WVL (ws0 := Wd cA u1 shC σ') (As := [.int (xs (k + 1)), .int (xs (k + 2)), .int (xs (k + 3)), .int (xs (k + 4))]) (rest := [.long r]) (q := 0) K hw hC2 hl.1 (c_Model_odds (l := l) (D := D) (cA := cA) (ad := u2) (s0 := μ) hF2) sh_Model rfl (tb_gV w_1375 w_1376 w_1377 w_80 w_1378) a_Model_odds ⟨rfl, rfl, Nat.le_of_ble_eq_true rfl, Nat.le_of_ble_eq_true rfl⟩ rfl rfl (Nat.le_of_ble_eq_true rfl) hcs d_law_1162 (fun H locs hw => ?_)
  refine W.lcmp hx hb d_law_1165 ?_
  refine lv_if_eq (tgt := 1432) hx hb d_law_1166 (by decide) (fun _ => ?_) (fun z => absurd (lcmp_self r) z)
  exact kk _ _ _ _ _ _ _ hR hl hw
set_option maxHeartbeats 1000000 in
theorem law_26 (K : Fx p s m #[Value.ref b] meth c code 4 R_law ret) (hC1 : Cst u1 (fun q => s.heap.size ≤ q) s s.heap) (hC2 : Cst u2 (fun q => s.heap.size ≤ q) s s.heap) (hX : va_X b L xs s s.heap) (hbl : b < s.heap.size) (hL : L ≤ 3584) (hcs : cells ≤ room_1.cells ∧ slots ≤ room_1.slots) (h : Rel σ μ na nt) (hk : k + 7 ≤ L) (kk : ∀ (H : Heap) (locs : List Loc) (ls : Array Slot) (σ' μ' : St) (na' nt' : Nat), Rel σ' μ' na' nt' → lv_has ls 4 [(3, .int (nI k)), (2, .ref (u2 0)), (1, .ref (u1 20)), (0, .ref b)] → Wn D cA (fun q => s.heap.size ≤ q) s (Wd cA u1 shC σ' ++ Wd cA u2 shM μ') H locs → W p l e room_1 s m #[Value.ref b] below meth c H locs cells slots Q (F0 m 1432 ls [])) (hl : lv_has ls 4 [(3, .int (nI k)), (2, .ref (u2 0)), (1, .ref (u1 20)), (0, .ref b)]) (hw : Wn D cA (fun q => s.heap.size ≤ q) s (Wd cA u1 shC σ ++ Wd cA u2 shM μ) H locs) : W p l e room_1 s m #[Value.ref b] below meth c H locs cells slots Q (F0 m 1171 ls []) := by
  have hx := K.1.1; have hb := K.1.2.1
  obtain ⟨r, σ', μ', hF1, hF2, hR⟩ := op_image h
  refine lv_aload_n hx hb d_law_1171 rfl (lv_at hl 2 rfl) ?_
  refine n_WVI (ws0 := Wd cA u2 shM μ) (As := []) (rest := []) (q := 20) (sh := shC.take 50) K hw.swap hC1 hl.1 (c_Main_image (l := l) (D := D) (cA := cA) (ad := u1) (s0 := σ) (nC := 50) (Nat.le_of_ble_eq_true rfl) hF1) (sh_Main (Nat.le_of_ble_eq_true rfl)) rfl (tb_gV w_935 w_936 w_937 w_63 w_938) a_Main_image ⟨rfl, rfl, Nat.le_of_ble_eq_true rfl, Nat.le_of_ble_eq_true rfl⟩ rfl rfl (by decide) hcs d_law_1172 (fun H locs hw => ?_)
  have hw : Wn D cA _ s (Wd cA u1 shC σ' ++ Wd cA u2 shM μ) H locs := hw.swap
  refine lv_aload_n hx hb d_law_1175 rfl (lv_at hl 1 rfl) ?_
  refine n_WVI (ws0 := Wd cA u1 shC σ') (As := []) (rest := [.int r]) (q := 0) K hw hC2 hl.1 (c_Model_image (l := l) (D := D) (cA := cA) (ad := u2) (s0 := μ) hF2) sh_Model rfl (tb_gV w_1383 w_1384 w_1385 w_80 w_1386) a_Model_image ⟨rfl, rfl, Nat.le_of_ble_eq_true rfl, Nat.le_of_ble_eq_true rfl⟩ rfl rfl (Nat.le_of_ble_eq_true rfl) hcs d_law_1176 (fun H locs hw => ?_)
  refine lv_icmp_eq (tgt := 1432) hx hb d_law_1179 (by decide) (fun _ => ?_) (fun z => absurd rfl z)
  exact kk _ _ _ _ _ _ _ hR hl hw
set_option maxHeartbeats 1000000 in
theorem law_27 (K : Fx p s m #[Value.ref b] meth c code 4 R_law ret) (hC1 : Cst u1 (fun q => s.heap.size ≤ q) s s.heap) (hC2 : Cst u2 (fun q => s.heap.size ≤ q) s s.heap) (hX : va_X b L xs s s.heap) (hbl : b < s.heap.size) (hL : L ≤ 3584) (hcs : cells ≤ room_1.cells ∧ slots ≤ room_1.slots) (h : Rel σ μ na nt) (hk : k + 7 ≤ L) (kk : ∀ (H : Heap) (locs : List Loc) (ls : Array Slot) (σ' μ' : St) (na' nt' : Nat), Rel σ' μ' na' nt' → lv_has ls 4 [(3, .int (nI k)), (2, .ref (u2 0)), (1, .ref (u1 20)), (0, .ref b)] → Wn D cA (fun q => s.heap.size ≤ q) s (Wd cA u1 shC σ' ++ Wd cA u2 shM μ') H locs → W p l e room_1 s m #[Value.ref b] below meth c H locs cells slots Q (F0 m 1432 ls [])) (hl : lv_has ls 4 [(3, .int (nI k)), (2, .ref (u2 0)), (1, .ref (u1 20)), (0, .ref b)]) (hw : Wn D cA (fun q => s.heap.size ≤ q) s (Wd cA u1 shC σ ++ Wd cA u2 shM μ) H locs) : W p l e room_1 s m #[Value.ref b] below meth c H locs cells slots Q (F0 m 1184 ls []) := by
  have hx := K.1.1; have hb := K.1.2.1
  obtain ⟨r, σ', μ', na', hF1, hF2, hR⟩ := op_back h
  refine lv_aload_n hx hb d_law_1184 rfl (lv_at hl 2 rfl) ?_
  refine n_WVI (ws0 := Wd cA u2 shM μ) (As := []) (rest := []) (q := 20) (sh := shC.take 50) K hw.swap hC1 hl.1 (c_Main_back (l := l) (D := D) (cA := cA) (ad := u1) (s0 := σ) (nC := 50) (Nat.le_of_ble_eq_true rfl) hF1) (sh_Main (Nat.le_of_ble_eq_true rfl)) rfl (tb_gV w_939 w_940 w_941 w_63 w_942) a_Main_back ⟨rfl, rfl, Nat.le_of_ble_eq_true rfl, Nat.le_of_ble_eq_true rfl⟩ rfl rfl (by decide) hcs d_law_1185 (fun H locs hw => ?_)
  have hw : Wn D cA _ s (Wd cA u1 shC σ' ++ Wd cA u2 shM μ) H locs := hw.swap
  refine lv_aload_n hx hb d_law_1188 rfl (lv_at hl 1 rfl) ?_
  refine n_WVI (ws0 := Wd cA u1 shC σ') (As := []) (rest := [.int r]) (q := 0) K hw hC2 hl.1 (c_Model_back (l := l) (D := D) (cA := cA) (ad := u2) (s0 := μ) hF2) sh_Model rfl (tb_gV w_1387 w_1388 w_1389 w_80 w_1390) a_Model_back ⟨rfl, rfl, Nat.le_of_ble_eq_true rfl, Nat.le_of_ble_eq_true rfl⟩ rfl rfl (Nat.le_of_ble_eq_true rfl) hcs d_law_1189 (fun H locs hw => ?_)
  refine lv_icmp_eq (tgt := 1432) hx hb d_law_1192 (by decide) (fun _ => ?_) (fun z => absurd rfl z)
  exact kk _ _ _ _ _ _ _ hR hl hw
set_option maxHeartbeats 1000000 in
theorem law_28 (K : Fx p s m #[Value.ref b] meth c code 4 R_law ret) (hC1 : Cst u1 (fun q => s.heap.size ≤ q) s s.heap) (hC2 : Cst u2 (fun q => s.heap.size ≤ q) s s.heap) (hX : va_X b L xs s s.heap) (hbl : b < s.heap.size) (hL : L ≤ 3584) (hcs : cells ≤ room_1.cells ∧ slots ≤ room_1.slots) (h : Rel σ μ na nt) (hk : k + 7 ≤ L) (kk : ∀ (H : Heap) (locs : List Loc) (ls : Array Slot) (σ' μ' : St) (na' nt' : Nat), Rel σ' μ' na' nt' → lv_has ls 4 [(3, .int (nI k)), (2, .ref (u2 0)), (1, .ref (u1 20)), (0, .ref b)] → Wn D cA (fun q => s.heap.size ≤ q) s (Wd cA u1 shC σ' ++ Wd cA u2 shM μ') H locs → W p l e room_1 s m #[Value.ref b] below meth c H locs cells slots Q (F0 m 1432 ls [])) (hl : lv_has ls 4 [(3, .int (nI k)), (2, .ref (u2 0)), (1, .ref (u1 20)), (0, .ref b)]) (hw : Wn D cA (fun q => s.heap.size ≤ q) s (Wd cA u1 shC σ ++ Wd cA u2 shM μ) H locs) : W p l e room_1 s m #[Value.ref b] below meth c H locs cells slots Q (F0 m 1197 ls []) := by
  have hx := K.1.1; have hb := K.1.2.1
  obtain ⟨r, σ', μ', hF1, hF2, hR⟩ := op_sheet h (xs (k + 1)) (xs (k + 2)) (xs (k + 3))
  refine lv_aload_n hx hb d_law_1197 rfl (lv_at hl 2 rfl) ?_
  refine law_arg (i := 1) K hX hbl hw.2.2.2.1 (lv_at hl 3 rfl) (lv_at hl 0 rfl) (by decide) hk hL d_law_1198 d_law_1199 d_law_1200 d_law_1201 d_law_1202 rfl ?_
  refine law_arg (i := 2) K hX hbl hw.2.2.2.1 (lv_at hl 3 rfl) (lv_at hl 0 rfl) (by decide) hk hL d_law_1203 d_law_1204 d_law_1205 d_law_1206 d_law_1207 rfl ?_
  refine law_arg (i := 3) K hX hbl hw.2.2.2.1 (lv_at hl 3 rfl) (lv_at hl 0 rfl) (by decide) hk hL d_law_1208 d_law_1209 d_law_1210 d_law_1211 d_law_1212 rfl ?_
  refine n_WVI (ws0 := Wd cA u2 shM μ) (As := [.int (xs (k + 1)), .int (xs (k + 2)), .int (xs (k + 3))]) (rest := []) (q := 20) (sh := shC.take 50) K hw.swap hC1 hl.1 (c_Main_sheet (l := l) (D := D) (cA := cA) (ad := u1) (s0 := σ) (nC := 50) (Nat.le_of_ble_eq_true rfl) hF1) (sh_Main (Nat.le_of_ble_eq_true rfl)) rfl (tb_gV w_943 w_944 w_945 w_63 w_946) a_Main_sheet ⟨rfl, rfl, Nat.le_of_ble_eq_true rfl, Nat.le_of_ble_eq_true rfl⟩ rfl rfl (by decide) hcs d_law_1213 (fun H locs hw => ?_)
  have hw : Wn D cA _ s (Wd cA u1 shC σ' ++ Wd cA u2 shM μ) H locs := hw.swap
  refine lv_aload_n hx hb d_law_1216 rfl (lv_at hl 1 rfl) ?_
  refine law_arg (i := 1) K hX hbl hw.2.2.2.1 (lv_at hl 3 rfl) (lv_at hl 0 rfl) (by decide) hk hL d_law_1217 d_law_1218 d_law_1219 d_law_1220 d_law_1221 rfl ?_
  refine law_arg (i := 2) K hX hbl hw.2.2.2.1 (lv_at hl 3 rfl) (lv_at hl 0 rfl) (by decide) hk hL d_law_1222 d_law_1223 d_law_1224 d_law_1225 d_law_1226 rfl ?_
  refine law_arg (i := 3) K hX hbl hw.2.2.2.1 (lv_at hl 3 rfl) (lv_at hl 0 rfl) (by decide) hk hL d_law_1227 d_law_1228 d_law_1229 d_law_1230 d_law_1231 rfl ?_
  refine n_WVI (ws0 := Wd cA u1 shC σ') (As := [.int (xs (k + 1)), .int (xs (k + 2)), .int (xs (k + 3))]) (rest := [.int r]) (q := 0) K hw hC2 hl.1 (c_Model_sheet (l := l) (D := D) (cA := cA) (ad := u2) (s0 := μ) hF2) sh_Model rfl (tb_gV w_1391 w_1392 w_1393 w_80 w_1394) a_Model_sheet ⟨rfl, rfl, Nat.le_of_ble_eq_true rfl, Nat.le_of_ble_eq_true rfl⟩ rfl rfl (Nat.le_of_ble_eq_true rfl) hcs d_law_1232 (fun H locs hw => ?_)
  refine lv_icmp_eq (tgt := 1432) hx hb d_law_1235 (by decide) (fun _ => ?_) (fun z => absurd rfl z)
  exact kk _ _ _ _ _ _ _ hR hl hw
set_option maxHeartbeats 1000000 in
theorem law_29 (K : Fx p s m #[Value.ref b] meth c code 4 R_law ret) (hC1 : Cst u1 (fun q => s.heap.size ≤ q) s s.heap) (hC2 : Cst u2 (fun q => s.heap.size ≤ q) s s.heap) (hX : va_X b L xs s s.heap) (hbl : b < s.heap.size) (hL : L ≤ 3584) (hcs : cells ≤ room_1.cells ∧ slots ≤ room_1.slots) (h : Rel σ μ na nt) (hk : k + 7 ≤ L) (kk : ∀ (H : Heap) (locs : List Loc) (ls : Array Slot) (σ' μ' : St) (na' nt' : Nat), Rel σ' μ' na' nt' → lv_has ls 4 [(3, .int (nI k)), (2, .ref (u2 0)), (1, .ref (u1 20)), (0, .ref b)] → Wn D cA (fun q => s.heap.size ≤ q) s (Wd cA u1 shC σ' ++ Wd cA u2 shM μ') H locs → W p l e room_1 s m #[Value.ref b] below meth c H locs cells slots Q (F0 m 1432 ls [])) (hl : lv_has ls 4 [(3, .int (nI k)), (2, .ref (u2 0)), (1, .ref (u1 20)), (0, .ref b)]) (hw : Wn D cA (fun q => s.heap.size ≤ q) s (Wd cA u1 shC σ ++ Wd cA u2 shM μ) H locs) : W p l e room_1 s m #[Value.ref b] below meth c H locs cells slots Q (F0 m 1240 ls []) := by
  have hx := K.1.1; have hb := K.1.2.1
  obtain ⟨r, σ', μ', hF1, hF2, hR⟩ := op_cell h (xs (k + 1)) (xs (k + 2)) (xs (k + 3))
  refine lv_aload_n hx hb d_law_1240 rfl (lv_at hl 2 rfl) ?_
  refine law_arg (i := 1) K hX hbl hw.2.2.2.1 (lv_at hl 3 rfl) (lv_at hl 0 rfl) (by decide) hk hL d_law_1241 d_law_1242 d_law_1243 d_law_1244 d_law_1245 rfl ?_
  refine law_arg (i := 2) K hX hbl hw.2.2.2.1 (lv_at hl 3 rfl) (lv_at hl 0 rfl) (by decide) hk hL d_law_1246 d_law_1247 d_law_1248 d_law_1249 d_law_1250 rfl ?_
  refine law_arg (i := 3) K hX hbl hw.2.2.2.1 (lv_at hl 3 rfl) (lv_at hl 0 rfl) (by decide) hk hL d_law_1251 d_law_1252 d_law_1253 d_law_1254 d_law_1255 rfl ?_
  refine n_WVI (ws0 := Wd cA u2 shM μ) (As := [.int (xs (k + 1)), .int (xs (k + 2)), .int (xs (k + 3))]) (rest := []) (q := 20) (sh := shC.take 50) K hw.swap hC1 hl.1 (c_Main_cell (l := l) (D := D) (cA := cA) (ad := u1) (s0 := σ) (nC := 50) (Nat.le_of_ble_eq_true rfl) hF1) (sh_Main (Nat.le_of_ble_eq_true rfl)) rfl (tb_gV w_947 w_948 w_949 w_63 w_950) a_Main_cell ⟨rfl, rfl, Nat.le_of_ble_eq_true rfl, Nat.le_of_ble_eq_true rfl⟩ rfl rfl (by decide) hcs d_law_1256 (fun H locs hw => ?_)
  have hw : Wn D cA _ s (Wd cA u1 shC σ' ++ Wd cA u2 shM μ) H locs := hw.swap
  refine lv_aload_n hx hb d_law_1259 rfl (lv_at hl 1 rfl) ?_
  refine law_arg (i := 1) K hX hbl hw.2.2.2.1 (lv_at hl 3 rfl) (lv_at hl 0 rfl) (by decide) hk hL d_law_1260 d_law_1261 d_law_1262 d_law_1263 d_law_1264 rfl ?_
  refine law_arg (i := 2) K hX hbl hw.2.2.2.1 (lv_at hl 3 rfl) (lv_at hl 0 rfl) (by decide) hk hL d_law_1265 d_law_1266 d_law_1267 d_law_1268 d_law_1269 rfl ?_
  refine law_arg (i := 3) K hX hbl hw.2.2.2.1 (lv_at hl 3 rfl) (lv_at hl 0 rfl) (by decide) hk hL d_law_1270 d_law_1271 d_law_1272 d_law_1273 d_law_1274 rfl ?_
  refine n_WVI (ws0 := Wd cA u1 shC σ') (As := [.int (xs (k + 1)), .int (xs (k + 2)), .int (xs (k + 3))]) (rest := [.int r]) (q := 0) K hw hC2 hl.1 (c_Model_cell (l := l) (D := D) (cA := cA) (ad := u2) (s0 := μ) hF2) sh_Model rfl (tb_gV w_1395 w_1396 w_1397 w_80 w_1398) a_Model_cell ⟨rfl, rfl, Nat.le_of_ble_eq_true rfl, Nat.le_of_ble_eq_true rfl⟩ rfl rfl (Nat.le_of_ble_eq_true rfl) hcs d_law_1275 (fun H locs hw => ?_)
  refine lv_icmp_eq (tgt := 1432) hx hb d_law_1278 (by decide) (fun _ => ?_) (fun z => absurd rfl z)
  exact kk _ _ _ _ _ _ _ hR hl hw
set_option maxHeartbeats 1000000 in
theorem law_30 (K : Fx p s m #[Value.ref b] meth c code 4 R_law ret) (hC1 : Cst u1 (fun q => s.heap.size ≤ q) s s.heap) (hC2 : Cst u2 (fun q => s.heap.size ≤ q) s s.heap) (hX : va_X b L xs s s.heap) (hbl : b < s.heap.size) (hL : L ≤ 3584) (hcs : cells ≤ room_1.cells ∧ slots ≤ room_1.slots) (h : Rel σ μ na nt) (hk : k + 7 ≤ L) (kk : ∀ (H : Heap) (locs : List Loc) (ls : Array Slot) (σ' μ' : St) (na' nt' : Nat), Rel σ' μ' na' nt' → lv_has ls 4 [(3, .int (nI k)), (2, .ref (u2 0)), (1, .ref (u1 20)), (0, .ref b)] → Wn D cA (fun q => s.heap.size ≤ q) s (Wd cA u1 shC σ' ++ Wd cA u2 shM μ') H locs → W p l e room_1 s m #[Value.ref b] below meth c H locs cells slots Q (F0 m 1432 ls [])) (hl : lv_has ls 4 [(3, .int (nI k)), (2, .ref (u2 0)), (1, .ref (u1 20)), (0, .ref b)]) (hw : Wn D cA (fun q => s.heap.size ≤ q) s (Wd cA u1 shC σ ++ Wd cA u2 shM μ) H locs) : W p l e room_1 s m #[Value.ref b] below meth c H locs cells slots Q (F0 m 1283 ls []) := by
  have hx := K.1.1; have hb := K.1.2.1
  obtain ⟨r, σ', μ', hF1, hF2, hR⟩ := op_copy h (xs (k + 1)) (xs (k + 2)) (xs (k + 3)) (xs (k + 4)) (xs (k + 5))
  refine lv_aload_n hx hb d_law_1283 rfl (lv_at hl 2 rfl) ?_
  refine law_arg (i := 1) K hX hbl hw.2.2.2.1 (lv_at hl 3 rfl) (lv_at hl 0 rfl) (by decide) hk hL d_law_1284 d_law_1285 d_law_1286 d_law_1287 d_law_1288 rfl ?_
  refine law_arg (i := 2) K hX hbl hw.2.2.2.1 (lv_at hl 3 rfl) (lv_at hl 0 rfl) (by decide) hk hL d_law_1289 d_law_1290 d_law_1291 d_law_1292 d_law_1293 rfl ?_
  refine law_arg (i := 3) K hX hbl hw.2.2.2.1 (lv_at hl 3 rfl) (lv_at hl 0 rfl) (by decide) hk hL d_law_1294 d_law_1295 d_law_1296 d_law_1297 d_law_1298 rfl ?_
  refine law_arg (i := 4) K hX hbl hw.2.2.2.1 (lv_at hl 3 rfl) (lv_at hl 0 rfl) (by decide) hk hL d_law_1299 d_law_1300 d_law_1301 d_law_1302 d_law_1303 rfl ?_
  refine law_arg (i := 5) K hX hbl hw.2.2.2.1 (lv_at hl 3 rfl) (lv_at hl 0 rfl) (by decide) hk hL d_law_1304 d_law_1305 d_law_1306 d_law_1307 d_law_1308 rfl ?_
  refine n_WVI (ws0 := Wd cA u2 shM μ) (As := [.int (xs (k + 1)), .int (xs (k + 2)), .int (xs (k + 3)), .int (xs (k + 4)), .int (xs (k + 5))]) (rest := []) (q := 20) (sh := shC.take 50) K hw.swap hC1 hl.1 (c_Main_copy (l := l) (D := D) (cA := cA) (ad := u1) (s0 := σ) (nC := 50) (Nat.le_of_ble_eq_true rfl) hF1) (sh_Main (Nat.le_of_ble_eq_true rfl)) rfl (tb_gV w_952 w_953 w_954 w_63 w_955) a_Main_copy ⟨rfl, rfl, Nat.le_of_ble_eq_true rfl, Nat.le_of_ble_eq_true rfl⟩ rfl rfl (by decide) hcs d_law_1309 (fun H locs hw => ?_)
  have hw : Wn D cA _ s (Wd cA u1 shC σ' ++ Wd cA u2 shM μ) H locs := hw.swap
  refine lv_aload_n hx hb d_law_1312 rfl (lv_at hl 1 rfl) ?_
  refine law_arg (i := 1) K hX hbl hw.2.2.2.1 (lv_at hl 3 rfl) (lv_at hl 0 rfl) (by decide) hk hL d_law_1313 d_law_1314 d_law_1315 d_law_1316 d_law_1317 rfl ?_
  refine law_arg (i := 2) K hX hbl hw.2.2.2.1 (lv_at hl 3 rfl) (lv_at hl 0 rfl) (by decide) hk hL d_law_1318 d_law_1319 d_law_1320 d_law_1321 d_law_1322 rfl ?_
  refine law_arg (i := 3) K hX hbl hw.2.2.2.1 (lv_at hl 3 rfl) (lv_at hl 0 rfl) (by decide) hk hL d_law_1323 d_law_1324 d_law_1325 d_law_1326 d_law_1327 rfl ?_
  refine law_arg (i := 4) K hX hbl hw.2.2.2.1 (lv_at hl 3 rfl) (lv_at hl 0 rfl) (by decide) hk hL d_law_1328 d_law_1329 d_law_1330 d_law_1331 d_law_1332 rfl ?_
  refine law_arg (i := 5) K hX hbl hw.2.2.2.1 (lv_at hl 3 rfl) (lv_at hl 0 rfl) (by decide) hk hL d_law_1333 d_law_1334 d_law_1335 d_law_1336 d_law_1337 rfl ?_
  refine n_WVI (ws0 := Wd cA u1 shC σ') (As := [.int (xs (k + 1)), .int (xs (k + 2)), .int (xs (k + 3)), .int (xs (k + 4)), .int (xs (k + 5))]) (rest := [.int r]) (q := 0) K hw hC2 hl.1 (c_Model_copy (l := l) (D := D) (cA := cA) (ad := u2) (s0 := μ) hF2) sh_Model rfl (tb_gV w_1399 w_1400 w_1401 w_80 w_1402) a_Model_copy ⟨rfl, rfl, Nat.le_of_ble_eq_true rfl, Nat.le_of_ble_eq_true rfl⟩ rfl rfl (Nat.le_of_ble_eq_true rfl) hcs d_law_1338 (fun H locs hw => ?_)
  refine lv_icmp_eq (tgt := 1432) hx hb d_law_1341 (by decide) (fun _ => ?_) (fun z => absurd rfl z)
  exact kk _ _ _ _ _ _ _ hR hl hw
set_option maxHeartbeats 1000000 in
theorem law_31 (K : Fx p s m #[Value.ref b] meth c code 4 R_law ret) (hC1 : Cst u1 (fun q => s.heap.size ≤ q) s s.heap) (hC2 : Cst u2 (fun q => s.heap.size ≤ q) s s.heap) (hX : va_X b L xs s s.heap) (hbl : b < s.heap.size) (hL : L ≤ 3584) (hcs : cells ≤ room_1.cells ∧ slots ≤ room_1.slots) (h : Rel σ μ na nt) (hk : k + 7 ≤ L) (kk : ∀ (H : Heap) (locs : List Loc) (ls : Array Slot) (σ' μ' : St) (na' nt' : Nat), Rel σ' μ' na' nt' → lv_has ls 4 [(3, .int (nI k)), (2, .ref (u2 0)), (1, .ref (u1 20)), (0, .ref b)] → Wn D cA (fun q => s.heap.size ≤ q) s (Wd cA u1 shC σ' ++ Wd cA u2 shM μ') H locs → W p l e room_1 s m #[Value.ref b] below meth c H locs cells slots Q (F0 m 1432 ls [])) (hl : lv_has ls 4 [(3, .int (nI k)), (2, .ref (u2 0)), (1, .ref (u1 20)), (0, .ref b)]) (hw : Wn D cA (fun q => s.heap.size ≤ q) s (Wd cA u1 shC σ ++ Wd cA u2 shM μ) H locs) : W p l e room_1 s m #[Value.ref b] below meth c H locs cells slots Q (F0 m 1346 ls []) := by
  have hx := K.1.1; have hb := K.1.2.1
  obtain ⟨r, σ', μ', na', hF1, hF2, hR⟩ := op_armsBy h (xs (k + 1)) (xs (k + 2)) (xs (k + 3)) (xs (k + 4))
  refine lv_aload_n hx hb d_law_1346 rfl (lv_at hl 2 rfl) ?_
  refine law_arg (i := 1) K hX hbl hw.2.2.2.1 (lv_at hl 3 rfl) (lv_at hl 0 rfl) (by decide) hk hL d_law_1347 d_law_1348 d_law_1349 d_law_1350 d_law_1351 rfl ?_
  refine law_arg (i := 2) K hX hbl hw.2.2.2.1 (lv_at hl 3 rfl) (lv_at hl 0 rfl) (by decide) hk hL d_law_1352 d_law_1353 d_law_1354 d_law_1355 d_law_1356 rfl ?_
  refine law_arg (i := 3) K hX hbl hw.2.2.2.1 (lv_at hl 3 rfl) (lv_at hl 0 rfl) (by decide) hk hL d_law_1357 d_law_1358 d_law_1359 d_law_1360 d_law_1361 rfl ?_
  refine law_arg (i := 4) K hX hbl hw.2.2.2.1 (lv_at hl 3 rfl) (lv_at hl 0 rfl) (by decide) hk hL d_law_1362 d_law_1363 d_law_1364 d_law_1365 d_law_1366 rfl ?_
  refine n_WVI (ws0 := Wd cA u2 shM μ) (As := [.int (xs (k + 1)), .int (xs (k + 2)), .int (xs (k + 3)), .int (xs (k + 4))]) (rest := []) (q := 20) (sh := shC.take 50) K hw.swap hC1 hl.1 (c_Main_armsBy (l := l) (D := D) (cA := cA) (ad := u1) (s0 := σ) (nC := 50) (Nat.le_of_ble_eq_true rfl) hF1) (sh_Main (Nat.le_of_ble_eq_true rfl)) rfl (tb_gV w_963 w_964 w_965 w_63 w_966) a_Main_armsBy ⟨rfl, rfl, Nat.le_of_ble_eq_true rfl, Nat.le_of_ble_eq_true rfl⟩ rfl rfl (by decide) hcs d_law_1367 (fun H locs hw => ?_)
  have hw : Wn D cA _ s (Wd cA u1 shC σ' ++ Wd cA u2 shM μ) H locs := hw.swap
  refine lv_aload_n hx hb d_law_1370 rfl (lv_at hl 1 rfl) ?_
  refine law_arg (i := 1) K hX hbl hw.2.2.2.1 (lv_at hl 3 rfl) (lv_at hl 0 rfl) (by decide) hk hL d_law_1371 d_law_1372 d_law_1373 d_law_1374 d_law_1375 rfl ?_
  refine law_arg (i := 2) K hX hbl hw.2.2.2.1 (lv_at hl 3 rfl) (lv_at hl 0 rfl) (by decide) hk hL d_law_1376 d_law_1377 d_law_1378 d_law_1379 d_law_1380 rfl ?_
  refine law_arg (i := 3) K hX hbl hw.2.2.2.1 (lv_at hl 3 rfl) (lv_at hl 0 rfl) (by decide) hk hL d_law_1381 d_law_1382 d_law_1383 d_law_1384 d_law_1385 rfl ?_
  refine law_arg (i := 4) K hX hbl hw.2.2.2.1 (lv_at hl 3 rfl) (lv_at hl 0 rfl) (by decide) hk hL d_law_1386 d_law_1387 d_law_1388 d_law_1389 d_law_1390 rfl ?_
  refine n_WVI (ws0 := Wd cA u1 shC σ') (As := [.int (xs (k + 1)), .int (xs (k + 2)), .int (xs (k + 3)), .int (xs (k + 4))]) (rest := [.int r]) (q := 0) K hw hC2 hl.1 (c_Model_armsBy (l := l) (D := D) (cA := cA) (ad := u2) (s0 := μ) hF2) sh_Model rfl (tb_gV w_1403 w_1404 w_1405 w_80 w_1406) a_Model_armsBy ⟨rfl, rfl, Nat.le_of_ble_eq_true rfl, Nat.le_of_ble_eq_true rfl⟩ rfl rfl (Nat.le_of_ble_eq_true rfl) hcs d_law_1391 (fun H locs hw => ?_)
  refine lv_icmp_eq (tgt := 1432) hx hb d_law_1394 (by decide) (fun _ => ?_) (fun z => absurd rfl z)
  exact kk _ _ _ _ _ _ _ hR hl hw
set_option maxHeartbeats 1000000 in
theorem law_32 (K : Fx p s m #[Value.ref b] meth c code 4 R_law ret) (hC1 : Cst u1 (fun q => s.heap.size ≤ q) s s.heap) (hC2 : Cst u2 (fun q => s.heap.size ≤ q) s s.heap) (hX : va_X b L xs s s.heap) (hbl : b < s.heap.size) (hL : L ≤ 3584) (hcs : cells ≤ room_1.cells ∧ slots ≤ room_1.slots) (h : Rel σ μ na nt) (hk : k + 7 ≤ L) (kk : ∀ (H : Heap) (locs : List Loc) (ls : Array Slot) (σ' μ' : St) (na' nt' : Nat), Rel σ' μ' na' nt' → lv_has ls 4 [(3, .int (nI k)), (2, .ref (u2 0)), (1, .ref (u1 20)), (0, .ref b)] → Wn D cA (fun q => s.heap.size ≤ q) s (Wd cA u1 shC σ' ++ Wd cA u2 shM μ') H locs → W p l e room_1 s m #[Value.ref b] below meth c H locs cells slots Q (F0 m 1432 ls [])) (hl : lv_has ls 4 [(3, .int (nI k)), (2, .ref (u2 0)), (1, .ref (u1 20)), (0, .ref b)]) (hw : Wn D cA (fun q => s.heap.size ≤ q) s (Wd cA u1 shC σ ++ Wd cA u2 shM μ) H locs) : W p l e room_1 s m #[Value.ref b] below meth c H locs cells slots Q (F0 m 1399 ls []) := by
  have hx := K.1.1; have hb := K.1.2.1
  obtain ⟨r, hF1, hF2⟩ := op_taken h (xs (k + 1)) (xs (k + 2))
  refine lv_aload_n hx hb d_law_1399 rfl (lv_at hl 2 rfl) ?_
  refine law_arg (i := 1) K hX hbl hw.2.2.2.1 (lv_at hl 3 rfl) (lv_at hl 0 rfl) (by decide) hk hL d_law_1400 d_law_1401 d_law_1402 d_law_1403 d_law_1404 rfl ?_
  refine law_arg (i := 2) K hX hbl hw.2.2.2.1 (lv_at hl 3 rfl) (lv_at hl 0 rfl) (by decide) hk hL d_law_1405 d_law_1406 d_law_1407 d_law_1408 d_law_1409 rfl ?_
  refine n_WVI (ws0 := Wd cA u2 shM μ) (As := [.int (xs (k + 1)), .int (xs (k + 2))]) (rest := []) (q := 20) (sh := shC.take 50) K hw.swap hC1 hl.1 (c_Main_taken (l := l) (D := D) (cA := cA) (ad := u1) (s0 := σ) (nC := 50) (Nat.le_of_ble_eq_true rfl) hF1) (sh_Main (Nat.le_of_ble_eq_true rfl)) rfl (tb_gV w_967 w_968 w_969 w_63 w_970) a_Main_taken ⟨rfl, rfl, Nat.le_of_ble_eq_true rfl, Nat.le_of_ble_eq_true rfl⟩ rfl rfl (by decide) hcs d_law_1410 (fun H locs hw => ?_)
  have hw : Wn D cA _ s (Wd cA u1 shC σ ++ Wd cA u2 shM μ) H locs := hw.swap
  refine lv_aload_n hx hb d_law_1413 rfl (lv_at hl 1 rfl) ?_
  refine law_arg (i := 1) K hX hbl hw.2.2.2.1 (lv_at hl 3 rfl) (lv_at hl 0 rfl) (by decide) hk hL d_law_1414 d_law_1415 d_law_1416 d_law_1417 d_law_1418 rfl ?_
  refine law_arg (i := 2) K hX hbl hw.2.2.2.1 (lv_at hl 3 rfl) (lv_at hl 0 rfl) (by decide) hk hL d_law_1419 d_law_1420 d_law_1421 d_law_1422 d_law_1423 rfl ?_
  refine n_WVI (ws0 := Wd cA u1 shC σ) (As := [.int (xs (k + 1)), .int (xs (k + 2))]) (rest := [.int r]) (q := 0) K hw hC2 hl.1 (c_Model_taken (l := l) (D := D) (cA := cA) (ad := u2) (s0 := μ) hF2) sh_Model rfl (tb_gV w_1408 w_1409 w_1410 w_80 w_1411) a_Model_taken ⟨rfl, rfl, Nat.le_of_ble_eq_true rfl, Nat.le_of_ble_eq_true rfl⟩ rfl rfl (Nat.le_of_ble_eq_true rfl) hcs d_law_1424 (fun H locs hw => ?_)
  refine lv_icmp_eq (tgt := 1432) hx hb d_law_1427 (by decide) (fun _ => ?_) (fun z => absurd rfl z)
  exact kk _ _ _ _ _ _ _ h hl hw
end LC
