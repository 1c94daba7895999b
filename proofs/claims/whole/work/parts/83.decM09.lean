/-! decode rows -/
theorem d_Model_init_1098 : decode b_Model_init 1098 = .ok (.newarray .int, 2) := by decide +kernel
theorem d_Model_init_1100 : decode b_Model_init 1100 = .ok (.putfield 61, 3) := by decide +kernel
theorem d_Model_init_1103 : decode b_Model_init 1103 = .ok (.aload_n 0, 1) := by decide +kernel
theorem d_Model_init_1104 : decode b_Model_init 1104 = .ok (.bipush 6, 2) := by decide +kernel
theorem d_Model_init_1106 : decode b_Model_init 1106 = .ok (.newarray .int, 2) := by decide +kernel
theorem d_Model_init_1108 : decode b_Model_init 1108 = .ok (.putfield 64, 3) := by decide +kernel
theorem d_Model_init_1111 : decode b_Model_init 1111 = .ok (.iconst 0, 1) := by decide +kernel
theorem d_Model_init_1112 : decode b_Model_init 1112 = .ok (.istore_n 1, 1) := by decide +kernel
theorem d_Model_init_1113 : decode b_Model_init 1113 = .ok (.iload_n 1, 1) := by decide +kernel
theorem d_Model_init_1114 : decode b_Model_init 1114 = .ok (.bipush 62, 2) := by decide +kernel
theorem d_Model_init_1116 : decode b_Model_init 1116 = .ok (.if_icmp .ge 21, 3) := by decide +kernel
theorem d_Model_init_1119 : decode b_Model_init 1119 = .ok (.aload_n 0, 1) := by decide +kernel
theorem d_Model_init_1120 : decode b_Model_init 1120 = .ok (.getfield 25, 3) := by decide +kernel
theorem d_Model_init_1123 : decode b_Model_init 1123 = .ok (.iload_n 1, 1) := by decide +kernel
theorem d_Model_init_1124 : decode b_Model_init 1124 = .ok (.aload_n 0, 1) := by decide +kernel
theorem d_Model_init_1125 : decode b_Model_init 1125 = .ok (.getfield 49, 3) := by decide +kernel
theorem d_Model_init_1128 : decode b_Model_init 1128 = .ok (.iload_n 1, 1) := by decide +kernel
theorem d_Model_init_1129 : decode b_Model_init 1129 = .ok (.iaload, 1) := by decide +kernel
theorem d_Model_init_1130 : decode b_Model_init 1130 = .ok (.iastore, 1) := by decide +kernel
theorem d_Model_init_1131 : decode b_Model_init 1131 = .ok (.iinc 1 1, 3) := by decide +kernel
theorem d_Model_init_1134 : decode b_Model_init 1134 = .ok (.goto (-21), 3) := by decide +kernel
theorem d_Model_init_1137 : decode b_Model_init 1137 = .ok (.aload_n 0, 1) := by decide +kernel
theorem d_Model_init_1138 : decode b_Model_init 1138 = .ok (.bipush 62, 2) := by decide +kernel
theorem d_Model_init_1140 : decode b_Model_init 1140 = .ok (.putfield 67, 3) := by decide +kernel
theorem d_Model_init_1143 : decode b_Model_init 1143 = .ok (.aload_n 0, 1) := by decide +kernel
theorem d_Model_init_1144 : decode b_Model_init 1144 = .ok (.invokevirtual 71, 3) := by decide +kernel
theorem d_Model_init_1147 : decode b_Model_init 1147 = .ok (.pop, 1) := by decide +kernel
theorem d_Model_init_1148 : decode b_Model_init 1148 = .ok (.return_, 1) := by decide +kernel
