/-! decode rows -/
abbrev b_Model_init : ByteArray := prog_13_method_1_code
theorem d_Model_init_0 : decode b_Model_init 0 = .ok (.aload_n 0, 1) := by decide +kernel
theorem d_Model_init_1 : decode b_Model_init 1 = .ok (.invokespecial 1, 3) := by decide +kernel
theorem d_Model_init_4 : decode b_Model_init 4 = .ok (.aload_n 0, 1) := by decide +kernel
theorem d_Model_init_5 : decode b_Model_init 5 = .ok (.bipush 6, 2) := by decide +kernel
theorem d_Model_init_7 : decode b_Model_init 7 = .ok (.newarray .int, 2) := by decide +kernel
theorem d_Model_init_9 : decode b_Model_init 9 = .ok (.putfield 7, 3) := by decide +kernel
theorem d_Model_init_12 : decode b_Model_init 12 = .ok (.aload_n 0, 1) := by decide +kernel
theorem d_Model_init_13 : decode b_Model_init 13 = .ok (.bipush 6, 2) := by decide +kernel
theorem d_Model_init_15 : decode b_Model_init 15 = .ok (.newarray .int, 2) := by decide +kernel
theorem d_Model_init_17 : decode b_Model_init 17 = .ok (.putfield 13, 3) := by decide +kernel
theorem d_Model_init_20 : decode b_Model_init 20 = .ok (.aload_n 0, 1) := by decide +kernel
theorem d_Model_init_21 : decode b_Model_init 21 = .ok (.bipush 6, 2) := by decide +kernel
theorem d_Model_init_23 : decode b_Model_init 23 = .ok (.newarray .int, 2) := by decide +kernel
theorem d_Model_init_25 : decode b_Model_init 25 = .ok (.putfield 16, 3) := by decide +kernel
theorem d_Model_init_28 : decode b_Model_init 28 = .ok (.aload_n 0, 1) := by decide +kernel
theorem d_Model_init_29 : decode b_Model_init 29 = .ok (.bipush 6, 2) := by decide +kernel
theorem d_Model_init_31 : decode b_Model_init 31 = .ok (.newarray .int, 2) := by decide +kernel
theorem d_Model_init_33 : decode b_Model_init 33 = .ok (.putfield 19, 3) := by decide +kernel
theorem d_Model_init_36 : decode b_Model_init 36 = .ok (.aload_n 0, 1) := by decide +kernel
theorem d_Model_init_37 : decode b_Model_init 37 = .ok (.bipush 6, 2) := by decide +kernel
theorem d_Model_init_39 : decode b_Model_init 39 = .ok (.newarray .int, 2) := by decide +kernel
theorem d_Model_init_41 : decode b_Model_init 41 = .ok (.putfield 22, 3) := by decide +kernel
theorem d_Model_init_44 : decode b_Model_init 44 = .ok (.aload_n 0, 1) := by decide +kernel
theorem d_Model_init_45 : decode b_Model_init 45 = .ok (.sipush 160, 3) := by decide +kernel
theorem d_Model_init_48 : decode b_Model_init 48 = .ok (.newarray .int, 2) := by decide +kernel
theorem d_Model_init_50 : decode b_Model_init 50 = .ok (.putfield 25, 3) := by decide +kernel
theorem d_Model_init_53 : decode b_Model_init 53 = .ok (.aload_n 0, 1) := by decide +kernel
theorem d_Model_init_54 : decode b_Model_init 54 = .ok (.sipush 1200, 3) := by decide +kernel
theorem d_Model_init_57 : decode b_Model_init 57 = .ok (.newarray .int, 2) := by decide +kernel
theorem d_Model_init_59 : decode b_Model_init 59 = .ok (.putfield 28, 3) := by decide +kernel
theorem d_Model_init_62 : decode b_Model_init 62 = .ok (.aload_n 0, 1) := by decide +kernel
theorem d_Model_init_63 : decode b_Model_init 63 = .ok (.bipush 24, 2) := by decide +kernel
theorem d_Model_init_65 : decode b_Model_init 65 = .ok (.newarray .int, 2) := by decide +kernel
theorem d_Model_init_67 : decode b_Model_init 67 = .ok (.putfield 31, 3) := by decide +kernel
theorem d_Model_init_70 : decode b_Model_init 70 = .ok (.aload_n 0, 1) := by decide +kernel
theorem d_Model_init_71 : decode b_Model_init 71 = .ok (.bipush 6, 2) := by decide +kernel
theorem d_Model_init_73 : decode b_Model_init 73 = .ok (.newarray .int, 2) := by decide +kernel
theorem d_Model_init_75 : decode b_Model_init 75 = .ok (.putfield 34, 3) := by decide +kernel
theorem d_Model_init_78 : decode b_Model_init 78 = .ok (.aload_n 0, 1) := by decide +kernel
theorem d_Model_init_79 : decode b_Model_init 79 = .ok (.bipush 6, 2) := by decide +kernel
theorem d_Model_init_81 : decode b_Model_init 81 = .ok (.newarray .int, 2) := by decide +kernel
theorem d_Model_init_83 : decode b_Model_init 83 = .ok (.putfield 37, 3) := by decide +kernel
theorem d_Model_init_86 : decode b_Model_init 86 = .ok (.aload_n 0, 1) := by decide +kernel
theorem d_Model_init_87 : decode b_Model_init 87 = .ok (.iconst 4, 1) := by decide +kernel
theorem d_Model_init_88 : decode b_Model_init 88 = .ok (.newarray .int, 2) := by decide +kernel
theorem d_Model_init_90 : decode b_Model_init 90 = .ok (.dup, 1) := by decide +kernel
theorem d_Model_init_91 : decode b_Model_init 91 = .ok (.iconst 0, 1) := by decide +kernel
theorem d_Model_init_92 : decode b_Model_init 92 = .ok (.iconst (-1), 1) := by decide +kernel
theorem d_Model_init_93 : decode b_Model_init 93 = .ok (.iastore, 1) := by decide +kernel
theorem d_Model_init_94 : decode b_Model_init 94 = .ok (.dup, 1) := by decide +kernel
theorem d_Model_init_95 : decode b_Model_init 95 = .ok (.iconst 1, 1) := by decide +kernel
theorem d_Model_init_96 : decode b_Model_init 96 = .ok (.iconst (-1), 1) := by decide +kernel
theorem d_Model_init_97 : decode b_Model_init 97 = .ok (.iastore, 1) := by decide +kernel
theorem d_Model_init_98 : decode b_Model_init 98 = .ok (.dup, 1) := by decide +kernel
theorem d_Model_init_99 : decode b_Model_init 99 = .ok (.iconst 2, 1) := by decide +kernel
theorem d_Model_init_100 : decode b_Model_init 100 = .ok (.iconst (-1), 1) := by decide +kernel
theorem d_Model_init_101 : decode b_Model_init 101 = .ok (.iastore, 1) := by decide +kernel
theorem d_Model_init_102 : decode b_Model_init 102 = .ok (.dup, 1) := by decide +kernel
theorem d_Model_init_103 : decode b_Model_init 103 = .ok (.iconst 3, 1) := by decide +kernel
theorem d_Model_init_104 : decode b_Model_init 104 = .ok (.iconst (-1), 1) := by decide +kernel
theorem d_Model_init_105 : decode b_Model_init 105 = .ok (.iastore, 1) := by decide +kernel
theorem d_Model_init_106 : decode b_Model_init 106 = .ok (.putfield 40, 3) := by decide +kernel
theorem d_Model_init_109 : decode b_Model_init 109 = .ok (.aload_n 0, 1) := by decide +kernel
theorem d_Model_init_110 : decode b_Model_init 110 = .ok (.iconst 4, 1) := by decide +kernel
theorem d_Model_init_111 : decode b_Model_init 111 = .ok (.newarray .int, 2) := by decide +kernel
theorem d_Model_init_113 : decode b_Model_init 113 = .ok (.putfield 43, 3) := by decide +kernel
theorem d_Model_init_116 : decode b_Model_init 116 = .ok (.aload_n 0, 1) := by decide +kernel
theorem d_Model_init_117 : decode b_Model_init 117 = .ok (.sipush 160, 3) := by decide +kernel
theorem d_Model_init_120 : decode b_Model_init 120 = .ok (.newarray .int, 2) := by decide +kernel
theorem d_Model_init_122 : decode b_Model_init 122 = .ok (.putfield 46, 3) := by decide +kernel
theorem d_Model_init_125 : decode b_Model_init 125 = .ok (.aload_n 0, 1) := by decide +kernel
theorem d_Model_init_126 : decode b_Model_init 126 = .ok (.bipush 62, 2) := by decide +kernel
theorem d_Model_init_128 : decode b_Model_init 128 = .ok (.newarray .int, 2) := by decide +kernel
theorem d_Model_init_130 : decode b_Model_init 130 = .ok (.dup, 1) := by decide +kernel
theorem d_Model_init_131 : decode b_Model_init 131 = .ok (.iconst 0, 1) := by decide +kernel
theorem d_Model_init_132 : decode b_Model_init 132 = .ok (.bipush 102, 2) := by decide +kernel
theorem d_Model_init_134 : decode b_Model_init 134 = .ok (.iastore, 1) := by decide +kernel
theorem d_Model_init_135 : decode b_Model_init 135 = .ok (.dup, 1) := by decide +kernel
theorem d_Model_init_136 : decode b_Model_init 136 = .ok (.iconst 1, 1) := by decide +kernel
theorem d_Model_init_137 : decode b_Model_init 137 = .ok (.bipush 111, 2) := by decide +kernel
theorem d_Model_init_139 : decode b_Model_init 139 = .ok (.iastore, 1) := by decide +kernel
theorem d_Model_init_140 : decode b_Model_init 140 = .ok (.dup, 1) := by decide +kernel
theorem d_Model_init_141 : decode b_Model_init 141 = .ok (.iconst 2, 1) := by decide +kernel
theorem d_Model_init_142 : decode b_Model_init 142 = .ok (.bipush 114, 2) := by decide +kernel
theorem d_Model_init_144 : decode b_Model_init 144 = .ok (.iastore, 1) := by decide +kernel
theorem d_Model_init_145 : decode b_Model_init 145 = .ok (.dup, 1) := by decide +kernel
theorem d_Model_init_146 : decode b_Model_init 146 = .ok (.iconst 3, 1) := by decide +kernel
theorem d_Model_init_147 : decode b_Model_init 147 = .ok (.bipush 99, 2) := by decide +kernel
theorem d_Model_init_149 : decode b_Model_init 149 = .ok (.iastore, 1) := by decide +kernel
theorem d_Model_init_150 : decode b_Model_init 150 = .ok (.dup, 1) := by decide +kernel
