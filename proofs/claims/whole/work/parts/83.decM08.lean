/-! decode rows -/
theorem d_Model_init_955 : decode b_Model_init 955 = .ok (.bipush 76, 2) := by decide +kernel
theorem d_Model_init_957 : decode b_Model_init 957 = .ok (.bipush 32, 2) := by decide +kernel
theorem d_Model_init_959 : decode b_Model_init 959 = .ok (.iastore, 1) := by decide +kernel
theorem d_Model_init_960 : decode b_Model_init 960 = .ok (.dup, 1) := by decide +kernel
theorem d_Model_init_961 : decode b_Model_init 961 = .ok (.bipush 77, 2) := by decide +kernel
theorem d_Model_init_963 : decode b_Model_init 963 = .ok (.bipush 32, 2) := by decide +kernel
theorem d_Model_init_965 : decode b_Model_init 965 = .ok (.iastore, 1) := by decide +kernel
theorem d_Model_init_966 : decode b_Model_init 966 = .ok (.dup, 1) := by decide +kernel
theorem d_Model_init_967 : decode b_Model_init 967 = .ok (.bipush 78, 2) := by decide +kernel
theorem d_Model_init_969 : decode b_Model_init 969 = .ok (.bipush 32, 2) := by decide +kernel
theorem d_Model_init_971 : decode b_Model_init 971 = .ok (.iastore, 1) := by decide +kernel
theorem d_Model_init_972 : decode b_Model_init 972 = .ok (.dup, 1) := by decide +kernel
theorem d_Model_init_973 : decode b_Model_init 973 = .ok (.bipush 79, 2) := by decide +kernel
theorem d_Model_init_975 : decode b_Model_init 975 = .ok (.bipush 32, 2) := by decide +kernel
theorem d_Model_init_977 : decode b_Model_init 977 = .ok (.iastore, 1) := by decide +kernel
theorem d_Model_init_978 : decode b_Model_init 978 = .ok (.dup, 1) := by decide +kernel
theorem d_Model_init_979 : decode b_Model_init 979 = .ok (.bipush 80, 2) := by decide +kernel
theorem d_Model_init_981 : decode b_Model_init 981 = .ok (.bipush 97, 2) := by decide +kernel
theorem d_Model_init_983 : decode b_Model_init 983 = .ok (.iastore, 1) := by decide +kernel
theorem d_Model_init_984 : decode b_Model_init 984 = .ok (.dup, 1) := by decide +kernel
theorem d_Model_init_985 : decode b_Model_init 985 = .ok (.bipush 81, 2) := by decide +kernel
theorem d_Model_init_987 : decode b_Model_init 987 = .ok (.bipush 110, 2) := by decide +kernel
theorem d_Model_init_989 : decode b_Model_init 989 = .ok (.iastore, 1) := by decide +kernel
theorem d_Model_init_990 : decode b_Model_init 990 = .ok (.dup, 1) := by decide +kernel
theorem d_Model_init_991 : decode b_Model_init 991 = .ok (.bipush 82, 2) := by decide +kernel
theorem d_Model_init_993 : decode b_Model_init 993 = .ok (.bipush 100, 2) := by decide +kernel
theorem d_Model_init_995 : decode b_Model_init 995 = .ok (.iastore, 1) := by decide +kernel
theorem d_Model_init_996 : decode b_Model_init 996 = .ok (.dup, 1) := by decide +kernel
theorem d_Model_init_997 : decode b_Model_init 997 = .ok (.bipush 83, 2) := by decide +kernel
theorem d_Model_init_999 : decode b_Model_init 999 = .ok (.bipush 32, 2) := by decide +kernel
theorem d_Model_init_1001 : decode b_Model_init 1001 = .ok (.iastore, 1) := by decide +kernel
theorem d_Model_init_1002 : decode b_Model_init 1002 = .ok (.dup, 1) := by decide +kernel
theorem d_Model_init_1003 : decode b_Model_init 1003 = .ok (.bipush 84, 2) := by decide +kernel
theorem d_Model_init_1005 : decode b_Model_init 1005 = .ok (.bipush 32, 2) := by decide +kernel
theorem d_Model_init_1007 : decode b_Model_init 1007 = .ok (.iastore, 1) := by decide +kernel
theorem d_Model_init_1008 : decode b_Model_init 1008 = .ok (.dup, 1) := by decide +kernel
theorem d_Model_init_1009 : decode b_Model_init 1009 = .ok (.bipush 85, 2) := by decide +kernel
theorem d_Model_init_1011 : decode b_Model_init 1011 = .ok (.bipush 32, 2) := by decide +kernel
theorem d_Model_init_1013 : decode b_Model_init 1013 = .ok (.iastore, 1) := by decide +kernel
theorem d_Model_init_1014 : decode b_Model_init 1014 = .ok (.dup, 1) := by decide +kernel
theorem d_Model_init_1015 : decode b_Model_init 1015 = .ok (.bipush 86, 2) := by decide +kernel
theorem d_Model_init_1017 : decode b_Model_init 1017 = .ok (.bipush 32, 2) := by decide +kernel
theorem d_Model_init_1019 : decode b_Model_init 1019 = .ok (.iastore, 1) := by decide +kernel
theorem d_Model_init_1020 : decode b_Model_init 1020 = .ok (.dup, 1) := by decide +kernel
theorem d_Model_init_1021 : decode b_Model_init 1021 = .ok (.bipush 87, 2) := by decide +kernel
theorem d_Model_init_1023 : decode b_Model_init 1023 = .ok (.bipush 32, 2) := by decide +kernel
theorem d_Model_init_1025 : decode b_Model_init 1025 = .ok (.iastore, 1) := by decide +kernel
theorem d_Model_init_1026 : decode b_Model_init 1026 = .ok (.dup, 1) := by decide +kernel
theorem d_Model_init_1027 : decode b_Model_init 1027 = .ok (.bipush 88, 2) := by decide +kernel
theorem d_Model_init_1029 : decode b_Model_init 1029 = .ok (.bipush 110, 2) := by decide +kernel
theorem d_Model_init_1031 : decode b_Model_init 1031 = .ok (.iastore, 1) := by decide +kernel
theorem d_Model_init_1032 : decode b_Model_init 1032 = .ok (.dup, 1) := by decide +kernel
theorem d_Model_init_1033 : decode b_Model_init 1033 = .ok (.bipush 89, 2) := by decide +kernel
theorem d_Model_init_1035 : decode b_Model_init 1035 = .ok (.bipush 111, 2) := by decide +kernel
theorem d_Model_init_1037 : decode b_Model_init 1037 = .ok (.iastore, 1) := by decide +kernel
theorem d_Model_init_1038 : decode b_Model_init 1038 = .ok (.dup, 1) := by decide +kernel
theorem d_Model_init_1039 : decode b_Model_init 1039 = .ok (.bipush 90, 2) := by decide +kernel
theorem d_Model_init_1041 : decode b_Model_init 1041 = .ok (.bipush 116, 2) := by decide +kernel
theorem d_Model_init_1043 : decode b_Model_init 1043 = .ok (.iastore, 1) := by decide +kernel
theorem d_Model_init_1044 : decode b_Model_init 1044 = .ok (.dup, 1) := by decide +kernel
theorem d_Model_init_1045 : decode b_Model_init 1045 = .ok (.bipush 91, 2) := by decide +kernel
theorem d_Model_init_1047 : decode b_Model_init 1047 = .ok (.bipush 32, 2) := by decide +kernel
theorem d_Model_init_1049 : decode b_Model_init 1049 = .ok (.iastore, 1) := by decide +kernel
theorem d_Model_init_1050 : decode b_Model_init 1050 = .ok (.dup, 1) := by decide +kernel
theorem d_Model_init_1051 : decode b_Model_init 1051 = .ok (.bipush 92, 2) := by decide +kernel
theorem d_Model_init_1053 : decode b_Model_init 1053 = .ok (.bipush 32, 2) := by decide +kernel
theorem d_Model_init_1055 : decode b_Model_init 1055 = .ok (.iastore, 1) := by decide +kernel
theorem d_Model_init_1056 : decode b_Model_init 1056 = .ok (.dup, 1) := by decide +kernel
theorem d_Model_init_1057 : decode b_Model_init 1057 = .ok (.bipush 93, 2) := by decide +kernel
theorem d_Model_init_1059 : decode b_Model_init 1059 = .ok (.bipush 32, 2) := by decide +kernel
theorem d_Model_init_1061 : decode b_Model_init 1061 = .ok (.iastore, 1) := by decide +kernel
theorem d_Model_init_1062 : decode b_Model_init 1062 = .ok (.dup, 1) := by decide +kernel
theorem d_Model_init_1063 : decode b_Model_init 1063 = .ok (.bipush 94, 2) := by decide +kernel
theorem d_Model_init_1065 : decode b_Model_init 1065 = .ok (.bipush 32, 2) := by decide +kernel
theorem d_Model_init_1067 : decode b_Model_init 1067 = .ok (.iastore, 1) := by decide +kernel
theorem d_Model_init_1068 : decode b_Model_init 1068 = .ok (.dup, 1) := by decide +kernel
theorem d_Model_init_1069 : decode b_Model_init 1069 = .ok (.bipush 95, 2) := by decide +kernel
theorem d_Model_init_1071 : decode b_Model_init 1071 = .ok (.bipush 32, 2) := by decide +kernel
theorem d_Model_init_1073 : decode b_Model_init 1073 = .ok (.iastore, 1) := by decide +kernel
theorem d_Model_init_1074 : decode b_Model_init 1074 = .ok (.putfield 52, 3) := by decide +kernel
theorem d_Model_init_1077 : decode b_Model_init 1077 = .ok (.aload_n 0, 1) := by decide +kernel
theorem d_Model_init_1078 : decode b_Model_init 1078 = .ok (.sipush 200, 3) := by decide +kernel
theorem d_Model_init_1081 : decode b_Model_init 1081 = .ok (.newarray .int, 2) := by decide +kernel
theorem d_Model_init_1083 : decode b_Model_init 1083 = .ok (.putfield 55, 3) := by decide +kernel
theorem d_Model_init_1086 : decode b_Model_init 1086 = .ok (.aload_n 0, 1) := by decide +kernel
theorem d_Model_init_1087 : decode b_Model_init 1087 = .ok (.sipush 200, 3) := by decide +kernel
theorem d_Model_init_1090 : decode b_Model_init 1090 = .ok (.newarray .int, 2) := by decide +kernel
theorem d_Model_init_1092 : decode b_Model_init 1092 = .ok (.putfield 58, 3) := by decide +kernel
theorem d_Model_init_1095 : decode b_Model_init 1095 = .ok (.aload_n 0, 1) := by decide +kernel
theorem d_Model_init_1096 : decode b_Model_init 1096 = .ok (.bipush 6, 2) := by decide +kernel
