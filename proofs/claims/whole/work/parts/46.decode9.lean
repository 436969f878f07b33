/-! what each instruction is (printed by program) -/
theorem d_Z_law_983 : decode code 983 = .ok (.iconst 0, 1) := by decide +kernel
theorem d_Z_law_984 : decode code 984 = .ok (.ireturn, 1) := by decide +kernel
theorem d_Z_law_985 : decode code 985 = .ok (.goto 115, 3) := by decide +kernel
theorem d_Z_law_988 : decode code 988 = .ok (.aload_n 1, 1) := by decide +kernel
theorem d_Z_law_989 : decode code 989 = .ok (.aload_n 3, 1) := by decide +kernel
theorem d_Z_law_990 : decode code 990 = .ok (.invokestatic 127, 3) := by decide +kernel
theorem d_Z_law_993 : decode code 993 = .ok (.istore 5, 2) := by decide +kernel
theorem d_Z_law_995 : decode code 995 = .ok (.aload_n 2, 1) := by decide +kernel
theorem d_Z_law_996 : decode code 996 = .ok (.invokevirtual 129, 3) := by decide +kernel
theorem d_Z_law_999 : decode code 999 = .ok (.istore 6, 2) := by decide +kernel
theorem d_Z_law_1001 : decode code 1001 = .ok (.aload_n 2, 1) := by decide +kernel
theorem d_Z_law_1002 : decode code 1002 = .ok (.invokevirtual 82, 3) := by decide +kernel
theorem d_Z_law_1005 : decode code 1005 = .ok (.iload 5, 2) := by decide +kernel
theorem d_Z_law_1007 : decode code 1007 = .ok (.if_icmp .eq 5, 3) := by decide +kernel
theorem d_Z_law_1010 : decode code 1010 = .ok (.iconst 0, 1) := by decide +kernel
theorem d_Z_law_1011 : decode code 1011 = .ok (.ireturn, 1) := by decide +kernel
theorem d_Z_law_1012 : decode code 1012 = .ok (.iload 5, 2) := by decide +kernel
theorem d_Z_law_1014 : decode code 1014 = .ok (.ifCond .ne 15, 3) := by decide +kernel
theorem d_Z_law_1017 : decode code 1017 = .ok (.aload_n 3, 1) := by decide +kernel
theorem d_Z_law_1018 : decode code 1018 = .ok (.iconst 0, 1) := by decide +kernel
theorem d_Z_law_1019 : decode code 1019 = .ok (.laload, 1) := by decide +kernel
theorem d_Z_law_1020 : decode code 1020 = .ok (.iload 6, 2) := by decide +kernel
theorem d_Z_law_1022 : decode code 1022 = .ok (.i2l, 1) := by decide +kernel
theorem d_Z_law_1023 : decode code 1023 = .ok (.lcmp, 1) := by decide +kernel
theorem d_Z_law_1024 : decode code 1024 = .ok (.ifCond .eq 5, 3) := by decide +kernel
theorem d_Z_law_1027 : decode code 1027 = .ok (.iconst 0, 1) := by decide +kernel
theorem d_Z_law_1028 : decode code 1028 = .ok (.ireturn, 1) := by decide +kernel
theorem d_Z_law_1029 : decode code 1029 = .ok (.goto 71, 3) := by decide +kernel
theorem d_Z_law_1032 : decode code 1032 = .ok (.aload_n 1, 1) := by decide +kernel
theorem d_Z_law_1033 : decode code 1033 = .ok (.aload_n 0, 1) := by decide +kernel
theorem d_Z_law_1034 : decode code 1034 = .ok (.iload 4, 2) := by decide +kernel
theorem d_Z_law_1036 : decode code 1036 = .ok (.iconst 1, 1) := by decide +kernel
theorem d_Z_law_1037 : decode code 1037 = .ok (.iadd, 1) := by decide +kernel
theorem d_Z_law_1038 : decode code 1038 = .ok (.iaload, 1) := by decide +kernel
theorem d_Z_law_1039 : decode code 1039 = .ok (.aload_n 0, 1) := by decide +kernel
theorem d_Z_law_1040 : decode code 1040 = .ok (.iload 4, 2) := by decide +kernel
theorem d_Z_law_1042 : decode code 1042 = .ok (.iconst 2, 1) := by decide +kernel
theorem d_Z_law_1043 : decode code 1043 = .ok (.iadd, 1) := by decide +kernel
theorem d_Z_law_1044 : decode code 1044 = .ok (.iaload, 1) := by decide +kernel
theorem d_Z_law_1045 : decode code 1045 = .ok (.aload_n 3, 1) := by decide +kernel
theorem d_Z_law_1046 : decode code 1046 = .ok (.invokestatic 130, 3) := by decide +kernel
theorem d_Z_law_1049 : decode code 1049 = .ok (.istore 5, 2) := by decide +kernel
theorem d_Z_law_1051 : decode code 1051 = .ok (.aload_n 2, 1) := by decide +kernel
theorem d_Z_law_1052 : decode code 1052 = .ok (.aload_n 0, 1) := by decide +kernel
theorem d_Z_law_1053 : decode code 1053 = .ok (.iload 4, 2) := by decide +kernel
theorem d_Z_law_1055 : decode code 1055 = .ok (.iconst 1, 1) := by decide +kernel
theorem d_Z_law_1056 : decode code 1056 = .ok (.iadd, 1) := by decide +kernel
theorem d_Z_law_1057 : decode code 1057 = .ok (.iaload, 1) := by decide +kernel
theorem d_Z_law_1058 : decode code 1058 = .ok (.aload_n 0, 1) := by decide +kernel
theorem d_Z_law_1059 : decode code 1059 = .ok (.iload 4, 2) := by decide +kernel
theorem d_Z_law_1061 : decode code 1061 = .ok (.iconst 2, 1) := by decide +kernel
theorem d_Z_law_1062 : decode code 1062 = .ok (.iadd, 1) := by decide +kernel
theorem d_Z_law_1063 : decode code 1063 = .ok (.iaload, 1) := by decide +kernel
theorem d_Z_law_1064 : decode code 1064 = .ok (.invokevirtual 132, 3) := by decide +kernel
theorem d_Z_law_1067 : decode code 1067 = .ok (.istore 6, 2) := by decide +kernel
theorem d_Z_law_1069 : decode code 1069 = .ok (.aload_n 2, 1) := by decide +kernel
theorem d_Z_law_1070 : decode code 1070 = .ok (.invokevirtual 82, 3) := by decide +kernel
theorem d_Z_law_1073 : decode code 1073 = .ok (.iload 5, 2) := by decide +kernel
theorem d_Z_law_1075 : decode code 1075 = .ok (.if_icmp .eq 5, 3) := by decide +kernel
theorem d_Z_law_1078 : decode code 1078 = .ok (.iconst 0, 1) := by decide +kernel
theorem d_Z_law_1079 : decode code 1079 = .ok (.ireturn, 1) := by decide +kernel
theorem d_Z_law_1080 : decode code 1080 = .ok (.iload 5, 2) := by decide +kernel
theorem d_Z_law_1082 : decode code 1082 = .ok (.ifCond .ne 15, 3) := by decide +kernel
theorem d_Z_law_1085 : decode code 1085 = .ok (.aload_n 3, 1) := by decide +kernel
theorem d_Z_law_1086 : decode code 1086 = .ok (.iconst 0, 1) := by decide +kernel
theorem d_Z_law_1087 : decode code 1087 = .ok (.laload, 1) := by decide +kernel
theorem d_Z_law_1088 : decode code 1088 = .ok (.iload 6, 2) := by decide +kernel
theorem d_Z_law_1090 : decode code 1090 = .ok (.i2l, 1) := by decide +kernel
theorem d_Z_law_1091 : decode code 1091 = .ok (.lcmp, 1) := by decide +kernel
theorem d_Z_law_1092 : decode code 1092 = .ok (.ifCond .eq 5, 3) := by decide +kernel
theorem d_Z_law_1095 : decode code 1095 = .ok (.iconst 0, 1) := by decide +kernel
theorem d_Z_law_1096 : decode code 1096 = .ok (.ireturn, 1) := by decide +kernel
theorem d_Z_law_1097 : decode code 1097 = .ok (.goto 3, 3) := by decide +kernel
theorem d_Z_law_1100 : decode code 1100 = .ok (.iinc 4 5, 3) := by decide +kernel
theorem d_Z_law_1103 : decode code 1103 = .ok (.goto (-1080), 3) := by decide +kernel
theorem d_Z_law_1106 : decode code 1106 = .ok (.iconst 1, 1) := by decide +kernel
theorem d_Z_law_1107 : decode code 1107 = .ok (.ireturn, 1) := by decide +kernel
