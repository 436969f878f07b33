/-! what each instruction is (printed by program) -/
theorem d_M_init_0 : decode b_M_init 0 = .ok (.aload_n 0, 1) := by decide +kernel
theorem d_M_init_1 : decode b_M_init 1 = .ok (.invokespecial 1, 3) := by decide +kernel
theorem d_M_init_4 : decode b_M_init 4 = .ok (.aload_n 0, 1) := by decide +kernel
theorem d_M_init_5 : decode b_M_init 5 = .ok (.lconst 1, 1) := by decide +kernel
theorem d_M_init_6 : decode b_M_init 6 = .ok (.putfield 7, 3) := by decide +kernel
theorem d_M_init_9 : decode b_M_init 9 = .ok (.aload_n 0, 1) := by decide +kernel
theorem d_M_init_10 : decode b_M_init 10 = .ok (.bipush 8, 2) := by decide +kernel
theorem d_M_init_12 : decode b_M_init 12 = .ok (.newarray .int, 2) := by decide +kernel
theorem d_M_init_14 : decode b_M_init 14 = .ok (.putfield 13, 3) := by decide +kernel
theorem d_M_init_17 : decode b_M_init 17 = .ok (.aload_n 0, 1) := by decide +kernel
theorem d_M_init_18 : decode b_M_init 18 = .ok (.bipush 8, 2) := by decide +kernel
theorem d_M_init_20 : decode b_M_init 20 = .ok (.newarray .int, 2) := by decide +kernel
theorem d_M_init_22 : decode b_M_init 22 = .ok (.putfield 17, 3) := by decide +kernel
theorem d_M_init_25 : decode b_M_init 25 = .ok (.aload_n 0, 1) := by decide +kernel
theorem d_M_init_26 : decode b_M_init 26 = .ok (.bipush 8, 2) := by decide +kernel
theorem d_M_init_28 : decode b_M_init 28 = .ok (.newarray .int, 2) := by decide +kernel
theorem d_M_init_30 : decode b_M_init 30 = .ok (.putfield 20, 3) := by decide +kernel
theorem d_M_init_33 : decode b_M_init 33 = .ok (.aload_n 0, 1) := by decide +kernel
theorem d_M_init_34 : decode b_M_init 34 = .ok (.bipush 8, 2) := by decide +kernel
theorem d_M_init_36 : decode b_M_init 36 = .ok (.newarray .boolean, 2) := by decide +kernel
theorem d_M_init_38 : decode b_M_init 38 = .ok (.putfield 23, 3) := by decide +kernel
theorem d_M_init_41 : decode b_M_init 41 = .ok (.aload_n 0, 1) := by decide +kernel
theorem d_M_init_42 : decode b_M_init 42 = .ok (.bipush 40, 2) := by decide +kernel
theorem d_M_init_44 : decode b_M_init 44 = .ok (.newarray .int, 2) := by decide +kernel
theorem d_M_init_46 : decode b_M_init 46 = .ok (.putfield 27, 3) := by decide +kernel
theorem d_M_init_49 : decode b_M_init 49 = .ok (.aload_n 0, 1) := by decide +kernel
theorem d_M_init_50 : decode b_M_init 50 = .ok (.bipush 6, 2) := by decide +kernel
theorem d_M_init_52 : decode b_M_init 52 = .ok (.newarray .int, 2) := by decide +kernel
theorem d_M_init_54 : decode b_M_init 54 = .ok (.putfield 30, 3) := by decide +kernel
theorem d_M_init_57 : decode b_M_init 57 = .ok (.aload_n 0, 1) := by decide +kernel
theorem d_M_init_58 : decode b_M_init 58 = .ok (.bipush 6, 2) := by decide +kernel
theorem d_M_init_60 : decode b_M_init 60 = .ok (.newarray .int, 2) := by decide +kernel
theorem d_M_init_62 : decode b_M_init 62 = .ok (.putfield 33, 3) := by decide +kernel
theorem d_M_init_65 : decode b_M_init 65 = .ok (.aload_n 0, 1) := by decide +kernel
theorem d_M_init_66 : decode b_M_init 66 = .ok (.iconst 4, 1) := by decide +kernel
theorem d_M_init_67 : decode b_M_init 67 = .ok (.newarray .int, 2) := by decide +kernel
theorem d_M_init_69 : decode b_M_init 69 = .ok (.putfield 36, 3) := by decide +kernel
theorem d_M_init_72 : decode b_M_init 72 = .ok (.aload_n 0, 1) := by decide +kernel
theorem d_M_init_73 : decode b_M_init 73 = .ok (.iconst 4, 1) := by decide +kernel
theorem d_M_init_74 : decode b_M_init 74 = .ok (.newarray .int, 2) := by decide +kernel
theorem d_M_init_76 : decode b_M_init 76 = .ok (.putfield 39, 3) := by decide +kernel
theorem d_M_init_79 : decode b_M_init 79 = .ok (.aload_n 0, 1) := by decide +kernel
theorem d_M_init_80 : decode b_M_init 80 = .ok (.iconst 4, 1) := by decide +kernel
theorem d_M_init_81 : decode b_M_init 81 = .ok (.newarray .int, 2) := by decide +kernel
theorem d_M_init_83 : decode b_M_init 83 = .ok (.putfield 42, 3) := by decide +kernel
theorem d_M_init_86 : decode b_M_init 86 = .ok (.aload_n 0, 1) := by decide +kernel
theorem d_M_init_87 : decode b_M_init 87 = .ok (.iconst 5, 1) := by decide +kernel
theorem d_M_init_88 : decode b_M_init 88 = .ok (.newarray .int, 2) := by decide +kernel
theorem d_M_init_90 : decode b_M_init 90 = .ok (.putfield 45, 3) := by decide +kernel
theorem d_M_init_93 : decode b_M_init 93 = .ok (.aload_n 0, 1) := by decide +kernel
theorem d_M_init_94 : decode b_M_init 94 = .ok (.iconst 5, 1) := by decide +kernel
theorem d_M_init_95 : decode b_M_init 95 = .ok (.newarray .int, 2) := by decide +kernel
theorem d_M_init_97 : decode b_M_init 97 = .ok (.putfield 48, 3) := by decide +kernel
theorem d_M_init_100 : decode b_M_init 100 = .ok (.aload_n 0, 1) := by decide +kernel
theorem d_M_init_101 : decode b_M_init 101 = .ok (.iconst 5, 1) := by decide +kernel
theorem d_M_init_102 : decode b_M_init 102 = .ok (.newarray .int, 2) := by decide +kernel
theorem d_M_init_104 : decode b_M_init 104 = .ok (.putfield 51, 3) := by decide +kernel
theorem d_M_init_107 : decode b_M_init 107 = .ok (.aload_n 0, 1) := by decide +kernel
theorem d_M_init_108 : decode b_M_init 108 = .ok (.iconst 5, 1) := by decide +kernel
theorem d_M_init_109 : decode b_M_init 109 = .ok (.newarray .int, 2) := by decide +kernel
theorem d_M_init_111 : decode b_M_init 111 = .ok (.putfield 54, 3) := by decide +kernel
theorem d_M_init_114 : decode b_M_init 114 = .ok (.aload_n 0, 1) := by decide +kernel
theorem d_M_init_115 : decode b_M_init 115 = .ok (.bipush 8, 2) := by decide +kernel
theorem d_M_init_117 : decode b_M_init 117 = .ok (.putfield 57, 3) := by decide +kernel
theorem d_M_init_120 : decode b_M_init 120 = .ok (.aload_n 0, 1) := by decide +kernel
theorem d_M_init_121 : decode b_M_init 121 = .ok (.sipush 1000, 3) := by decide +kernel
theorem d_M_init_124 : decode b_M_init 124 = .ok (.putfield 61, 3) := by decide +kernel
theorem d_M_init_127 : decode b_M_init 127 = .ok (.aload_n 0, 1) := by decide +kernel
theorem d_M_init_128 : decode b_M_init 128 = .ok (.iconst 4, 1) := by decide +kernel
theorem d_M_init_129 : decode b_M_init 129 = .ok (.newarray .int, 2) := by decide +kernel
theorem d_M_init_131 : decode b_M_init 131 = .ok (.putfield 64, 3) := by decide +kernel
theorem d_M_init_134 : decode b_M_init 134 = .ok (.aload_n 0, 1) := by decide +kernel
theorem d_M_init_135 : decode b_M_init 135 = .ok (.iconst 5, 1) := by decide +kernel
theorem d_M_init_136 : decode b_M_init 136 = .ok (.newarray .int, 2) := by decide +kernel
theorem d_M_init_138 : decode b_M_init 138 = .ok (.putfield 67, 3) := by decide +kernel
theorem d_M_init_141 : decode b_M_init 141 = .ok (.aload_n 0, 1) := by decide +kernel
theorem d_M_init_142 : decode b_M_init 142 = .ok (.iconst 5, 1) := by decide +kernel
theorem d_M_init_143 : decode b_M_init 143 = .ok (.newarray .int, 2) := by decide +kernel
theorem d_M_init_145 : decode b_M_init 145 = .ok (.putfield 70, 3) := by decide +kernel
theorem d_M_init_148 : decode b_M_init 148 = .ok (.aload_n 0, 1) := by decide +kernel
theorem d_M_init_149 : decode b_M_init 149 = .ok (.bipush 24, 2) := by decide +kernel
theorem d_M_init_151 : decode b_M_init 151 = .ok (.newarray .int, 2) := by decide +kernel
theorem d_M_init_153 : decode b_M_init 153 = .ok (.putfield 73, 3) := by decide +kernel
theorem d_M_init_156 : decode b_M_init 156 = .ok (.aload_n 0, 1) := by decide +kernel
theorem d_M_init_157 : decode b_M_init 157 = .ok (.bipush 48, 2) := by decide +kernel
theorem d_M_init_159 : decode b_M_init 159 = .ok (.newarray .int, 2) := by decide +kernel
theorem d_M_init_161 : decode b_M_init 161 = .ok (.putfield 76, 3) := by decide +kernel
theorem d_M_init_164 : decode b_M_init 164 = .ok (.aload_n 0, 1) := by decide +kernel
theorem d_M_init_165 : decode b_M_init 165 = .ok (.bipush 6, 2) := by decide +kernel
theorem d_M_init_167 : decode b_M_init 167 = .ok (.newarray .int, 2) := by decide +kernel
theorem d_M_init_169 : decode b_M_init 169 = .ok (.putfield 79, 3) := by decide +kernel
theorem d_M_init_172 : decode b_M_init 172 = .ok (.aload_n 0, 1) := by decide +kernel
theorem d_M_init_173 : decode b_M_init 173 = .ok (.bipush 6, 2) := by decide +kernel
theorem d_M_init_175 : decode b_M_init 175 = .ok (.newarray .int, 2) := by decide +kernel
theorem d_M_init_177 : decode b_M_init 177 = .ok (.putfield 82, 3) := by decide +kernel
theorem d_M_init_180 : decode b_M_init 180 = .ok (.aload_n 0, 1) := by decide +kernel
theorem d_M_init_181 : decode b_M_init 181 = .ok (.bipush 6, 2) := by decide +kernel
theorem d_M_init_183 : decode b_M_init 183 = .ok (.newarray .int, 2) := by decide +kernel
theorem d_M_init_185 : decode b_M_init 185 = .ok (.putfield 85, 3) := by decide +kernel
theorem d_M_init_188 : decode b_M_init 188 = .ok (.return_, 1) := by decide +kernel
theorem d_M_thrown_0 : decode b_M_thrown 0 = .ok (.aload_n 0, 1) := by decide +kernel
theorem d_M_thrown_1 : decode b_M_thrown 1 = .ok (.getfield 88, 3) := by decide +kernel
theorem d_M_thrown_4 : decode b_M_thrown 4 = .ok (.ireturn, 1) := by decide +kernel
theorem d_M_in_0 : decode b_M_in 0 = .ok (.iload_n 0, 1) := by decide +kernel
theorem d_M_in_1 : decode b_M_in 1 = .ok (.iload_n 1, 1) := by decide +kernel
theorem d_M_in_2 : decode b_M_in 2 = .ok (.if_icmp .lt 12, 3) := by decide +kernel
theorem d_M_in_5 : decode b_M_in 5 = .ok (.iload_n 0, 1) := by decide +kernel
theorem d_M_in_6 : decode b_M_in 6 = .ok (.iload_n 2, 1) := by decide +kernel
theorem d_M_in_7 : decode b_M_in 7 = .ok (.if_icmp .gt 7, 3) := by decide +kernel
theorem d_M_in_10 : decode b_M_in 10 = .ok (.iconst 1, 1) := by decide +kernel
theorem d_M_in_11 : decode b_M_in 11 = .ok (.goto 4, 3) := by decide +kernel
theorem d_M_in_14 : decode b_M_in 14 = .ok (.iconst 0, 1) := by decide +kernel
theorem d_M_in_15 : decode b_M_in 15 = .ok (.ireturn, 1) := by decide +kernel
theorem d_M_goes_0 : decode b_M_goes 0 = .ok (.aload_n 0, 1) := by decide +kernel
theorem d_M_goes_1 : decode b_M_goes 1 = .ok (.iload_n 1, 1) := by decide +kernel
theorem d_M_goes_2 : decode b_M_goes 2 = .ok (.ifCond .ne 7, 3) := by decide +kernel
theorem d_M_goes_5 : decode b_M_goes 5 = .ok (.iconst 1, 1) := by decide +kernel
theorem d_M_goes_6 : decode b_M_goes 6 = .ok (.goto 20, 3) := by decide +kernel
theorem d_M_goes_9 : decode b_M_goes 9 = .ok (.iload_n 2, 1) := by decide +kernel
theorem d_M_goes_10 : decode b_M_goes 10 = .ok (.ifCond .ne 7, 3) := by decide +kernel
theorem d_M_goes_13 : decode b_M_goes 13 = .ok (.iconst 2, 1) := by decide +kernel
theorem d_M_goes_14 : decode b_M_goes 14 = .ok (.goto 12, 3) := by decide +kernel
theorem d_M_goes_17 : decode b_M_goes 17 = .ok (.iload_n 3, 1) := by decide +kernel
theorem d_M_goes_18 : decode b_M_goes 18 = .ok (.ifCond .ne 7, 3) := by decide +kernel
theorem d_M_goes_21 : decode b_M_goes 21 = .ok (.iconst 3, 1) := by decide +kernel
theorem d_M_goes_22 : decode b_M_goes 22 = .ok (.goto 4, 3) := by decide +kernel
theorem d_M_goes_25 : decode b_M_goes 25 = .ok (.iconst 0, 1) := by decide +kernel
theorem d_M_goes_26 : decode b_M_goes 26 = .ok (.putfield 88, 3) := by decide +kernel
theorem d_M_goes_29 : decode b_M_goes 29 = .ok (.aload_n 0, 1) := by decide +kernel
theorem d_M_goes_30 : decode b_M_goes 30 = .ok (.getfield 88, 3) := by decide +kernel
theorem d_M_goes_33 : decode b_M_goes 33 = .ok (.ifCond .ne 7, 3) := by decide +kernel
theorem d_M_goes_36 : decode b_M_goes 36 = .ok (.iconst 1, 1) := by decide +kernel
theorem d_M_goes_37 : decode b_M_goes 37 = .ok (.goto 4, 3) := by decide +kernel
theorem d_M_goes_40 : decode b_M_goes 40 = .ok (.iconst 0, 1) := by decide +kernel
theorem d_M_goes_41 : decode b_M_goes 41 = .ok (.ireturn, 1) := by decide +kernel
theorem d_M_isThing_0 : decode b_M_isThing 0 = .ok (.iload_n 1, 1) := by decide +kernel
theorem d_M_isThing_1 : decode b_M_isThing 1 = .ok (.iconst 0, 1) := by decide +kernel
theorem d_M_isThing_2 : decode b_M_isThing 2 = .ok (.aload_n 0, 1) := by decide +kernel
theorem d_M_isThing_3 : decode b_M_isThing 3 = .ok (.getfield 91, 3) := by decide +kernel
theorem d_M_isThing_6 : decode b_M_isThing 6 = .ok (.iconst 1, 1) := by decide +kernel
theorem d_M_isThing_7 : decode b_M_isThing 7 = .ok (.isub, 1) := by decide +kernel
theorem d_M_isThing_8 : decode b_M_isThing 8 = .ok (.invokestatic 94, 3) := by decide +kernel
theorem d_M_isThing_11 : decode b_M_isThing 11 = .ok (.ireturn, 1) := by decide +kernel
theorem d_M_seed_0 : decode b_M_seed 0 = .ok (.aload_n 0, 1) := by decide +kernel
theorem d_M_seed_1 : decode b_M_seed 1 = .ok (.iconst 0, 1) := by decide +kernel
theorem d_M_seed_2 : decode b_M_seed 2 = .ok (.putfield 88, 3) := by decide +kernel
theorem d_M_seed_5 : decode b_M_seed 5 = .ok (.aload_n 0, 1) := by decide +kernel
theorem d_M_seed_6 : decode b_M_seed 6 = .ok (.lload_n 1, 1) := by decide +kernel
theorem d_M_seed_7 : decode b_M_seed 7 = .ok (.putfield 7, 3) := by decide +kernel
theorem d_M_seed_10 : decode b_M_seed 10 = .ok (.return_, 1) := by decide +kernel
theorem d_M_thing_0 : decode b_M_thing 0 = .ok (.aload_n 0, 1) := by decide +kernel
theorem d_M_thing_1 : decode b_M_thing 1 = .ok (.iload_n 1, 1) := by decide +kernel
theorem d_M_thing_2 : decode b_M_thing 2 = .ok (.iconst 1, 1) := by decide +kernel
theorem d_M_thing_3 : decode b_M_thing 3 = .ok (.ldc 98, 2) := by decide +kernel
theorem d_M_thing_5 : decode b_M_thing 5 = .ok (.invokestatic 94, 3) := by decide +kernel
theorem d_M_thing_8 : decode b_M_thing 8 = .ok (.ifCond .eq 17, 3) := by decide +kernel
theorem d_M_thing_11 : decode b_M_thing 11 = .ok (.iload_n 2, 1) := by decide +kernel
theorem d_M_thing_12 : decode b_M_thing 12 = .ok (.iconst 1, 1) := by decide +kernel
theorem d_M_thing_13 : decode b_M_thing 13 = .ok (.ldc 98, 2) := by decide +kernel
theorem d_M_thing_15 : decode b_M_thing 15 = .ok (.invokestatic 94, 3) := by decide +kernel
theorem d_M_thing_18 : decode b_M_thing 18 = .ok (.ifCond .eq 7, 3) := by decide +kernel
theorem d_M_thing_21 : decode b_M_thing 21 = .ok (.iconst 1, 1) := by decide +kernel
theorem d_M_thing_22 : decode b_M_thing 22 = .ok (.goto 4, 3) := by decide +kernel
theorem d_M_thing_25 : decode b_M_thing 25 = .ok (.iconst 0, 1) := by decide +kernel
theorem d_M_thing_26 : decode b_M_thing 26 = .ok (.aload_n 0, 1) := by decide +kernel
theorem d_M_thing_27 : decode b_M_thing 27 = .ok (.getfield 91, 3) := by decide +kernel
theorem d_M_thing_30 : decode b_M_thing 30 = .ok (.bipush 8, 2) := by decide +kernel
theorem d_M_thing_32 : decode b_M_thing 32 = .ok (.if_icmp .ge 7, 3) := by decide +kernel
theorem d_M_thing_35 : decode b_M_thing 35 = .ok (.iconst 1, 1) := by decide +kernel
theorem d_M_thing_36 : decode b_M_thing 36 = .ok (.goto 4, 3) := by decide +kernel
theorem d_M_thing_39 : decode b_M_thing 39 = .ok (.iconst 0, 1) := by decide +kernel
theorem d_M_thing_40 : decode b_M_thing 40 = .ok (.iconst 1, 1) := by decide +kernel
theorem d_M_thing_41 : decode b_M_thing 41 = .ok (.invokevirtual 99, 3) := by decide +kernel
theorem d_M_thing_44 : decode b_M_thing 44 = .ok (.ifCond .ne 5, 3) := by decide +kernel
theorem d_M_thing_47 : decode b_M_thing 47 = .ok (.iconst 0, 1) := by decide +kernel
theorem d_M_thing_48 : decode b_M_thing 48 = .ok (.ireturn, 1) := by decide +kernel
theorem d_M_thing_49 : decode b_M_thing 49 = .ok (.aload_n 0, 1) := by decide +kernel
theorem d_M_thing_50 : decode b_M_thing 50 = .ok (.getfield 13, 3) := by decide +kernel
theorem d_M_thing_53 : decode b_M_thing 53 = .ok (.aload_n 0, 1) := by decide +kernel
theorem d_M_thing_54 : decode b_M_thing 54 = .ok (.getfield 91, 3) := by decide +kernel
theorem d_M_thing_57 : decode b_M_thing 57 = .ok (.iload_n 1, 1) := by decide +kernel
theorem d_M_thing_58 : decode b_M_thing 58 = .ok (.iastore, 1) := by decide +kernel
theorem d_M_thing_59 : decode b_M_thing 59 = .ok (.aload_n 0, 1) := by decide +kernel
theorem d_M_thing_60 : decode b_M_thing 60 = .ok (.getfield 17, 3) := by decide +kernel
theorem d_M_thing_63 : decode b_M_thing 63 = .ok (.aload_n 0, 1) := by decide +kernel
theorem d_M_thing_64 : decode b_M_thing 64 = .ok (.getfield 91, 3) := by decide +kernel
theorem d_M_thing_67 : decode b_M_thing 67 = .ok (.iload_n 2, 1) := by decide +kernel
theorem d_M_thing_68 : decode b_M_thing 68 = .ok (.iastore, 1) := by decide +kernel
theorem d_M_thing_69 : decode b_M_thing 69 = .ok (.aload_n 0, 1) := by decide +kernel
theorem d_M_thing_70 : decode b_M_thing 70 = .ok (.getfield 20, 3) := by decide +kernel
theorem d_M_thing_73 : decode b_M_thing 73 = .ok (.aload_n 0, 1) := by decide +kernel
theorem d_M_thing_74 : decode b_M_thing 74 = .ok (.getfield 91, 3) := by decide +kernel
theorem d_M_thing_77 : decode b_M_thing 77 = .ok (.iconst 0, 1) := by decide +kernel
theorem d_M_thing_78 : decode b_M_thing 78 = .ok (.iastore, 1) := by decide +kernel
theorem d_M_thing_79 : decode b_M_thing 79 = .ok (.aload_n 0, 1) := by decide +kernel
theorem d_M_thing_80 : decode b_M_thing 80 = .ok (.getfield 23, 3) := by decide +kernel
theorem d_M_thing_83 : decode b_M_thing 83 = .ok (.aload_n 0, 1) := by decide +kernel
theorem d_M_thing_84 : decode b_M_thing 84 = .ok (.getfield 91, 3) := by decide +kernel
theorem d_M_thing_87 : decode b_M_thing 87 = .ok (.iconst 0, 1) := by decide +kernel
theorem d_M_thing_88 : decode b_M_thing 88 = .ok (.bastore, 1) := by decide +kernel
theorem d_M_thing_89 : decode b_M_thing 89 = .ok (.iconst 0, 1) := by decide +kernel
theorem d_M_thing_90 : decode b_M_thing 90 = .ok (.istore_n 3, 1) := by decide +kernel
theorem d_M_thing_91 : decode b_M_thing 91 = .ok (.iload_n 3, 1) := by decide +kernel
theorem d_M_thing_92 : decode b_M_thing 92 = .ok (.iconst 5, 1) := by decide +kernel
theorem d_M_thing_93 : decode b_M_thing 93 = .ok (.if_icmp .ge 23, 3) := by decide +kernel
theorem d_M_thing_96 : decode b_M_thing 96 = .ok (.aload_n 0, 1) := by decide +kernel
theorem d_M_thing_97 : decode b_M_thing 97 = .ok (.getfield 27, 3) := by decide +kernel
theorem d_M_thing_100 : decode b_M_thing 100 = .ok (.iconst 5, 1) := by decide +kernel
theorem d_M_thing_101 : decode b_M_thing 101 = .ok (.aload_n 0, 1) := by decide +kernel
theorem d_M_thing_102 : decode b_M_thing 102 = .ok (.getfield 91, 3) := by decide +kernel
theorem d_M_thing_105 : decode b_M_thing 105 = .ok (.imul, 1) := by decide +kernel
theorem d_M_thing_106 : decode b_M_thing 106 = .ok (.iload_n 3, 1) := by decide +kernel
theorem d_M_thing_107 : decode b_M_thing 107 = .ok (.iadd, 1) := by decide +kernel
theorem d_M_thing_108 : decode b_M_thing 108 = .ok (.iconst 0, 1) := by decide +kernel
theorem d_M_thing_109 : decode b_M_thing 109 = .ok (.iastore, 1) := by decide +kernel
theorem d_M_thing_110 : decode b_M_thing 110 = .ok (.iinc 3 1, 3) := by decide +kernel
theorem d_M_thing_113 : decode b_M_thing 113 = .ok (.goto (-22), 3) := by decide +kernel
theorem d_M_thing_116 : decode b_M_thing 116 = .ok (.aload_n 0, 1) := by decide +kernel
theorem d_M_thing_117 : decode b_M_thing 117 = .ok (.dup, 1) := by decide +kernel
theorem d_M_thing_118 : decode b_M_thing 118 = .ok (.getfield 91, 3) := by decide +kernel
theorem d_M_thing_121 : decode b_M_thing 121 = .ok (.iconst 1, 1) := by decide +kernel
theorem d_M_thing_122 : decode b_M_thing 122 = .ok (.iadd, 1) := by decide +kernel
theorem d_M_thing_123 : decode b_M_thing 123 = .ok (.putfield 91, 3) := by decide +kernel
theorem d_M_thing_126 : decode b_M_thing 126 = .ok (.aload_n 0, 1) := by decide +kernel
theorem d_M_thing_127 : decode b_M_thing 127 = .ok (.getfield 91, 3) := by decide +kernel
theorem d_M_thing_130 : decode b_M_thing 130 = .ok (.iconst 1, 1) := by decide +kernel
theorem d_M_thing_131 : decode b_M_thing 131 = .ok (.isub, 1) := by decide +kernel
theorem d_M_thing_132 : decode b_M_thing 132 = .ok (.ireturn, 1) := by decide +kernel
theorem d_M_keep_0 : decode b_M_keep 0 = .ok (.iconst 4, 1) := by decide +kernel
theorem d_M_keep_1 : decode b_M_keep 1 = .ok (.istore_n 3, 1) := by decide +kernel
theorem d_M_keep_2 : decode b_M_keep 2 = .ok (.iload_n 3, 1) := by decide +kernel
theorem d_M_keep_3 : decode b_M_keep 3 = .ok (.ifCond .le 31, 3) := by decide +kernel
theorem d_M_keep_6 : decode b_M_keep 6 = .ok (.aload_n 0, 1) := by decide +kernel
theorem d_M_keep_7 : decode b_M_keep 7 = .ok (.getfield 27, 3) := by decide +kernel
theorem d_M_keep_10 : decode b_M_keep 10 = .ok (.iconst 5, 1) := by decide +kernel
theorem d_M_keep_11 : decode b_M_keep 11 = .ok (.iload_n 1, 1) := by decide +kernel
theorem d_M_keep_12 : decode b_M_keep 12 = .ok (.imul, 1) := by decide +kernel
theorem d_M_keep_13 : decode b_M_keep 13 = .ok (.iload_n 3, 1) := by decide +kernel
theorem d_M_keep_14 : decode b_M_keep 14 = .ok (.iadd, 1) := by decide +kernel
theorem d_M_keep_15 : decode b_M_keep 15 = .ok (.aload_n 0, 1) := by decide +kernel
theorem d_M_keep_16 : decode b_M_keep 16 = .ok (.getfield 27, 3) := by decide +kernel
theorem d_M_keep_19 : decode b_M_keep 19 = .ok (.iconst 5, 1) := by decide +kernel
theorem d_M_keep_20 : decode b_M_keep 20 = .ok (.iload_n 1, 1) := by decide +kernel
theorem d_M_keep_21 : decode b_M_keep 21 = .ok (.imul, 1) := by decide +kernel
theorem d_M_keep_22 : decode b_M_keep 22 = .ok (.iload_n 3, 1) := by decide +kernel
theorem d_M_keep_23 : decode b_M_keep 23 = .ok (.iadd, 1) := by decide +kernel
theorem d_M_keep_24 : decode b_M_keep 24 = .ok (.iconst 1, 1) := by decide +kernel
theorem d_M_keep_25 : decode b_M_keep 25 = .ok (.isub, 1) := by decide +kernel
theorem d_M_keep_26 : decode b_M_keep 26 = .ok (.iaload, 1) := by decide +kernel
theorem d_M_keep_27 : decode b_M_keep 27 = .ok (.iastore, 1) := by decide +kernel
theorem d_M_keep_28 : decode b_M_keep 28 = .ok (.iinc 3 (-1), 3) := by decide +kernel
theorem d_M_keep_31 : decode b_M_keep 31 = .ok (.goto (-29), 3) := by decide +kernel
theorem d_M_keep_34 : decode b_M_keep 34 = .ok (.aload_n 0, 1) := by decide +kernel
theorem d_M_keep_35 : decode b_M_keep 35 = .ok (.getfield 27, 3) := by decide +kernel
theorem d_M_keep_38 : decode b_M_keep 38 = .ok (.iconst 5, 1) := by decide +kernel
theorem d_M_keep_39 : decode b_M_keep 39 = .ok (.iload_n 1, 1) := by decide +kernel
theorem d_M_keep_40 : decode b_M_keep 40 = .ok (.imul, 1) := by decide +kernel
theorem d_M_keep_41 : decode b_M_keep 41 = .ok (.iload_n 2, 1) := by decide +kernel
theorem d_M_keep_42 : decode b_M_keep 42 = .ok (.iastore, 1) := by decide +kernel
theorem d_M_keep_43 : decode b_M_keep 43 = .ok (.return_, 1) := by decide +kernel
theorem d_M_isBarred_0 : decode b_M_isBarred 0 = .ok (.aload_n 0, 1) := by decide +kernel
theorem d_M_isBarred_1 : decode b_M_isBarred 1 = .ok (.getfield 23, 3) := by decide +kernel
theorem d_M_isBarred_4 : decode b_M_isBarred 4 = .ok (.iload_n 1, 1) := by decide +kernel
theorem d_M_isBarred_5 : decode b_M_isBarred 5 = .ok (.baload, 1) := by decide +kernel
theorem d_M_isBarred_6 : decode b_M_isBarred 6 = .ok (.ifCond .ne 18, 3) := by decide +kernel
theorem d_M_isBarred_9 : decode b_M_isBarred 9 = .ok (.aload_n 0, 1) := by decide +kernel
theorem d_M_isBarred_10 : decode b_M_isBarred 10 = .ok (.getfield 20, 3) := by decide +kernel
theorem d_M_isBarred_13 : decode b_M_isBarred 13 = .ok (.iload_n 1, 1) := by decide +kernel
theorem d_M_isBarred_14 : decode b_M_isBarred 14 = .ok (.iaload, 1) := by decide +kernel
theorem d_M_isBarred_15 : decode b_M_isBarred 15 = .ok (.aload_n 0, 1) := by decide +kernel
theorem d_M_isBarred_16 : decode b_M_isBarred 16 = .ok (.getfield 17, 3) := by decide +kernel
theorem d_M_isBarred_19 : decode b_M_isBarred 19 = .ok (.iload_n 1, 1) := by decide +kernel
theorem d_M_isBarred_20 : decode b_M_isBarred 20 = .ok (.iaload, 1) := by decide +kernel
theorem d_M_isBarred_21 : decode b_M_isBarred 21 = .ok (.if_icmp .lt 7, 3) := by decide +kernel
theorem d_M_isBarred_24 : decode b_M_isBarred 24 = .ok (.iconst 1, 1) := by decide +kernel
theorem d_M_isBarred_25 : decode b_M_isBarred 25 = .ok (.goto 4, 3) := by decide +kernel
theorem d_M_isBarred_28 : decode b_M_isBarred 28 = .ok (.iconst 0, 1) := by decide +kernel
theorem d_M_isBarred_29 : decode b_M_isBarred 29 = .ok (.ireturn, 1) := by decide +kernel
theorem d_M_use_0 : decode b_M_use 0 = .ok (.aload_n 0, 1) := by decide +kernel
theorem d_M_use_1 : decode b_M_use 1 = .ok (.iload_n 1, 1) := by decide +kernel
theorem d_M_use_2 : decode b_M_use 2 = .ok (.invokevirtual 103, 3) := by decide +kernel
theorem d_M_use_5 : decode b_M_use 5 = .ok (.istore_n 3, 1) := by decide +kernel
theorem d_M_use_6 : decode b_M_use 6 = .ok (.aload_n 0, 1) := by decide +kernel
theorem d_M_use_7 : decode b_M_use 7 = .ok (.iload_n 3, 1) := by decide +kernel
theorem d_M_use_8 : decode b_M_use 8 = .ok (.iload_n 3, 1) := by decide +kernel
theorem d_M_use_9 : decode b_M_use 9 = .ok (.ifCond .eq 15, 3) := by decide +kernel
theorem d_M_use_12 : decode b_M_use 12 = .ok (.aload_n 0, 1) := by decide +kernel
theorem d_M_use_13 : decode b_M_use 13 = .ok (.iload_n 1, 1) := by decide +kernel
theorem d_M_use_14 : decode b_M_use 14 = .ok (.invokevirtual 107, 3) := by decide +kernel
theorem d_M_use_17 : decode b_M_use 17 = .ok (.ifCond .ne 7, 3) := by decide +kernel
theorem d_M_use_20 : decode b_M_use 20 = .ok (.iconst 1, 1) := by decide +kernel
theorem d_M_use_21 : decode b_M_use 21 = .ok (.goto 4, 3) := by decide +kernel
theorem d_M_use_24 : decode b_M_use 24 = .ok (.iconst 0, 1) := by decide +kernel
theorem d_M_use_25 : decode b_M_use 25 = .ok (.iload_n 2, 1) := by decide +kernel
theorem d_M_use_26 : decode b_M_use 26 = .ok (.iconst 1, 1) := by decide +kernel
theorem d_M_use_27 : decode b_M_use 27 = .ok (.ldc 98, 2) := by decide +kernel
theorem d_M_use_29 : decode b_M_use 29 = .ok (.invokestatic 94, 3) := by decide +kernel
theorem d_M_use_32 : decode b_M_use 32 = .ok (.invokevirtual 99, 3) := by decide +kernel
theorem d_M_use_35 : decode b_M_use 35 = .ok (.ifCond .ne 5, 3) := by decide +kernel
theorem d_M_use_38 : decode b_M_use 38 = .ok (.iconst 0, 1) := by decide +kernel
theorem d_M_use_39 : decode b_M_use 39 = .ok (.ireturn, 1) := by decide +kernel
theorem d_M_use_40 : decode b_M_use 40 = .ok (.aload_n 0, 1) := by decide +kernel
theorem d_M_use_41 : decode b_M_use 41 = .ok (.getfield 20, 3) := by decide +kernel
theorem d_M_use_44 : decode b_M_use 44 = .ok (.iload_n 1, 1) := by decide +kernel
theorem d_M_use_45 : decode b_M_use 45 = .ok (.aload_n 0, 1) := by decide +kernel
theorem d_M_use_46 : decode b_M_use 46 = .ok (.getfield 20, 3) := by decide +kernel
theorem d_M_use_49 : decode b_M_use 49 = .ok (.iload_n 1, 1) := by decide +kernel
theorem d_M_use_50 : decode b_M_use 50 = .ok (.iaload, 1) := by decide +kernel
theorem d_M_use_51 : decode b_M_use 51 = .ok (.iload_n 2, 1) := by decide +kernel
theorem d_M_use_52 : decode b_M_use 52 = .ok (.iadd, 1) := by decide +kernel
theorem d_M_use_53 : decode b_M_use 53 = .ok (.iastore, 1) := by decide +kernel
theorem d_M_use_54 : decode b_M_use 54 = .ok (.aload_n 0, 1) := by decide +kernel
theorem d_M_use_55 : decode b_M_use 55 = .ok (.iload_n 1, 1) := by decide +kernel
theorem d_M_use_56 : decode b_M_use 56 = .ok (.iload_n 2, 1) := by decide +kernel
theorem d_M_use_57 : decode b_M_use 57 = .ok (.invokevirtual 110, 3) := by decide +kernel
theorem d_M_use_60 : decode b_M_use 60 = .ok (.aload_n 0, 1) := by decide +kernel
theorem d_M_use_61 : decode b_M_use 61 = .ok (.getfield 20, 3) := by decide +kernel
theorem d_M_use_64 : decode b_M_use 64 = .ok (.iload_n 1, 1) := by decide +kernel
theorem d_M_use_65 : decode b_M_use 65 = .ok (.iaload, 1) := by decide +kernel
theorem d_M_use_66 : decode b_M_use 66 = .ok (.ireturn, 1) := by decide +kernel
theorem d_M_told_0 : decode b_M_told 0 = .ok (.aload_n 0, 1) := by decide +kernel
theorem d_M_told_1 : decode b_M_told 1 = .ok (.aload_n 0, 1) := by decide +kernel
theorem d_M_told_2 : decode b_M_told 2 = .ok (.iload_n 1, 1) := by decide +kernel
theorem d_M_told_3 : decode b_M_told 3 = .ok (.invokevirtual 103, 3) := by decide +kernel
theorem d_M_told_6 : decode b_M_told 6 = .ok (.ifCond .eq 16, 3) := by decide +kernel
theorem d_M_told_9 : decode b_M_told 9 = .ok (.iload_n 2, 1) := by decide +kernel
theorem d_M_told_10 : decode b_M_told 10 = .ok (.iconst 0, 1) := by decide +kernel
theorem d_M_told_11 : decode b_M_told 11 = .ok (.iconst 2, 1) := by decide +kernel
theorem d_M_told_12 : decode b_M_told 12 = .ok (.invokestatic 94, 3) := by decide +kernel
theorem d_M_told_15 : decode b_M_told 15 = .ok (.ifCond .eq 7, 3) := by decide +kernel
theorem d_M_told_18 : decode b_M_told 18 = .ok (.iconst 1, 1) := by decide +kernel
theorem d_M_told_19 : decode b_M_told 19 = .ok (.goto 4, 3) := by decide +kernel
theorem d_M_told_22 : decode b_M_told 22 = .ok (.iconst 0, 1) := by decide +kernel
theorem d_M_told_23 : decode b_M_told 23 = .ok (.iconst 1, 1) := by decide +kernel
theorem d_M_told_24 : decode b_M_told 24 = .ok (.iconst 1, 1) := by decide +kernel
theorem d_M_told_25 : decode b_M_told 25 = .ok (.invokevirtual 99, 3) := by decide +kernel
theorem d_M_told_28 : decode b_M_told 28 = .ok (.ifCond .ne 5, 3) := by decide +kernel
theorem d_M_told_31 : decode b_M_told 31 = .ok (.iconst 0, 1) := by decide +kernel
theorem d_M_told_32 : decode b_M_told 32 = .ok (.ireturn, 1) := by decide +kernel
theorem d_M_told_33 : decode b_M_told 33 = .ok (.iload_n 2, 1) := by decide +kernel
theorem d_M_told_34 : decode b_M_told 34 = .ok (.ifCond .ne 10, 3) := by decide +kernel
theorem d_M_told_37 : decode b_M_told 37 = .ok (.aload_n 0, 1) := by decide +kernel
theorem d_M_told_38 : decode b_M_told 38 = .ok (.getfield 20, 3) := by decide +kernel
theorem d_M_told_41 : decode b_M_told 41 = .ok (.iload_n 1, 1) := by decide +kernel
theorem d_M_told_42 : decode b_M_told 42 = .ok (.iaload, 1) := by decide +kernel
theorem d_M_told_43 : decode b_M_told 43 = .ok (.ireturn, 1) := by decide +kernel
theorem d_M_told_44 : decode b_M_told 44 = .ok (.iload_n 2, 1) := by decide +kernel
theorem d_M_told_45 : decode b_M_told 45 = .ok (.iconst 1, 1) := by decide +kernel
theorem d_M_told_46 : decode b_M_told 46 = .ok (.if_icmp .ne 17, 3) := by decide +kernel
theorem d_M_told_49 : decode b_M_told 49 = .ok (.aload_n 0, 1) := by decide +kernel
theorem d_M_told_50 : decode b_M_told 50 = .ok (.iload_n 1, 1) := by decide +kernel
theorem d_M_told_51 : decode b_M_told 51 = .ok (.invokevirtual 107, 3) := by decide +kernel
theorem d_M_told_54 : decode b_M_told 54 = .ok (.ifCond .eq 7, 3) := by decide +kernel
theorem d_M_told_57 : decode b_M_told 57 = .ok (.iconst 1, 1) := by decide +kernel
theorem d_M_told_58 : decode b_M_told 58 = .ok (.goto 4, 3) := by decide +kernel
theorem d_M_told_61 : decode b_M_told 61 = .ok (.iconst 0, 1) := by decide +kernel
theorem d_M_told_62 : decode b_M_told 62 = .ok (.ireturn, 1) := by decide +kernel
theorem d_M_told_63 : decode b_M_told 63 = .ok (.aload_n 0, 1) := by decide +kernel
theorem d_M_told_64 : decode b_M_told 64 = .ok (.getfield 17, 3) := by decide +kernel
theorem d_M_told_67 : decode b_M_told 67 = .ok (.iload_n 1, 1) := by decide +kernel
theorem d_M_told_68 : decode b_M_told 68 = .ok (.iaload, 1) := by decide +kernel
theorem d_M_told_69 : decode b_M_told 69 = .ok (.aload_n 0, 1) := by decide +kernel
theorem d_M_told_70 : decode b_M_told 70 = .ok (.getfield 20, 3) := by decide +kernel
theorem d_M_told_73 : decode b_M_told 73 = .ok (.iload_n 1, 1) := by decide +kernel
theorem d_M_told_74 : decode b_M_told 74 = .ok (.iaload, 1) := by decide +kernel
theorem d_M_told_75 : decode b_M_told 75 = .ok (.if_icmp .le 19, 3) := by decide +kernel
theorem d_M_told_78 : decode b_M_told 78 = .ok (.aload_n 0, 1) := by decide +kernel
theorem d_M_told_79 : decode b_M_told 79 = .ok (.getfield 17, 3) := by decide +kernel
theorem d_M_told_82 : decode b_M_told 82 = .ok (.iload_n 1, 1) := by decide +kernel
theorem d_M_told_83 : decode b_M_told 83 = .ok (.iaload, 1) := by decide +kernel
theorem d_M_told_84 : decode b_M_told 84 = .ok (.aload_n 0, 1) := by decide +kernel
theorem d_M_told_85 : decode b_M_told 85 = .ok (.getfield 20, 3) := by decide +kernel
theorem d_M_told_88 : decode b_M_told 88 = .ok (.iload_n 1, 1) := by decide +kernel
theorem d_M_told_89 : decode b_M_told 89 = .ok (.iaload, 1) := by decide +kernel
theorem d_M_told_90 : decode b_M_told 90 = .ok (.isub, 1) := by decide +kernel
theorem d_M_told_91 : decode b_M_told 91 = .ok (.goto 4, 3) := by decide +kernel
theorem d_M_told_94 : decode b_M_told 94 = .ok (.iconst 0, 1) := by decide +kernel
theorem d_M_told_95 : decode b_M_told 95 = .ok (.ireturn, 1) := by decide +kernel
theorem d_M_number_0 : decode b_M_number 0 = .ok (.aload_n 0, 1) := by decide +kernel
theorem d_M_number_1 : decode b_M_number 1 = .ok (.getfield 7, 3) := by decide +kernel
theorem d_M_number_4 : decode b_M_number 4 = .ok (.iload_n 1, 1) := by decide +kernel
theorem d_M_number_5 : decode b_M_number 5 = .ok (.i2l, 1) := by decide +kernel
theorem d_M_number_6 : decode b_M_number 6 = .ok (.ldc2_w 114, 3) := by decide +kernel
theorem d_M_number_9 : decode b_M_number 9 = .ok (.lmul, 1) := by decide +kernel
theorem d_M_number_10 : decode b_M_number 10 = .ok (.ladd, 1) := by decide +kernel
theorem d_M_number_11 : decode b_M_number 11 = .ok (.lstore_n 2, 1) := by decide +kernel
theorem d_M_number_12 : decode b_M_number 12 = .ok (.lload_n 2, 1) := by decide +kernel
theorem d_M_number_13 : decode b_M_number 13 = .ok (.lload_n 2, 1) := by decide +kernel
theorem d_M_number_14 : decode b_M_number 14 = .ok (.bipush 30, 2) := by decide +kernel
theorem d_M_number_16 : decode b_M_number 16 = .ok (.lushr, 1) := by decide +kernel
theorem d_M_number_17 : decode b_M_number 17 = .ok (.lxor, 1) := by decide +kernel
theorem d_M_number_18 : decode b_M_number 18 = .ok (.ldc2_w 116, 3) := by decide +kernel
theorem d_M_number_21 : decode b_M_number 21 = .ok (.lmul, 1) := by decide +kernel
theorem d_M_number_22 : decode b_M_number 22 = .ok (.lstore_n 2, 1) := by decide +kernel
theorem d_M_number_23 : decode b_M_number 23 = .ok (.lload_n 2, 1) := by decide +kernel
theorem d_M_number_24 : decode b_M_number 24 = .ok (.lload_n 2, 1) := by decide +kernel
theorem d_M_number_25 : decode b_M_number 25 = .ok (.bipush 27, 2) := by decide +kernel
theorem d_M_number_27 : decode b_M_number 27 = .ok (.lushr, 1) := by decide +kernel
theorem d_M_number_28 : decode b_M_number 28 = .ok (.lxor, 1) := by decide +kernel
theorem d_M_number_29 : decode b_M_number 29 = .ok (.ldc2_w 118, 3) := by decide +kernel
theorem d_M_number_32 : decode b_M_number 32 = .ok (.lmul, 1) := by decide +kernel
theorem d_M_number_33 : decode b_M_number 33 = .ok (.lstore_n 2, 1) := by decide +kernel
theorem d_M_number_34 : decode b_M_number 34 = .ok (.lload_n 2, 1) := by decide +kernel
theorem d_M_number_35 : decode b_M_number 35 = .ok (.lload_n 2, 1) := by decide +kernel
theorem d_M_number_36 : decode b_M_number 36 = .ok (.bipush 31, 2) := by decide +kernel
theorem d_M_number_38 : decode b_M_number 38 = .ok (.lushr, 1) := by decide +kernel
theorem d_M_number_39 : decode b_M_number 39 = .ok (.lxor, 1) := by decide +kernel
theorem d_M_number_40 : decode b_M_number 40 = .ok (.lreturn, 1) := by decide +kernel
theorem d_M_left_0 : decode b_M_left 0 = .ok (.aload_n 0, 1) := by decide +kernel
theorem d_M_left_1 : decode b_M_left 1 = .ok (.aload_n 0, 1) := by decide +kernel
theorem d_M_left_2 : decode b_M_left 2 = .ok (.iload_n 1, 1) := by decide +kernel
theorem d_M_left_3 : decode b_M_left 3 = .ok (.invokevirtual 103, 3) := by decide +kernel
theorem d_M_left_6 : decode b_M_left 6 = .ok (.iload_n 2, 1) := by decide +kernel
theorem d_M_left_7 : decode b_M_left 7 = .ok (.iconst 0, 1) := by decide +kernel
theorem d_M_left_8 : decode b_M_left 8 = .ok (.sipush 1000, 3) := by decide +kernel
theorem d_M_left_11 : decode b_M_left 11 = .ok (.invokestatic 94, 3) := by decide +kernel
theorem d_M_left_14 : decode b_M_left 14 = .ok (.iconst 1, 1) := by decide +kernel
theorem d_M_left_15 : decode b_M_left 15 = .ok (.invokevirtual 99, 3) := by decide +kernel
theorem d_M_left_18 : decode b_M_left 18 = .ok (.ifCond .ne 5, 3) := by decide +kernel
theorem d_M_left_21 : decode b_M_left 21 = .ok (.iconst 0, 1) := by decide +kernel
theorem d_M_left_22 : decode b_M_left 22 = .ok (.ireturn, 1) := by decide +kernel
theorem d_M_left_23 : decode b_M_left 23 = .ok (.aload_n 0, 1) := by decide +kernel
theorem d_M_left_24 : decode b_M_left 24 = .ok (.sipush 1001, 3) := by decide +kernel
theorem d_M_left_27 : decode b_M_left 27 = .ok (.iload_n 1, 1) := by decide +kernel
theorem d_M_left_28 : decode b_M_left 28 = .ok (.imul, 1) := by decide +kernel
theorem d_M_left_29 : decode b_M_left 29 = .ok (.iload_n 2, 1) := by decide +kernel
theorem d_M_left_30 : decode b_M_left 30 = .ok (.iadd, 1) := by decide +kernel
theorem d_M_left_31 : decode b_M_left 31 = .ok (.iconst 1, 1) := by decide +kernel
theorem d_M_left_32 : decode b_M_left 32 = .ok (.iadd, 1) := by decide +kernel
theorem d_M_left_33 : decode b_M_left 33 = .ok (.invokevirtual 120, 3) := by decide +kernel
theorem d_M_left_36 : decode b_M_left 36 = .ok (.iconst 1, 1) := by decide +kernel
theorem d_M_left_37 : decode b_M_left 37 = .ok (.lshl, 1) := by decide +kernel
theorem d_M_left_38 : decode b_M_left 38 = .ok (.iconst 1, 1) := by decide +kernel
theorem d_M_left_39 : decode b_M_left 39 = .ok (.lushr, 1) := by decide +kernel
theorem d_M_left_40 : decode b_M_left 40 = .ok (.lstore_n 3, 1) := by decide +kernel
theorem d_M_left_41 : decode b_M_left 41 = .ok (.lload_n 3, 1) := by decide +kernel
theorem d_M_left_42 : decode b_M_left 42 = .ok (.ldc2_w 124, 3) := by decide +kernel
theorem d_M_left_45 : decode b_M_left 45 = .ok (.lrem, 1) := by decide +kernel
theorem d_M_left_46 : decode b_M_left 46 = .ok (.l2i, 1) := by decide +kernel
theorem d_M_left_47 : decode b_M_left 47 = .ok (.istore 5, 2) := by decide +kernel
theorem d_M_left_49 : decode b_M_left 49 = .ok (.aload_n 0, 1) := by decide +kernel
theorem d_M_left_50 : decode b_M_left 50 = .ok (.getfield 13, 3) := by decide +kernel
theorem d_M_left_53 : decode b_M_left 53 = .ok (.iload_n 1, 1) := by decide +kernel
theorem d_M_left_54 : decode b_M_left 54 = .ok (.iaload, 1) := by decide +kernel
theorem d_M_left_55 : decode b_M_left 55 = .ok (.bipush 50, 2) := by decide +kernel
theorem d_M_left_57 : decode b_M_left 57 = .ok (.iload 5, 2) := by decide +kernel
theorem d_M_left_59 : decode b_M_left 59 = .ok (.iadd, 1) := by decide +kernel
theorem d_M_left_60 : decode b_M_left 60 = .ok (.imul, 1) := by decide +kernel
theorem d_M_left_61 : decode b_M_left 61 = .ok (.bipush 100, 2) := by decide +kernel
theorem d_M_left_63 : decode b_M_left 63 = .ok (.idiv, 1) := by decide +kernel
theorem d_M_left_64 : decode b_M_left 64 = .ok (.istore 6, 2) := by decide +kernel
theorem d_M_left_66 : decode b_M_left 66 = .ok (.iload 6, 2) := by decide +kernel
theorem d_M_left_68 : decode b_M_left 68 = .ok (.aload_n 0, 1) := by decide +kernel
theorem d_M_left_69 : decode b_M_left 69 = .ok (.getfield 20, 3) := by decide +kernel
theorem d_M_left_72 : decode b_M_left 72 = .ok (.iload_n 1, 1) := by decide +kernel
theorem d_M_left_73 : decode b_M_left 73 = .ok (.iaload, 1) := by decide +kernel
theorem d_M_left_74 : decode b_M_left 74 = .ok (.if_icmp .le 15, 3) := by decide +kernel
theorem d_M_left_77 : decode b_M_left 77 = .ok (.iload 6, 2) := by decide +kernel
theorem d_M_left_79 : decode b_M_left 79 = .ok (.aload_n 0, 1) := by decide +kernel
theorem d_M_left_80 : decode b_M_left 80 = .ok (.getfield 20, 3) := by decide +kernel
theorem d_M_left_83 : decode b_M_left 83 = .ok (.iload_n 1, 1) := by decide +kernel
theorem d_M_left_84 : decode b_M_left 84 = .ok (.iaload, 1) := by decide +kernel
theorem d_M_left_85 : decode b_M_left 85 = .ok (.isub, 1) := by decide +kernel
theorem d_M_left_86 : decode b_M_left 86 = .ok (.goto 4, 3) := by decide +kernel
theorem d_M_left_89 : decode b_M_left 89 = .ok (.iconst 0, 1) := by decide +kernel
theorem d_M_left_90 : decode b_M_left 90 = .ok (.ireturn, 1) := by decide +kernel
theorem d_M_permit_0 : decode b_M_permit 0 = .ok (.aload_n 0, 1) := by decide +kernel
theorem d_M_permit_1 : decode b_M_permit 1 = .ok (.iload_n 1, 1) := by decide +kernel
theorem d_M_permit_2 : decode b_M_permit 2 = .ok (.invokevirtual 103, 3) := by decide +kernel
theorem d_M_permit_5 : decode b_M_permit 5 = .ok (.istore_n 3, 1) := by decide +kernel
theorem d_M_permit_6 : decode b_M_permit 6 = .ok (.aload_n 0, 1) := by decide +kernel
theorem d_M_permit_7 : decode b_M_permit 7 = .ok (.iload_n 3, 1) := by decide +kernel
theorem d_M_permit_8 : decode b_M_permit 8 = .ok (.iload_n 3, 1) := by decide +kernel
theorem d_M_permit_9 : decode b_M_permit 9 = .ok (.ifCond .eq 17, 3) := by decide +kernel
theorem d_M_permit_12 : decode b_M_permit 12 = .ok (.aload_n 0, 1) := by decide +kernel
theorem d_M_permit_13 : decode b_M_permit 13 = .ok (.getfield 23, 3) := by decide +kernel
theorem d_M_permit_16 : decode b_M_permit 16 = .ok (.iload_n 1, 1) := by decide +kernel
theorem d_M_permit_17 : decode b_M_permit 17 = .ok (.baload, 1) := by decide +kernel
theorem d_M_permit_18 : decode b_M_permit 18 = .ok (.iload_n 2, 1) := by decide +kernel
theorem d_M_permit_19 : decode b_M_permit 19 = .ok (.if_icmp .ne 7, 3) := by decide +kernel
theorem d_M_permit_22 : decode b_M_permit 22 = .ok (.iconst 1, 1) := by decide +kernel
theorem d_M_permit_23 : decode b_M_permit 23 = .ok (.goto 4, 3) := by decide +kernel
theorem d_M_permit_26 : decode b_M_permit 26 = .ok (.iconst 0, 1) := by decide +kernel
theorem d_M_permit_27 : decode b_M_permit 27 = .ok (.iconst 1, 1) := by decide +kernel
theorem d_M_permit_28 : decode b_M_permit 28 = .ok (.invokevirtual 99, 3) := by decide +kernel
theorem d_M_permit_31 : decode b_M_permit 31 = .ok (.ifCond .ne 4, 3) := by decide +kernel
theorem d_M_permit_34 : decode b_M_permit 34 = .ok (.return_, 1) := by decide +kernel
theorem d_M_permit_35 : decode b_M_permit 35 = .ok (.aload_n 0, 1) := by decide +kernel
theorem d_M_permit_36 : decode b_M_permit 36 = .ok (.getfield 23, 3) := by decide +kernel
theorem d_M_permit_39 : decode b_M_permit 39 = .ok (.iload_n 1, 1) := by decide +kernel
theorem d_M_permit_40 : decode b_M_permit 40 = .ok (.iload_n 2, 1) := by decide +kernel
theorem d_M_permit_41 : decode b_M_permit 41 = .ok (.ifCond .ne 7, 3) := by decide +kernel
theorem d_M_permit_44 : decode b_M_permit 44 = .ok (.iconst 1, 1) := by decide +kernel
theorem d_M_permit_45 : decode b_M_permit 45 = .ok (.goto 4, 3) := by decide +kernel
theorem d_M_permit_48 : decode b_M_permit 48 = .ok (.iconst 0, 1) := by decide +kernel
theorem d_M_permit_49 : decode b_M_permit 49 = .ok (.bastore, 1) := by decide +kernel
theorem d_M_permit_50 : decode b_M_permit 50 = .ok (.aload_n 0, 1) := by decide +kernel
theorem d_M_permit_51 : decode b_M_permit 51 = .ok (.iload_n 1, 1) := by decide +kernel
theorem d_M_permit_52 : decode b_M_permit 52 = .ok (.iload_n 2, 1) := by decide +kernel
theorem d_M_permit_53 : decode b_M_permit 53 = .ok (.ifCond .eq 8, 3) := by decide +kernel
theorem d_M_permit_56 : decode b_M_permit 56 = .ok (.bipush (-3), 2) := by decide +kernel
theorem d_M_permit_58 : decode b_M_permit 58 = .ok (.goto 5, 3) := by decide +kernel
theorem d_M_permit_61 : decode b_M_permit 61 = .ok (.bipush (-2), 2) := by decide +kernel
theorem d_M_permit_63 : decode b_M_permit 63 = .ok (.invokevirtual 110, 3) := by decide +kernel
theorem d_M_permit_66 : decode b_M_permit 66 = .ok (.return_, 1) := by decide +kernel
theorem d_M_history_0 : decode b_M_history 0 = .ok (.aload_n 0, 1) := by decide +kernel
theorem d_M_history_1 : decode b_M_history 1 = .ok (.aload_n 0, 1) := by decide +kernel
theorem d_M_history_2 : decode b_M_history 2 = .ok (.iload_n 1, 1) := by decide +kernel
theorem d_M_history_3 : decode b_M_history 3 = .ok (.invokevirtual 103, 3) := by decide +kernel
theorem d_M_history_6 : decode b_M_history 6 = .ok (.ifCond .eq 11, 3) := by decide +kernel
theorem d_M_history_9 : decode b_M_history 9 = .ok (.iload_n 2, 1) := by decide +kernel
theorem d_M_history_10 : decode b_M_history 10 = .ok (.ifCond .lt 7, 3) := by decide +kernel
theorem d_M_history_13 : decode b_M_history 13 = .ok (.iconst 1, 1) := by decide +kernel
theorem d_M_history_14 : decode b_M_history 14 = .ok (.goto 4, 3) := by decide +kernel
theorem d_M_history_17 : decode b_M_history 17 = .ok (.iconst 0, 1) := by decide +kernel
theorem d_M_history_18 : decode b_M_history 18 = .ok (.iconst 1, 1) := by decide +kernel
theorem d_M_history_19 : decode b_M_history 19 = .ok (.iconst 1, 1) := by decide +kernel
theorem d_M_history_20 : decode b_M_history 20 = .ok (.invokevirtual 99, 3) := by decide +kernel
theorem d_M_history_23 : decode b_M_history 23 = .ok (.ifCond .ne 5, 3) := by decide +kernel
theorem d_M_history_26 : decode b_M_history 26 = .ok (.iconst 0, 1) := by decide +kernel
theorem d_M_history_27 : decode b_M_history 27 = .ok (.ireturn, 1) := by decide +kernel
theorem d_M_history_28 : decode b_M_history 28 = .ok (.iload_n 2, 1) := by decide +kernel
theorem d_M_history_29 : decode b_M_history 29 = .ok (.iconst 5, 1) := by decide +kernel
theorem d_M_history_30 : decode b_M_history 30 = .ok (.if_icmp .ge 16, 3) := by decide +kernel
theorem d_M_history_33 : decode b_M_history 33 = .ok (.aload_n 0, 1) := by decide +kernel
theorem d_M_history_34 : decode b_M_history 34 = .ok (.getfield 27, 3) := by decide +kernel
theorem d_M_history_37 : decode b_M_history 37 = .ok (.iconst 5, 1) := by decide +kernel
theorem d_M_history_38 : decode b_M_history 38 = .ok (.iload_n 1, 1) := by decide +kernel
theorem d_M_history_39 : decode b_M_history 39 = .ok (.imul, 1) := by decide +kernel
theorem d_M_history_40 : decode b_M_history 40 = .ok (.iload_n 2, 1) := by decide +kernel
theorem d_M_history_41 : decode b_M_history 41 = .ok (.iadd, 1) := by decide +kernel
theorem d_M_history_42 : decode b_M_history 42 = .ok (.iaload, 1) := by decide +kernel
theorem d_M_history_43 : decode b_M_history 43 = .ok (.goto 4, 3) := by decide +kernel
theorem d_M_history_46 : decode b_M_history 46 = .ok (.iconst 0, 1) := by decide +kernel
theorem d_M_history_47 : decode b_M_history 47 = .ok (.ireturn, 1) := by decide +kernel
theorem d_M_areHours_0 : decode b_M_areHours 0 = .ok (.iload_n 0, 1) := by decide +kernel
theorem d_M_areHours_1 : decode b_M_areHours 1 = .ok (.iconst 0, 1) := by decide +kernel
theorem d_M_areHours_2 : decode b_M_areHours 2 = .ok (.sipush 168, 3) := by decide +kernel
theorem d_M_areHours_5 : decode b_M_areHours 5 = .ok (.invokestatic 94, 3) := by decide +kernel
theorem d_M_areHours_8 : decode b_M_areHours 8 = .ok (.ifCond .eq 23, 3) := by decide +kernel
theorem d_M_areHours_11 : decode b_M_areHours 11 = .ok (.iload_n 1, 1) := by decide +kernel
theorem d_M_areHours_12 : decode b_M_areHours 12 = .ok (.iconst 0, 1) := by decide +kernel
theorem d_M_areHours_13 : decode b_M_areHours 13 = .ok (.sipush 168, 3) := by decide +kernel
theorem d_M_areHours_16 : decode b_M_areHours 16 = .ok (.invokestatic 94, 3) := by decide +kernel
theorem d_M_areHours_19 : decode b_M_areHours 19 = .ok (.ifCond .eq 12, 3) := by decide +kernel
theorem d_M_areHours_22 : decode b_M_areHours 22 = .ok (.iload_n 0, 1) := by decide +kernel
theorem d_M_areHours_23 : decode b_M_areHours 23 = .ok (.iload_n 1, 1) := by decide +kernel
theorem d_M_areHours_24 : decode b_M_areHours 24 = .ok (.if_icmp .ge 7, 3) := by decide +kernel
theorem d_M_areHours_27 : decode b_M_areHours 27 = .ok (.iconst 1, 1) := by decide +kernel
theorem d_M_areHours_28 : decode b_M_areHours 28 = .ok (.goto 4, 3) := by decide +kernel
theorem d_M_areHours_31 : decode b_M_areHours 31 = .ok (.iconst 0, 1) := by decide +kernel
theorem d_M_areHours_32 : decode b_M_areHours 32 = .ok (.ireturn, 1) := by decide +kernel
theorem d_M_gap_0 : decode b_M_gap 0 = .ok (.aload_n 0, 1) := by decide +kernel
theorem d_M_gap_1 : decode b_M_gap 1 = .ok (.iload_n 1, 1) := by decide +kernel
theorem d_M_gap_2 : decode b_M_gap 2 = .ok (.iload_n 2, 1) := by decide +kernel
theorem d_M_gap_3 : decode b_M_gap 3 = .ok (.invokestatic 126, 3) := by decide +kernel
theorem d_M_gap_6 : decode b_M_gap 6 = .ok (.aload_n 0, 1) := by decide +kernel
theorem d_M_gap_7 : decode b_M_gap 7 = .ok (.getfield 130, 3) := by decide +kernel
theorem d_M_gap_10 : decode b_M_gap 10 = .ok (.bipush 6, 2) := by decide +kernel
theorem d_M_gap_12 : decode b_M_gap 12 = .ok (.if_icmp .ge 7, 3) := by decide +kernel
theorem d_M_gap_15 : decode b_M_gap 15 = .ok (.iconst 1, 1) := by decide +kernel
theorem d_M_gap_16 : decode b_M_gap 16 = .ok (.goto 4, 3) := by decide +kernel
theorem d_M_gap_19 : decode b_M_gap 19 = .ok (.iconst 0, 1) := by decide +kernel
theorem d_M_gap_20 : decode b_M_gap 20 = .ok (.iconst 1, 1) := by decide +kernel
theorem d_M_gap_21 : decode b_M_gap 21 = .ok (.invokevirtual 99, 3) := by decide +kernel
theorem d_M_gap_24 : decode b_M_gap 24 = .ok (.ifCond .ne 5, 3) := by decide +kernel
theorem d_M_gap_27 : decode b_M_gap 27 = .ok (.iconst 0, 1) := by decide +kernel
theorem d_M_gap_28 : decode b_M_gap 28 = .ok (.ireturn, 1) := by decide +kernel
theorem d_M_gap_29 : decode b_M_gap 29 = .ok (.aload_n 0, 1) := by decide +kernel
theorem d_M_gap_30 : decode b_M_gap 30 = .ok (.getfield 30, 3) := by decide +kernel
theorem d_M_gap_33 : decode b_M_gap 33 = .ok (.aload_n 0, 1) := by decide +kernel
theorem d_M_gap_34 : decode b_M_gap 34 = .ok (.getfield 130, 3) := by decide +kernel
theorem d_M_gap_37 : decode b_M_gap 37 = .ok (.iload_n 1, 1) := by decide +kernel
theorem d_M_gap_38 : decode b_M_gap 38 = .ok (.iastore, 1) := by decide +kernel
theorem d_M_gap_39 : decode b_M_gap 39 = .ok (.aload_n 0, 1) := by decide +kernel
theorem d_M_gap_40 : decode b_M_gap 40 = .ok (.getfield 33, 3) := by decide +kernel
theorem d_M_gap_43 : decode b_M_gap 43 = .ok (.aload_n 0, 1) := by decide +kernel
theorem d_M_gap_44 : decode b_M_gap 44 = .ok (.getfield 130, 3) := by decide +kernel
theorem d_M_gap_47 : decode b_M_gap 47 = .ok (.iload_n 2, 1) := by decide +kernel
theorem d_M_gap_48 : decode b_M_gap 48 = .ok (.iastore, 1) := by decide +kernel
theorem d_M_gap_49 : decode b_M_gap 49 = .ok (.aload_n 0, 1) := by decide +kernel
theorem d_M_gap_50 : decode b_M_gap 50 = .ok (.dup, 1) := by decide +kernel
theorem d_M_gap_51 : decode b_M_gap 51 = .ok (.getfield 130, 3) := by decide +kernel
theorem d_M_gap_54 : decode b_M_gap 54 = .ok (.iconst 1, 1) := by decide +kernel
theorem d_M_gap_55 : decode b_M_gap 55 = .ok (.iadd, 1) := by decide +kernel
theorem d_M_gap_56 : decode b_M_gap 56 = .ok (.putfield 130, 3) := by decide +kernel
theorem d_M_gap_59 : decode b_M_gap 59 = .ok (.aload_n 0, 1) := by decide +kernel
theorem d_M_gap_60 : decode b_M_gap 60 = .ok (.iconst 0, 1) := by decide +kernel
theorem d_M_gap_61 : decode b_M_gap 61 = .ok (.putfield 133, 3) := by decide +kernel
theorem d_M_gap_64 : decode b_M_gap 64 = .ok (.aload_n 0, 1) := by decide +kernel
theorem d_M_gap_65 : decode b_M_gap 65 = .ok (.getfield 130, 3) := by decide +kernel
theorem d_M_gap_68 : decode b_M_gap 68 = .ok (.ireturn, 1) := by decide +kernel
theorem d_M_person_0 : decode b_M_person 0 = .ok (.aload_n 0, 1) := by decide +kernel
theorem d_M_person_1 : decode b_M_person 1 = .ok (.iload_n 1, 1) := by decide +kernel
theorem d_M_person_2 : decode b_M_person 2 = .ok (.iconst 0, 1) := by decide +kernel
theorem d_M_person_3 : decode b_M_person 3 = .ok (.iconst 3, 1) := by decide +kernel
theorem d_M_person_4 : decode b_M_person 4 = .ok (.invokestatic 94, 3) := by decide +kernel
theorem d_M_person_7 : decode b_M_person 7 = .ok (.ifCond .eq 15, 3) := by decide +kernel
theorem d_M_person_10 : decode b_M_person 10 = .ok (.iload_n 2, 1) := by decide +kernel
theorem d_M_person_11 : decode b_M_person 11 = .ok (.iload_n 3, 1) := by decide +kernel
theorem d_M_person_12 : decode b_M_person 12 = .ok (.invokestatic 126, 3) := by decide +kernel
theorem d_M_person_15 : decode b_M_person 15 = .ok (.ifCond .eq 7, 3) := by decide +kernel
theorem d_M_person_18 : decode b_M_person 18 = .ok (.iconst 1, 1) := by decide +kernel
theorem d_M_person_19 : decode b_M_person 19 = .ok (.goto 4, 3) := by decide +kernel
theorem d_M_person_22 : decode b_M_person 22 = .ok (.iconst 0, 1) := by decide +kernel
theorem d_M_person_23 : decode b_M_person 23 = .ok (.aload_n 0, 1) := by decide +kernel
theorem d_M_person_24 : decode b_M_person 24 = .ok (.getfield 137, 3) := by decide +kernel
theorem d_M_person_27 : decode b_M_person 27 = .ok (.iconst 4, 1) := by decide +kernel
theorem d_M_person_28 : decode b_M_person 28 = .ok (.if_icmp .ge 7, 3) := by decide +kernel
theorem d_M_person_31 : decode b_M_person 31 = .ok (.iconst 1, 1) := by decide +kernel
theorem d_M_person_32 : decode b_M_person 32 = .ok (.goto 4, 3) := by decide +kernel
theorem d_M_person_35 : decode b_M_person 35 = .ok (.iconst 0, 1) := by decide +kernel
theorem d_M_person_36 : decode b_M_person 36 = .ok (.iconst 1, 1) := by decide +kernel
theorem d_M_person_37 : decode b_M_person 37 = .ok (.invokevirtual 99, 3) := by decide +kernel
theorem d_M_person_40 : decode b_M_person 40 = .ok (.ifCond .ne 5, 3) := by decide +kernel
theorem d_M_person_43 : decode b_M_person 43 = .ok (.iconst 0, 1) := by decide +kernel
theorem d_M_person_44 : decode b_M_person 44 = .ok (.ireturn, 1) := by decide +kernel
theorem d_M_person_45 : decode b_M_person 45 = .ok (.aload_n 0, 1) := by decide +kernel
theorem d_M_person_46 : decode b_M_person 46 = .ok (.getfield 36, 3) := by decide +kernel
theorem d_M_person_49 : decode b_M_person 49 = .ok (.aload_n 0, 1) := by decide +kernel
theorem d_M_person_50 : decode b_M_person 50 = .ok (.getfield 137, 3) := by decide +kernel
theorem d_M_person_53 : decode b_M_person 53 = .ok (.iload_n 1, 1) := by decide +kernel
theorem d_M_person_54 : decode b_M_person 54 = .ok (.iastore, 1) := by decide +kernel
theorem d_M_person_55 : decode b_M_person 55 = .ok (.aload_n 0, 1) := by decide +kernel
theorem d_M_person_56 : decode b_M_person 56 = .ok (.getfield 39, 3) := by decide +kernel
theorem d_M_person_59 : decode b_M_person 59 = .ok (.aload_n 0, 1) := by decide +kernel
theorem d_M_person_60 : decode b_M_person 60 = .ok (.getfield 137, 3) := by decide +kernel
theorem d_M_person_63 : decode b_M_person 63 = .ok (.iload_n 2, 1) := by decide +kernel
theorem d_M_person_64 : decode b_M_person 64 = .ok (.iastore, 1) := by decide +kernel
theorem d_M_person_65 : decode b_M_person 65 = .ok (.aload_n 0, 1) := by decide +kernel
theorem d_M_person_66 : decode b_M_person 66 = .ok (.getfield 42, 3) := by decide +kernel
theorem d_M_person_69 : decode b_M_person 69 = .ok (.aload_n 0, 1) := by decide +kernel
theorem d_M_person_70 : decode b_M_person 70 = .ok (.getfield 137, 3) := by decide +kernel
theorem d_M_person_73 : decode b_M_person 73 = .ok (.iload_n 3, 1) := by decide +kernel
theorem d_M_person_74 : decode b_M_person 74 = .ok (.iastore, 1) := by decide +kernel
theorem d_M_person_75 : decode b_M_person 75 = .ok (.aload_n 0, 1) := by decide +kernel
theorem d_M_person_76 : decode b_M_person 76 = .ok (.dup, 1) := by decide +kernel
theorem d_M_person_77 : decode b_M_person 77 = .ok (.getfield 137, 3) := by decide +kernel
theorem d_M_person_80 : decode b_M_person 80 = .ok (.iconst 1, 1) := by decide +kernel
theorem d_M_person_81 : decode b_M_person 81 = .ok (.iadd, 1) := by decide +kernel
theorem d_M_person_82 : decode b_M_person 82 = .ok (.putfield 137, 3) := by decide +kernel
theorem d_M_person_85 : decode b_M_person 85 = .ok (.aload_n 0, 1) := by decide +kernel
theorem d_M_person_86 : decode b_M_person 86 = .ok (.iconst 0, 1) := by decide +kernel
theorem d_M_person_87 : decode b_M_person 87 = .ok (.putfield 133, 3) := by decide +kernel
theorem d_M_person_90 : decode b_M_person 90 = .ok (.aload_n 0, 1) := by decide +kernel
theorem d_M_person_91 : decode b_M_person 91 = .ok (.getfield 137, 3) := by decide +kernel
theorem d_M_person_94 : decode b_M_person 94 = .ok (.iconst 1, 1) := by decide +kernel
theorem d_M_person_95 : decode b_M_person 95 = .ok (.isub, 1) := by decide +kernel
theorem d_M_person_96 : decode b_M_person 96 = .ok (.ireturn, 1) := by decide +kernel
theorem d_M_repair_0 : decode b_M_repair 0 = .ok (.aload_n 0, 1) := by decide +kernel
theorem d_M_repair_1 : decode b_M_repair 1 = .ok (.aload_n 0, 1) := by decide +kernel
theorem d_M_repair_2 : decode b_M_repair 2 = .ok (.iload_n 1, 1) := by decide +kernel
theorem d_M_repair_3 : decode b_M_repair 3 = .ok (.invokevirtual 103, 3) := by decide +kernel
theorem d_M_repair_6 : decode b_M_repair 6 = .ok (.iload_n 2, 1) := by decide +kernel
theorem d_M_repair_7 : decode b_M_repair 7 = .ok (.iconst 1, 1) := by decide +kernel
theorem d_M_repair_8 : decode b_M_repair 8 = .ok (.bipush 24, 2) := by decide +kernel
theorem d_M_repair_10 : decode b_M_repair 10 = .ok (.invokestatic 94, 3) := by decide +kernel
theorem d_M_repair_13 : decode b_M_repair 13 = .ok (.ifCond .eq 28, 3) := by decide +kernel
theorem d_M_repair_16 : decode b_M_repair 16 = .ok (.iload_n 3, 1) := by decide +kernel
theorem d_M_repair_17 : decode b_M_repair 17 = .ok (.iconst 0, 1) := by decide +kernel
theorem d_M_repair_18 : decode b_M_repair 18 = .ok (.iconst 3, 1) := by decide +kernel
theorem d_M_repair_19 : decode b_M_repair 19 = .ok (.invokestatic 94, 3) := by decide +kernel
theorem d_M_repair_22 : decode b_M_repair 22 = .ok (.ifCond .eq 19, 3) := by decide +kernel
theorem d_M_repair_25 : decode b_M_repair 25 = .ok (.iload 4, 2) := by decide +kernel
theorem d_M_repair_27 : decode b_M_repair 27 = .ok (.iconst 0, 1) := by decide +kernel
theorem d_M_repair_28 : decode b_M_repair 28 = .ok (.sipush 1000, 3) := by decide +kernel
theorem d_M_repair_31 : decode b_M_repair 31 = .ok (.invokestatic 94, 3) := by decide +kernel
theorem d_M_repair_34 : decode b_M_repair 34 = .ok (.ifCond .eq 7, 3) := by decide +kernel
theorem d_M_repair_37 : decode b_M_repair 37 = .ok (.iconst 1, 1) := by decide +kernel
theorem d_M_repair_38 : decode b_M_repair 38 = .ok (.goto 4, 3) := by decide +kernel
theorem d_M_repair_41 : decode b_M_repair 41 = .ok (.iconst 0, 1) := by decide +kernel
theorem d_M_repair_42 : decode b_M_repair 42 = .ok (.aload_n 0, 1) := by decide +kernel
theorem d_M_repair_43 : decode b_M_repair 43 = .ok (.getfield 140, 3) := by decide +kernel
theorem d_M_repair_46 : decode b_M_repair 46 = .ok (.iconst 5, 1) := by decide +kernel
theorem d_M_repair_47 : decode b_M_repair 47 = .ok (.if_icmp .ge 7, 3) := by decide +kernel
theorem d_M_repair_50 : decode b_M_repair 50 = .ok (.iconst 1, 1) := by decide +kernel
theorem d_M_repair_51 : decode b_M_repair 51 = .ok (.goto 4, 3) := by decide +kernel
theorem d_M_repair_54 : decode b_M_repair 54 = .ok (.iconst 0, 1) := by decide +kernel
theorem d_M_repair_55 : decode b_M_repair 55 = .ok (.invokevirtual 99, 3) := by decide +kernel
theorem d_M_repair_58 : decode b_M_repair 58 = .ok (.ifCond .ne 5, 3) := by decide +kernel
theorem d_M_repair_61 : decode b_M_repair 61 = .ok (.iconst 0, 1) := by decide +kernel
theorem d_M_repair_62 : decode b_M_repair 62 = .ok (.ireturn, 1) := by decide +kernel
theorem d_M_repair_63 : decode b_M_repair 63 = .ok (.aload_n 0, 1) := by decide +kernel
theorem d_M_repair_64 : decode b_M_repair 64 = .ok (.getfield 45, 3) := by decide +kernel
theorem d_M_repair_67 : decode b_M_repair 67 = .ok (.aload_n 0, 1) := by decide +kernel
theorem d_M_repair_68 : decode b_M_repair 68 = .ok (.getfield 140, 3) := by decide +kernel
theorem d_M_repair_71 : decode b_M_repair 71 = .ok (.iload_n 1, 1) := by decide +kernel
theorem d_M_repair_72 : decode b_M_repair 72 = .ok (.iastore, 1) := by decide +kernel
theorem d_M_repair_73 : decode b_M_repair 73 = .ok (.aload_n 0, 1) := by decide +kernel
theorem d_M_repair_74 : decode b_M_repair 74 = .ok (.getfield 48, 3) := by decide +kernel
theorem d_M_repair_77 : decode b_M_repair 77 = .ok (.aload_n 0, 1) := by decide +kernel
theorem d_M_repair_78 : decode b_M_repair 78 = .ok (.getfield 140, 3) := by decide +kernel
theorem d_M_repair_81 : decode b_M_repair 81 = .ok (.iload_n 2, 1) := by decide +kernel
theorem d_M_repair_82 : decode b_M_repair 82 = .ok (.iastore, 1) := by decide +kernel
theorem d_M_repair_83 : decode b_M_repair 83 = .ok (.aload_n 0, 1) := by decide +kernel
theorem d_M_repair_84 : decode b_M_repair 84 = .ok (.getfield 51, 3) := by decide +kernel
theorem d_M_repair_87 : decode b_M_repair 87 = .ok (.aload_n 0, 1) := by decide +kernel
theorem d_M_repair_88 : decode b_M_repair 88 = .ok (.getfield 140, 3) := by decide +kernel
theorem d_M_repair_91 : decode b_M_repair 91 = .ok (.iload_n 3, 1) := by decide +kernel
theorem d_M_repair_92 : decode b_M_repair 92 = .ok (.iastore, 1) := by decide +kernel
theorem d_M_repair_93 : decode b_M_repair 93 = .ok (.aload_n 0, 1) := by decide +kernel
theorem d_M_repair_94 : decode b_M_repair 94 = .ok (.getfield 54, 3) := by decide +kernel
theorem d_M_repair_97 : decode b_M_repair 97 = .ok (.aload_n 0, 1) := by decide +kernel
theorem d_M_repair_98 : decode b_M_repair 98 = .ok (.getfield 140, 3) := by decide +kernel
theorem d_M_repair_101 : decode b_M_repair 101 = .ok (.iload 4, 2) := by decide +kernel
theorem d_M_repair_103 : decode b_M_repair 103 = .ok (.iastore, 1) := by decide +kernel
theorem d_M_repair_104 : decode b_M_repair 104 = .ok (.aload_n 0, 1) := by decide +kernel
theorem d_M_repair_105 : decode b_M_repair 105 = .ok (.dup, 1) := by decide +kernel
theorem d_M_repair_106 : decode b_M_repair 106 = .ok (.getfield 140, 3) := by decide +kernel
theorem d_M_repair_109 : decode b_M_repair 109 = .ok (.iconst 1, 1) := by decide +kernel
theorem d_M_repair_110 : decode b_M_repair 110 = .ok (.iadd, 1) := by decide +kernel
theorem d_M_repair_111 : decode b_M_repair 111 = .ok (.putfield 140, 3) := by decide +kernel
theorem d_M_repair_114 : decode b_M_repair 114 = .ok (.aload_n 0, 1) := by decide +kernel
theorem d_M_repair_115 : decode b_M_repair 115 = .ok (.iconst 0, 1) := by decide +kernel
theorem d_M_repair_116 : decode b_M_repair 116 = .ok (.putfield 133, 3) := by decide +kernel
theorem d_M_repair_119 : decode b_M_repair 119 = .ok (.aload_n 0, 1) := by decide +kernel
theorem d_M_repair_120 : decode b_M_repair 120 = .ok (.getfield 140, 3) := by decide +kernel
theorem d_M_repair_123 : decode b_M_repair 123 = .ok (.iconst 1, 1) := by decide +kernel
theorem d_M_repair_124 : decode b_M_repair 124 = .ok (.isub, 1) := by decide +kernel
theorem d_M_repair_125 : decode b_M_repair 125 = .ok (.ireturn, 1) := by decide +kernel
theorem d_M_rules_0 : decode b_M_rules 0 = .ok (.aload_n 0, 1) := by decide +kernel
theorem d_M_rules_1 : decode b_M_rules 1 = .ok (.iload_n 1, 1) := by decide +kernel
theorem d_M_rules_2 : decode b_M_rules 2 = .ok (.iconst 0, 1) := by decide +kernel
theorem d_M_rules_3 : decode b_M_rules 3 = .ok (.bipush 24, 2) := by decide +kernel
theorem d_M_rules_5 : decode b_M_rules 5 = .ok (.invokestatic 94, 3) := by decide +kernel
theorem d_M_rules_8 : decode b_M_rules 8 = .ok (.ifCond .eq 17, 3) := by decide +kernel
theorem d_M_rules_11 : decode b_M_rules 11 = .ok (.iload_n 2, 1) := by decide +kernel
theorem d_M_rules_12 : decode b_M_rules 12 = .ok (.iconst 0, 1) := by decide +kernel
theorem d_M_rules_13 : decode b_M_rules 13 = .ok (.ldc 98, 2) := by decide +kernel
theorem d_M_rules_15 : decode b_M_rules 15 = .ok (.invokestatic 94, 3) := by decide +kernel
theorem d_M_rules_18 : decode b_M_rules 18 = .ok (.ifCond .eq 7, 3) := by decide +kernel
theorem d_M_rules_21 : decode b_M_rules 21 = .ok (.iconst 1, 1) := by decide +kernel
theorem d_M_rules_22 : decode b_M_rules 22 = .ok (.goto 4, 3) := by decide +kernel
theorem d_M_rules_25 : decode b_M_rules 25 = .ok (.iconst 0, 1) := by decide +kernel
theorem d_M_rules_26 : decode b_M_rules 26 = .ok (.iconst 1, 1) := by decide +kernel
theorem d_M_rules_27 : decode b_M_rules 27 = .ok (.iconst 1, 1) := by decide +kernel
theorem d_M_rules_28 : decode b_M_rules 28 = .ok (.invokevirtual 99, 3) := by decide +kernel
theorem d_M_rules_31 : decode b_M_rules 31 = .ok (.ifCond .ne 4, 3) := by decide +kernel
theorem d_M_rules_34 : decode b_M_rules 34 = .ok (.return_, 1) := by decide +kernel
theorem d_M_rules_35 : decode b_M_rules 35 = .ok (.aload_n 0, 1) := by decide +kernel
theorem d_M_rules_36 : decode b_M_rules 36 = .ok (.iload_n 1, 1) := by decide +kernel
theorem d_M_rules_37 : decode b_M_rules 37 = .ok (.putfield 57, 3) := by decide +kernel
theorem d_M_rules_40 : decode b_M_rules 40 = .ok (.aload_n 0, 1) := by decide +kernel
theorem d_M_rules_41 : decode b_M_rules 41 = .ok (.iload_n 2, 1) := by decide +kernel
theorem d_M_rules_42 : decode b_M_rules 42 = .ok (.putfield 61, 3) := by decide +kernel
theorem d_M_rules_45 : decode b_M_rules 45 = .ok (.aload_n 0, 1) := by decide +kernel
theorem d_M_rules_46 : decode b_M_rules 46 = .ok (.iconst 0, 1) := by decide +kernel
theorem d_M_rules_47 : decode b_M_rules 47 = .ok (.putfield 133, 3) := by decide +kernel
theorem d_M_rules_50 : decode b_M_rules 50 = .ok (.return_, 1) := by decide +kernel
theorem d_M_later_0 : decode b_M_later 0 = .ok (.iload_n 0, 1) := by decide +kernel
theorem d_M_later_1 : decode b_M_later 1 = .ok (.iload_n 1, 1) := by decide +kernel
theorem d_M_later_2 : decode b_M_later 2 = .ok (.if_icmp .le 7, 3) := by decide +kernel
theorem d_M_later_5 : decode b_M_later 5 = .ok (.iload_n 0, 1) := by decide +kernel
theorem d_M_later_6 : decode b_M_later 6 = .ok (.goto 4, 3) := by decide +kernel
theorem d_M_later_9 : decode b_M_later 9 = .ok (.iload_n 1, 1) := by decide +kernel
theorem d_M_later_10 : decode b_M_later 10 = .ok (.ireturn, 1) := by decide +kernel
theorem d_M_begins_0 : decode b_M_begins 0 = .ok (.aload_n 0, 1) := by decide +kernel
theorem d_M_begins_1 : decode b_M_begins 1 = .ok (.getfield 36, 3) := by decide +kernel
theorem d_M_begins_4 : decode b_M_begins 4 = .ok (.iload_n 3, 1) := by decide +kernel
theorem d_M_begins_5 : decode b_M_begins 5 = .ok (.iaload, 1) := by decide +kernel
theorem d_M_begins_6 : decode b_M_begins 6 = .ok (.aload_n 0, 1) := by decide +kernel
theorem d_M_begins_7 : decode b_M_begins 7 = .ok (.getfield 51, 3) := by decide +kernel
theorem d_M_begins_10 : decode b_M_begins 10 = .ok (.iload_n 1, 1) := by decide +kernel
theorem d_M_begins_11 : decode b_M_begins 11 = .ok (.iaload, 1) := by decide +kernel
theorem d_M_begins_12 : decode b_M_begins 12 = .ok (.if_icmp .eq 5, 3) := by decide +kernel
theorem d_M_begins_15 : decode b_M_begins 15 = .ok (.iconst (-1), 1) := by decide +kernel
theorem d_M_begins_16 : decode b_M_begins 16 = .ok (.ireturn, 1) := by decide +kernel
theorem d_M_begins_17 : decode b_M_begins 17 = .ok (.aload_n 0, 1) := by decide +kernel
theorem d_M_begins_18 : decode b_M_begins 18 = .ok (.getfield 30, 3) := by decide +kernel
theorem d_M_begins_21 : decode b_M_begins 21 = .ok (.iload_n 2, 1) := by decide +kernel
theorem d_M_begins_22 : decode b_M_begins 22 = .ok (.iaload, 1) := by decide +kernel
theorem d_M_begins_23 : decode b_M_begins 23 = .ok (.aload_n 0, 1) := by decide +kernel
theorem d_M_begins_24 : decode b_M_begins 24 = .ok (.getfield 39, 3) := by decide +kernel
theorem d_M_begins_27 : decode b_M_begins 27 = .ok (.iload_n 3, 1) := by decide +kernel
theorem d_M_begins_28 : decode b_M_begins 28 = .ok (.iaload, 1) := by decide +kernel
theorem d_M_begins_29 : decode b_M_begins 29 = .ok (.invokestatic 143, 3) := by decide +kernel
theorem d_M_begins_32 : decode b_M_begins 32 = .ok (.aload_n 0, 1) := by decide +kernel
theorem d_M_begins_33 : decode b_M_begins 33 = .ok (.getfield 73, 3) := by decide +kernel
theorem d_M_begins_36 : decode b_M_begins 36 = .ok (.iconst 4, 1) := by decide +kernel
theorem d_M_begins_37 : decode b_M_begins 37 = .ok (.iload_n 1, 1) := by decide +kernel
theorem d_M_begins_38 : decode b_M_begins 38 = .ok (.imul, 1) := by decide +kernel
theorem d_M_begins_39 : decode b_M_begins 39 = .ok (.iload_n 3, 1) := by decide +kernel
theorem d_M_begins_40 : decode b_M_begins 40 = .ok (.iadd, 1) := by decide +kernel
theorem d_M_begins_41 : decode b_M_begins 41 = .ok (.iaload, 1) := by decide +kernel
theorem d_M_begins_42 : decode b_M_begins 42 = .ok (.aload_n 0, 1) := by decide +kernel
theorem d_M_begins_43 : decode b_M_begins 43 = .ok (.getfield 76, 3) := by decide +kernel
theorem d_M_begins_46 : decode b_M_begins 46 = .ok (.bipush 8, 2) := by decide +kernel
theorem d_M_begins_48 : decode b_M_begins 48 = .ok (.iload_n 1, 1) := by decide +kernel
theorem d_M_begins_49 : decode b_M_begins 49 = .ok (.imul, 1) := by decide +kernel
theorem d_M_begins_50 : decode b_M_begins 50 = .ok (.aload_n 0, 1) := by decide +kernel
theorem d_M_begins_51 : decode b_M_begins 51 = .ok (.getfield 45, 3) := by decide +kernel
theorem d_M_begins_54 : decode b_M_begins 54 = .ok (.iload_n 1, 1) := by decide +kernel
theorem d_M_begins_55 : decode b_M_begins 55 = .ok (.iaload, 1) := by decide +kernel
theorem d_M_begins_56 : decode b_M_begins 56 = .ok (.iadd, 1) := by decide +kernel
theorem d_M_begins_57 : decode b_M_begins 57 = .ok (.iaload, 1) := by decide +kernel
theorem d_M_begins_58 : decode b_M_begins 58 = .ok (.invokestatic 143, 3) := by decide +kernel
theorem d_M_begins_61 : decode b_M_begins 61 = .ok (.invokestatic 143, 3) := by decide +kernel
theorem d_M_begins_64 : decode b_M_begins 64 = .ok (.istore 4, 2) := by decide +kernel
theorem d_M_begins_66 : decode b_M_begins 66 = .ok (.iload 4, 2) := by decide +kernel
theorem d_M_begins_68 : decode b_M_begins 68 = .ok (.aload_n 0, 1) := by decide +kernel
theorem d_M_begins_69 : decode b_M_begins 69 = .ok (.getfield 48, 3) := by decide +kernel
theorem d_M_begins_72 : decode b_M_begins 72 = .ok (.iload_n 1, 1) := by decide +kernel
theorem d_M_begins_73 : decode b_M_begins 73 = .ok (.iaload, 1) := by decide +kernel
theorem d_M_begins_74 : decode b_M_begins 74 = .ok (.iadd, 1) := by decide +kernel
theorem d_M_begins_75 : decode b_M_begins 75 = .ok (.aload_n 0, 1) := by decide +kernel
theorem d_M_begins_76 : decode b_M_begins 76 = .ok (.getfield 33, 3) := by decide +kernel
theorem d_M_begins_79 : decode b_M_begins 79 = .ok (.iload_n 2, 1) := by decide +kernel
theorem d_M_begins_80 : decode b_M_begins 80 = .ok (.iaload, 1) := by decide +kernel
theorem d_M_begins_81 : decode b_M_begins 81 = .ok (.if_icmp .gt 26, 3) := by decide +kernel
theorem d_M_begins_84 : decode b_M_begins 84 = .ok (.iload 4, 2) := by decide +kernel
theorem d_M_begins_86 : decode b_M_begins 86 = .ok (.aload_n 0, 1) := by decide +kernel
theorem d_M_begins_87 : decode b_M_begins 87 = .ok (.getfield 48, 3) := by decide +kernel
theorem d_M_begins_90 : decode b_M_begins 90 = .ok (.iload_n 1, 1) := by decide +kernel
theorem d_M_begins_91 : decode b_M_begins 91 = .ok (.iaload, 1) := by decide +kernel
theorem d_M_begins_92 : decode b_M_begins 92 = .ok (.iadd, 1) := by decide +kernel
theorem d_M_begins_93 : decode b_M_begins 93 = .ok (.aload_n 0, 1) := by decide +kernel
theorem d_M_begins_94 : decode b_M_begins 94 = .ok (.getfield 42, 3) := by decide +kernel
theorem d_M_begins_97 : decode b_M_begins 97 = .ok (.iload_n 3, 1) := by decide +kernel
theorem d_M_begins_98 : decode b_M_begins 98 = .ok (.iaload, 1) := by decide +kernel
theorem d_M_begins_99 : decode b_M_begins 99 = .ok (.if_icmp .gt 8, 3) := by decide +kernel
theorem d_M_begins_102 : decode b_M_begins 102 = .ok (.iload 4, 2) := by decide +kernel
theorem d_M_begins_104 : decode b_M_begins 104 = .ok (.goto 4, 3) := by decide +kernel
theorem d_M_begins_107 : decode b_M_begins 107 = .ok (.iconst (-1), 1) := by decide +kernel
theorem d_M_begins_108 : decode b_M_begins 108 = .ok (.ireturn, 1) := by decide +kernel
theorem d_M_take_0 : decode b_M_take 0 = .ok (.iconst 0, 1) := by decide +kernel
theorem d_M_take_1 : decode b_M_take 1 = .ok (.istore_n 2, 1) := by decide +kernel
theorem d_M_take_2 : decode b_M_take 2 = .ok (.iload_n 2, 1) := by decide +kernel
theorem d_M_take_3 : decode b_M_take 3 = .ok (.iconst 4, 1) := by decide +kernel
theorem d_M_take_4 : decode b_M_take 4 = .ok (.if_icmp .ge 31, 3) := by decide +kernel
theorem d_M_take_7 : decode b_M_take 7 = .ok (.aload_n 0, 1) := by decide +kernel
theorem d_M_take_8 : decode b_M_take 8 = .ok (.getfield 73, 3) := by decide +kernel
theorem d_M_take_11 : decode b_M_take 11 = .ok (.iconst 4, 1) := by decide +kernel
theorem d_M_take_12 : decode b_M_take 12 = .ok (.iload_n 1, 1) := by decide +kernel
theorem d_M_take_13 : decode b_M_take 13 = .ok (.iconst 1, 1) := by decide +kernel
theorem d_M_take_14 : decode b_M_take 14 = .ok (.iadd, 1) := by decide +kernel
theorem d_M_take_15 : decode b_M_take 15 = .ok (.imul, 1) := by decide +kernel
theorem d_M_take_16 : decode b_M_take 16 = .ok (.iload_n 2, 1) := by decide +kernel
theorem d_M_take_17 : decode b_M_take 17 = .ok (.iadd, 1) := by decide +kernel
theorem d_M_take_18 : decode b_M_take 18 = .ok (.aload_n 0, 1) := by decide +kernel
theorem d_M_take_19 : decode b_M_take 19 = .ok (.getfield 73, 3) := by decide +kernel
theorem d_M_take_22 : decode b_M_take 22 = .ok (.iconst 4, 1) := by decide +kernel
theorem d_M_take_23 : decode b_M_take 23 = .ok (.iload_n 1, 1) := by decide +kernel
theorem d_M_take_24 : decode b_M_take 24 = .ok (.imul, 1) := by decide +kernel
theorem d_M_take_25 : decode b_M_take 25 = .ok (.iload_n 2, 1) := by decide +kernel
theorem d_M_take_26 : decode b_M_take 26 = .ok (.iadd, 1) := by decide +kernel
theorem d_M_take_27 : decode b_M_take 27 = .ok (.iaload, 1) := by decide +kernel
theorem d_M_take_28 : decode b_M_take 28 = .ok (.iastore, 1) := by decide +kernel
theorem d_M_take_29 : decode b_M_take 29 = .ok (.iinc 2 1, 3) := by decide +kernel
theorem d_M_take_32 : decode b_M_take 32 = .ok (.goto (-30), 3) := by decide +kernel
theorem d_M_take_35 : decode b_M_take 35 = .ok (.iconst 0, 1) := by decide +kernel
theorem d_M_take_36 : decode b_M_take 36 = .ok (.istore_n 2, 1) := by decide +kernel
theorem d_M_take_37 : decode b_M_take 37 = .ok (.iload_n 2, 1) := by decide +kernel
theorem d_M_take_38 : decode b_M_take 38 = .ok (.bipush 8, 2) := by decide +kernel
theorem d_M_take_40 : decode b_M_take 40 = .ok (.if_icmp .ge 33, 3) := by decide +kernel
theorem d_M_take_43 : decode b_M_take 43 = .ok (.aload_n 0, 1) := by decide +kernel
theorem d_M_take_44 : decode b_M_take 44 = .ok (.getfield 76, 3) := by decide +kernel
theorem d_M_take_47 : decode b_M_take 47 = .ok (.bipush 8, 2) := by decide +kernel
theorem d_M_take_49 : decode b_M_take 49 = .ok (.iload_n 1, 1) := by decide +kernel
theorem d_M_take_50 : decode b_M_take 50 = .ok (.iconst 1, 1) := by decide +kernel
theorem d_M_take_51 : decode b_M_take 51 = .ok (.iadd, 1) := by decide +kernel
theorem d_M_take_52 : decode b_M_take 52 = .ok (.imul, 1) := by decide +kernel
theorem d_M_take_53 : decode b_M_take 53 = .ok (.iload_n 2, 1) := by decide +kernel
theorem d_M_take_54 : decode b_M_take 54 = .ok (.iadd, 1) := by decide +kernel
theorem d_M_take_55 : decode b_M_take 55 = .ok (.aload_n 0, 1) := by decide +kernel
theorem d_M_take_56 : decode b_M_take 56 = .ok (.getfield 76, 3) := by decide +kernel
theorem d_M_take_59 : decode b_M_take 59 = .ok (.bipush 8, 2) := by decide +kernel
theorem d_M_take_61 : decode b_M_take 61 = .ok (.iload_n 1, 1) := by decide +kernel
theorem d_M_take_62 : decode b_M_take 62 = .ok (.imul, 1) := by decide +kernel
theorem d_M_take_63 : decode b_M_take 63 = .ok (.iload_n 2, 1) := by decide +kernel
theorem d_M_take_64 : decode b_M_take 64 = .ok (.iadd, 1) := by decide +kernel
theorem d_M_take_65 : decode b_M_take 65 = .ok (.iaload, 1) := by decide +kernel
theorem d_M_take_66 : decode b_M_take 66 = .ok (.iastore, 1) := by decide +kernel
theorem d_M_take_67 : decode b_M_take 67 = .ok (.iinc 2 1, 3) := by decide +kernel
theorem d_M_take_70 : decode b_M_take 70 = .ok (.goto (-33), 3) := by decide +kernel
theorem d_M_take_73 : decode b_M_take 73 = .ok (.aload_n 0, 1) := by decide +kernel
theorem d_M_take_74 : decode b_M_take 74 = .ok (.getfield 85, 3) := by decide +kernel
theorem d_M_take_77 : decode b_M_take 77 = .ok (.iload_n 1, 1) := by decide +kernel
theorem d_M_take_78 : decode b_M_take 78 = .ok (.iaload, 1) := by decide +kernel
theorem d_M_take_79 : decode b_M_take 79 = .ok (.ifCond .ge 34, 3) := by decide +kernel
theorem d_M_take_82 : decode b_M_take 82 = .ok (.aload_n 0, 1) := by decide +kernel
theorem d_M_take_83 : decode b_M_take 83 = .ok (.getfield 79, 3) := by decide +kernel
theorem d_M_take_86 : decode b_M_take 86 = .ok (.iload_n 1, 1) := by decide +kernel
theorem d_M_take_87 : decode b_M_take 87 = .ok (.iconst 1, 1) := by decide +kernel
theorem d_M_take_88 : decode b_M_take 88 = .ok (.iadd, 1) := by decide +kernel
theorem d_M_take_89 : decode b_M_take 89 = .ok (.aload_n 0, 1) := by decide +kernel
theorem d_M_take_90 : decode b_M_take 90 = .ok (.getfield 79, 3) := by decide +kernel
theorem d_M_take_93 : decode b_M_take 93 = .ok (.iload_n 1, 1) := by decide +kernel
theorem d_M_take_94 : decode b_M_take 94 = .ok (.iaload, 1) := by decide +kernel
theorem d_M_take_95 : decode b_M_take 95 = .ok (.sipush 168, 3) := by decide +kernel
theorem d_M_take_98 : decode b_M_take 98 = .ok (.aload_n 0, 1) := by decide +kernel
theorem d_M_take_99 : decode b_M_take 99 = .ok (.getfield 54, 3) := by decide +kernel
theorem d_M_take_102 : decode b_M_take 102 = .ok (.iload_n 1, 1) := by decide +kernel
theorem d_M_take_103 : decode b_M_take 103 = .ok (.iaload, 1) := by decide +kernel
theorem d_M_take_104 : decode b_M_take 104 = .ok (.imul, 1) := by decide +kernel
theorem d_M_take_105 : decode b_M_take 105 = .ok (.iadd, 1) := by decide +kernel
theorem d_M_take_106 : decode b_M_take 106 = .ok (.aload_n 0, 1) := by decide +kernel
theorem d_M_take_107 : decode b_M_take 107 = .ok (.getfield 61, 3) := by decide +kernel
theorem d_M_take_110 : decode b_M_take 110 = .ok (.iadd, 1) := by decide +kernel
theorem d_M_take_111 : decode b_M_take 111 = .ok (.iastore, 1) := by decide +kernel
theorem d_M_take_112 : decode b_M_take 112 = .ok (.return_, 1) := by decide +kernel
theorem d_M_take_113 : decode b_M_take 113 = .ok (.aload_n 0, 1) := by decide +kernel
theorem d_M_take_114 : decode b_M_take 114 = .ok (.getfield 79, 3) := by decide +kernel
theorem d_M_take_117 : decode b_M_take 117 = .ok (.iload_n 1, 1) := by decide +kernel
theorem d_M_take_118 : decode b_M_take 118 = .ok (.iconst 1, 1) := by decide +kernel
theorem d_M_take_119 : decode b_M_take 119 = .ok (.iadd, 1) := by decide +kernel
theorem d_M_take_120 : decode b_M_take 120 = .ok (.aload_n 0, 1) := by decide +kernel
theorem d_M_take_121 : decode b_M_take 121 = .ok (.getfield 79, 3) := by decide +kernel
theorem d_M_take_124 : decode b_M_take 124 = .ok (.iload_n 1, 1) := by decide +kernel
theorem d_M_take_125 : decode b_M_take 125 = .ok (.iaload, 1) := by decide +kernel
theorem d_M_take_126 : decode b_M_take 126 = .ok (.aload_n 0, 1) := by decide +kernel
theorem d_M_take_127 : decode b_M_take 127 = .ok (.getfield 85, 3) := by decide +kernel
theorem d_M_take_130 : decode b_M_take 130 = .ok (.iload_n 1, 1) := by decide +kernel
theorem d_M_take_131 : decode b_M_take 131 = .ok (.iaload, 1) := by decide +kernel
theorem d_M_take_132 : decode b_M_take 132 = .ok (.aload_n 0, 1) := by decide +kernel
theorem d_M_take_133 : decode b_M_take 133 = .ok (.getfield 54, 3) := by decide +kernel
theorem d_M_take_136 : decode b_M_take 136 = .ok (.iload_n 1, 1) := by decide +kernel
theorem d_M_take_137 : decode b_M_take 137 = .ok (.iaload, 1) := by decide +kernel
theorem d_M_take_138 : decode b_M_take 138 = .ok (.imul, 1) := by decide +kernel
theorem d_M_take_139 : decode b_M_take 139 = .ok (.iadd, 1) := by decide +kernel
theorem d_M_take_140 : decode b_M_take 140 = .ok (.iastore, 1) := by decide +kernel
theorem d_M_take_141 : decode b_M_take 141 = .ok (.aload_n 0, 1) := by decide +kernel
theorem d_M_take_142 : decode b_M_take 142 = .ok (.getfield 73, 3) := by decide +kernel
theorem d_M_take_145 : decode b_M_take 145 = .ok (.iconst 4, 1) := by decide +kernel
theorem d_M_take_146 : decode b_M_take 146 = .ok (.iload_n 1, 1) := by decide +kernel
theorem d_M_take_147 : decode b_M_take 147 = .ok (.iconst 1, 1) := by decide +kernel
theorem d_M_take_148 : decode b_M_take 148 = .ok (.iadd, 1) := by decide +kernel
theorem d_M_take_149 : decode b_M_take 149 = .ok (.imul, 1) := by decide +kernel
theorem d_M_take_150 : decode b_M_take 150 = .ok (.aload_n 0, 1) := by decide +kernel
theorem d_M_take_151 : decode b_M_take 151 = .ok (.getfield 82, 3) := by decide +kernel
theorem d_M_take_154 : decode b_M_take 154 = .ok (.iload_n 1, 1) := by decide +kernel
theorem d_M_take_155 : decode b_M_take 155 = .ok (.iaload, 1) := by decide +kernel
theorem d_M_take_156 : decode b_M_take 156 = .ok (.aload_n 0, 1) := by decide +kernel
theorem d_M_take_157 : decode b_M_take 157 = .ok (.getfield 137, 3) := by decide +kernel
theorem d_M_take_160 : decode b_M_take 160 = .ok (.irem, 1) := by decide +kernel
theorem d_M_take_161 : decode b_M_take 161 = .ok (.iadd, 1) := by decide +kernel
theorem d_M_take_162 : decode b_M_take 162 = .ok (.aload_n 0, 1) := by decide +kernel
theorem d_M_take_163 : decode b_M_take 163 = .ok (.getfield 85, 3) := by decide +kernel
theorem d_M_take_166 : decode b_M_take 166 = .ok (.iload_n 1, 1) := by decide +kernel
theorem d_M_take_167 : decode b_M_take 167 = .ok (.iaload, 1) := by decide +kernel
theorem d_M_take_168 : decode b_M_take 168 = .ok (.aload_n 0, 1) := by decide +kernel
theorem d_M_take_169 : decode b_M_take 169 = .ok (.getfield 48, 3) := by decide +kernel
theorem d_M_take_172 : decode b_M_take 172 = .ok (.iload_n 1, 1) := by decide +kernel
theorem d_M_take_173 : decode b_M_take 173 = .ok (.iaload, 1) := by decide +kernel
theorem d_M_take_174 : decode b_M_take 174 = .ok (.iadd, 1) := by decide +kernel
theorem d_M_take_175 : decode b_M_take 175 = .ok (.aload_n 0, 1) := by decide +kernel
theorem d_M_take_176 : decode b_M_take 176 = .ok (.getfield 57, 3) := by decide +kernel
theorem d_M_take_179 : decode b_M_take 179 = .ok (.iadd, 1) := by decide +kernel
theorem d_M_take_180 : decode b_M_take 180 = .ok (.iastore, 1) := by decide +kernel
theorem d_M_take_181 : decode b_M_take 181 = .ok (.aload_n 0, 1) := by decide +kernel
theorem d_M_take_182 : decode b_M_take 182 = .ok (.getfield 76, 3) := by decide +kernel
theorem d_M_take_185 : decode b_M_take 185 = .ok (.bipush 8, 2) := by decide +kernel
theorem d_M_take_187 : decode b_M_take 187 = .ok (.iload_n 1, 1) := by decide +kernel
theorem d_M_take_188 : decode b_M_take 188 = .ok (.iconst 1, 1) := by decide +kernel
theorem d_M_take_189 : decode b_M_take 189 = .ok (.iadd, 1) := by decide +kernel
theorem d_M_take_190 : decode b_M_take 190 = .ok (.imul, 1) := by decide +kernel
theorem d_M_take_191 : decode b_M_take 191 = .ok (.aload_n 0, 1) := by decide +kernel
theorem d_M_take_192 : decode b_M_take 192 = .ok (.getfield 45, 3) := by decide +kernel
theorem d_M_take_195 : decode b_M_take 195 = .ok (.iload_n 1, 1) := by decide +kernel
theorem d_M_take_196 : decode b_M_take 196 = .ok (.iaload, 1) := by decide +kernel
theorem d_M_take_197 : decode b_M_take 197 = .ok (.iadd, 1) := by decide +kernel
theorem d_M_take_198 : decode b_M_take 198 = .ok (.aload_n 0, 1) := by decide +kernel
theorem d_M_take_199 : decode b_M_take 199 = .ok (.getfield 85, 3) := by decide +kernel
theorem d_M_take_202 : decode b_M_take 202 = .ok (.iload_n 1, 1) := by decide +kernel
theorem d_M_take_203 : decode b_M_take 203 = .ok (.iaload, 1) := by decide +kernel
theorem d_M_take_204 : decode b_M_take 204 = .ok (.aload_n 0, 1) := by decide +kernel
theorem d_M_take_205 : decode b_M_take 205 = .ok (.getfield 48, 3) := by decide +kernel
theorem d_M_take_208 : decode b_M_take 208 = .ok (.iload_n 1, 1) := by decide +kernel
theorem d_M_take_209 : decode b_M_take 209 = .ok (.iaload, 1) := by decide +kernel
theorem d_M_take_210 : decode b_M_take 210 = .ok (.iadd, 1) := by decide +kernel
theorem d_M_take_211 : decode b_M_take 211 = .ok (.iastore, 1) := by decide +kernel
theorem d_M_take_212 : decode b_M_take 212 = .ok (.return_, 1) := by decide +kernel
theorem d_M_plan_0 : decode b_M_plan 0 = .ok (.aload_n 0, 1) := by decide +kernel
theorem d_M_plan_1 : decode b_M_plan 1 = .ok (.iconst 0, 1) := by decide +kernel
theorem d_M_plan_2 : decode b_M_plan 2 = .ok (.putfield 88, 3) := by decide +kernel
theorem d_M_plan_5 : decode b_M_plan 5 = .ok (.aload_n 0, 1) := by decide +kernel
theorem d_M_plan_6 : decode b_M_plan 6 = .ok (.iconst 0, 1) := by decide +kernel
theorem d_M_plan_7 : decode b_M_plan 7 = .ok (.putfield 133, 3) := by decide +kernel
theorem d_M_plan_10 : decode b_M_plan 10 = .ok (.iconst 0, 1) := by decide +kernel
theorem d_M_plan_11 : decode b_M_plan 11 = .ok (.istore_n 1, 1) := by decide +kernel
theorem d_M_plan_12 : decode b_M_plan 12 = .ok (.iload_n 1, 1) := by decide +kernel
theorem d_M_plan_13 : decode b_M_plan 13 = .ok (.iconst 4, 1) := by decide +kernel
theorem d_M_plan_14 : decode b_M_plan 14 = .ok (.if_icmp .ge 16, 3) := by decide +kernel
theorem d_M_plan_17 : decode b_M_plan 17 = .ok (.aload_n 0, 1) := by decide +kernel
theorem d_M_plan_18 : decode b_M_plan 18 = .ok (.getfield 73, 3) := by decide +kernel
theorem d_M_plan_21 : decode b_M_plan 21 = .ok (.iload_n 1, 1) := by decide +kernel
theorem d_M_plan_22 : decode b_M_plan 22 = .ok (.iconst 0, 1) := by decide +kernel
theorem d_M_plan_23 : decode b_M_plan 23 = .ok (.iastore, 1) := by decide +kernel
theorem d_M_plan_24 : decode b_M_plan 24 = .ok (.iinc 1 1, 3) := by decide +kernel
theorem d_M_plan_27 : decode b_M_plan 27 = .ok (.goto (-15), 3) := by decide +kernel
theorem d_M_plan_30 : decode b_M_plan 30 = .ok (.iconst 0, 1) := by decide +kernel
theorem d_M_plan_31 : decode b_M_plan 31 = .ok (.istore_n 1, 1) := by decide +kernel
theorem d_M_plan_32 : decode b_M_plan 32 = .ok (.iload_n 1, 1) := by decide +kernel
theorem d_M_plan_33 : decode b_M_plan 33 = .ok (.bipush 8, 2) := by decide +kernel
theorem d_M_plan_35 : decode b_M_plan 35 = .ok (.if_icmp .ge 16, 3) := by decide +kernel
theorem d_M_plan_38 : decode b_M_plan 38 = .ok (.aload_n 0, 1) := by decide +kernel
theorem d_M_plan_39 : decode b_M_plan 39 = .ok (.getfield 76, 3) := by decide +kernel
theorem d_M_plan_42 : decode b_M_plan 42 = .ok (.iload_n 1, 1) := by decide +kernel
theorem d_M_plan_43 : decode b_M_plan 43 = .ok (.iconst 0, 1) := by decide +kernel
theorem d_M_plan_44 : decode b_M_plan 44 = .ok (.iastore, 1) := by decide +kernel
theorem d_M_plan_45 : decode b_M_plan 45 = .ok (.iinc 1 1, 3) := by decide +kernel
theorem d_M_plan_48 : decode b_M_plan 48 = .ok (.goto (-16), 3) := by decide +kernel
theorem d_M_plan_51 : decode b_M_plan 51 = .ok (.aload_n 0, 1) := by decide +kernel
theorem d_M_plan_52 : decode b_M_plan 52 = .ok (.getfield 79, 3) := by decide +kernel
theorem d_M_plan_55 : decode b_M_plan 55 = .ok (.iconst 0, 1) := by decide +kernel
theorem d_M_plan_56 : decode b_M_plan 56 = .ok (.iconst 0, 1) := by decide +kernel
theorem d_M_plan_57 : decode b_M_plan 57 = .ok (.iastore, 1) := by decide +kernel
theorem d_M_plan_58 : decode b_M_plan 58 = .ok (.aload_n 0, 1) := by decide +kernel
theorem d_M_plan_59 : decode b_M_plan 59 = .ok (.getfield 82, 3) := by decide +kernel
theorem d_M_plan_62 : decode b_M_plan 62 = .ok (.iconst 0, 1) := by decide +kernel
theorem d_M_plan_63 : decode b_M_plan 63 = .ok (.iconst 0, 1) := by decide +kernel
theorem d_M_plan_64 : decode b_M_plan 64 = .ok (.iastore, 1) := by decide +kernel
theorem d_M_plan_65 : decode b_M_plan 65 = .ok (.aload_n 0, 1) := by decide +kernel
theorem d_M_plan_66 : decode b_M_plan 66 = .ok (.getfield 130, 3) := by decide +kernel
theorem d_M_plan_69 : decode b_M_plan 69 = .ok (.aload_n 0, 1) := by decide +kernel
theorem d_M_plan_70 : decode b_M_plan 70 = .ok (.getfield 137, 3) := by decide +kernel
theorem d_M_plan_73 : decode b_M_plan 73 = .ok (.imul, 1) := by decide +kernel
theorem d_M_plan_74 : decode b_M_plan 74 = .ok (.istore_n 1, 1) := by decide +kernel
theorem d_M_plan_75 : decode b_M_plan 75 = .ok (.iconst 0, 1) := by decide +kernel
theorem d_M_plan_76 : decode b_M_plan 76 = .ok (.istore_n 2, 1) := by decide +kernel
theorem d_M_plan_77 : decode b_M_plan 77 = .ok (.iload_n 2, 1) := by decide +kernel
theorem d_M_plan_78 : decode b_M_plan 78 = .ok (.ifCond .lt 205, 3) := by decide +kernel
theorem d_M_plan_81 : decode b_M_plan 81 = .ok (.iload_n 2, 1) := by decide +kernel
theorem d_M_plan_82 : decode b_M_plan 82 = .ok (.aload_n 0, 1) := by decide +kernel
theorem d_M_plan_83 : decode b_M_plan 83 = .ok (.getfield 140, 3) := by decide +kernel
theorem d_M_plan_86 : decode b_M_plan 86 = .ok (.if_icmp .eq 13, 3) := by decide +kernel
theorem d_M_plan_89 : decode b_M_plan 89 = .ok (.aload_n 0, 1) := by decide +kernel
theorem d_M_plan_90 : decode b_M_plan 90 = .ok (.getfield 82, 3) := by decide +kernel
theorem d_M_plan_93 : decode b_M_plan 93 = .ok (.iload_n 2, 1) := by decide +kernel
theorem d_M_plan_94 : decode b_M_plan 94 = .ok (.iaload, 1) := by decide +kernel
theorem d_M_plan_95 : decode b_M_plan 95 = .ok (.iload_n 1, 1) := by decide +kernel
theorem d_M_plan_96 : decode b_M_plan 96 = .ok (.if_icmp .le 55, 3) := by decide +kernel
theorem d_M_plan_99 : decode b_M_plan 99 = .ok (.iload_n 2, 1) := by decide +kernel
theorem d_M_plan_100 : decode b_M_plan 100 = .ok (.aload_n 0, 1) := by decide +kernel
theorem d_M_plan_101 : decode b_M_plan 101 = .ok (.getfield 140, 3) := by decide +kernel
theorem d_M_plan_104 : decode b_M_plan 104 = .ok (.if_icmp .ne 27, 3) := by decide +kernel
theorem d_M_plan_107 : decode b_M_plan 107 = .ok (.aload_n 0, 1) := by decide +kernel
theorem d_M_plan_108 : decode b_M_plan 108 = .ok (.getfield 133, 3) := by decide +kernel
theorem d_M_plan_111 : decode b_M_plan 111 = .ok (.ifCond .eq 16, 3) := by decide +kernel
theorem d_M_plan_114 : decode b_M_plan 114 = .ok (.aload_n 0, 1) := by decide +kernel
theorem d_M_plan_115 : decode b_M_plan 115 = .ok (.getfield 79, 3) := by decide +kernel
theorem d_M_plan_118 : decode b_M_plan 118 = .ok (.iload_n 2, 1) := by decide +kernel
theorem d_M_plan_119 : decode b_M_plan 119 = .ok (.iaload, 1) := by decide +kernel
theorem d_M_plan_120 : decode b_M_plan 120 = .ok (.aload_n 0, 1) := by decide +kernel
theorem d_M_plan_121 : decode b_M_plan 121 = .ok (.getfield 147, 3) := by decide +kernel
theorem d_M_plan_124 : decode b_M_plan 124 = .ok (.if_icmp .ge 7, 3) := by decide +kernel
theorem d_M_plan_127 : decode b_M_plan 127 = .ok (.aload_n 0, 1) := by decide +kernel
theorem d_M_plan_128 : decode b_M_plan 128 = .ok (.invokevirtual 150, 3) := by decide +kernel
theorem d_M_plan_131 : decode b_M_plan 131 = .ok (.iinc 2 (-1), 3) := by decide +kernel
theorem d_M_plan_134 : decode b_M_plan 134 = .ok (.iload_n 2, 1) := by decide +kernel
theorem d_M_plan_135 : decode b_M_plan 135 = .ok (.ifCond .lt (-58), 3) := by decide +kernel
theorem d_M_plan_138 : decode b_M_plan 138 = .ok (.aload_n 0, 1) := by decide +kernel
theorem d_M_plan_139 : decode b_M_plan 139 = .ok (.getfield 82, 3) := by decide +kernel
theorem d_M_plan_142 : decode b_M_plan 142 = .ok (.iload_n 2, 1) := by decide +kernel
theorem d_M_plan_143 : decode b_M_plan 143 = .ok (.dup2, 1) := by decide +kernel
theorem d_M_plan_144 : decode b_M_plan 144 = .ok (.iaload, 1) := by decide +kernel
theorem d_M_plan_145 : decode b_M_plan 145 = .ok (.iconst 1, 1) := by decide +kernel
theorem d_M_plan_146 : decode b_M_plan 146 = .ok (.iadd, 1) := by decide +kernel
theorem d_M_plan_147 : decode b_M_plan 147 = .ok (.iastore, 1) := by decide +kernel
theorem d_M_plan_148 : decode b_M_plan 148 = .ok (.goto (-71), 3) := by decide +kernel
theorem d_M_plan_151 : decode b_M_plan 151 = .ok (.aload_n 0, 1) := by decide +kernel
theorem d_M_plan_152 : decode b_M_plan 152 = .ok (.getfield 85, 3) := by decide +kernel
theorem d_M_plan_155 : decode b_M_plan 155 = .ok (.iload_n 2, 1) := by decide +kernel
theorem d_M_plan_156 : decode b_M_plan 156 = .ok (.aload_n 0, 1) := by decide +kernel
theorem d_M_plan_157 : decode b_M_plan 157 = .ok (.getfield 82, 3) := by decide +kernel
theorem d_M_plan_160 : decode b_M_plan 160 = .ok (.iload_n 2, 1) := by decide +kernel
theorem d_M_plan_161 : decode b_M_plan 161 = .ok (.iaload, 1) := by decide +kernel
theorem d_M_plan_162 : decode b_M_plan 162 = .ok (.iload_n 1, 1) := by decide +kernel
theorem d_M_plan_163 : decode b_M_plan 163 = .ok (.if_icmp .ne 7, 3) := by decide +kernel
theorem d_M_plan_166 : decode b_M_plan 166 = .ok (.iconst (-1), 1) := by decide +kernel
theorem d_M_plan_167 : decode b_M_plan 167 = .ok (.goto 30, 3) := by decide +kernel
theorem d_M_plan_170 : decode b_M_plan 170 = .ok (.aload_n 0, 1) := by decide +kernel
theorem d_M_plan_171 : decode b_M_plan 171 = .ok (.iload_n 2, 1) := by decide +kernel
theorem d_M_plan_172 : decode b_M_plan 172 = .ok (.aload_n 0, 1) := by decide +kernel
theorem d_M_plan_173 : decode b_M_plan 173 = .ok (.getfield 82, 3) := by decide +kernel
theorem d_M_plan_176 : decode b_M_plan 176 = .ok (.iload_n 2, 1) := by decide +kernel
theorem d_M_plan_177 : decode b_M_plan 177 = .ok (.iaload, 1) := by decide +kernel
theorem d_M_plan_178 : decode b_M_plan 178 = .ok (.aload_n 0, 1) := by decide +kernel
theorem d_M_plan_179 : decode b_M_plan 179 = .ok (.getfield 137, 3) := by decide +kernel
theorem d_M_plan_182 : decode b_M_plan 182 = .ok (.idiv, 1) := by decide +kernel
theorem d_M_plan_183 : decode b_M_plan 183 = .ok (.aload_n 0, 1) := by decide +kernel
theorem d_M_plan_184 : decode b_M_plan 184 = .ok (.getfield 82, 3) := by decide +kernel
theorem d_M_plan_187 : decode b_M_plan 187 = .ok (.iload_n 2, 1) := by decide +kernel
theorem d_M_plan_188 : decode b_M_plan 188 = .ok (.iaload, 1) := by decide +kernel
theorem d_M_plan_189 : decode b_M_plan 189 = .ok (.aload_n 0, 1) := by decide +kernel
theorem d_M_plan_190 : decode b_M_plan 190 = .ok (.getfield 137, 3) := by decide +kernel
theorem d_M_plan_193 : decode b_M_plan 193 = .ok (.irem, 1) := by decide +kernel
theorem d_M_plan_194 : decode b_M_plan 194 = .ok (.invokevirtual 153, 3) := by decide +kernel
theorem d_M_plan_197 : decode b_M_plan 197 = .ok (.iastore, 1) := by decide +kernel
theorem d_M_plan_198 : decode b_M_plan 198 = .ok (.aload_n 0, 1) := by decide +kernel
theorem d_M_plan_199 : decode b_M_plan 199 = .ok (.getfield 82, 3) := by decide +kernel
theorem d_M_plan_202 : decode b_M_plan 202 = .ok (.iload_n 2, 1) := by decide +kernel
theorem d_M_plan_203 : decode b_M_plan 203 = .ok (.iaload, 1) := by decide +kernel
theorem d_M_plan_204 : decode b_M_plan 204 = .ok (.iload_n 1, 1) := by decide +kernel
theorem d_M_plan_205 : decode b_M_plan 205 = .ok (.if_icmp .ge 25, 3) := by decide +kernel
theorem d_M_plan_208 : decode b_M_plan 208 = .ok (.aload_n 0, 1) := by decide +kernel
theorem d_M_plan_209 : decode b_M_plan 209 = .ok (.getfield 85, 3) := by decide +kernel
theorem d_M_plan_212 : decode b_M_plan 212 = .ok (.iload_n 2, 1) := by decide +kernel
theorem d_M_plan_213 : decode b_M_plan 213 = .ok (.iaload, 1) := by decide +kernel
theorem d_M_plan_214 : decode b_M_plan 214 = .ok (.ifCond .ge 16, 3) := by decide +kernel
theorem d_M_plan_217 : decode b_M_plan 217 = .ok (.aload_n 0, 1) := by decide +kernel
theorem d_M_plan_218 : decode b_M_plan 218 = .ok (.getfield 82, 3) := by decide +kernel
theorem d_M_plan_221 : decode b_M_plan 221 = .ok (.iload_n 2, 1) := by decide +kernel
theorem d_M_plan_222 : decode b_M_plan 222 = .ok (.dup2, 1) := by decide +kernel
theorem d_M_plan_223 : decode b_M_plan 223 = .ok (.iaload, 1) := by decide +kernel
theorem d_M_plan_224 : decode b_M_plan 224 = .ok (.iconst 1, 1) := by decide +kernel
theorem d_M_plan_225 : decode b_M_plan 225 = .ok (.iadd, 1) := by decide +kernel
theorem d_M_plan_226 : decode b_M_plan 226 = .ok (.iastore, 1) := by decide +kernel
theorem d_M_plan_227 : decode b_M_plan 227 = .ok (.goto (-150), 3) := by decide +kernel
theorem d_M_plan_230 : decode b_M_plan 230 = .ok (.aload_n 0, 1) := by decide +kernel
theorem d_M_plan_231 : decode b_M_plan 231 = .ok (.iload_n 2, 1) := by decide +kernel
theorem d_M_plan_232 : decode b_M_plan 232 = .ok (.invokevirtual 157, 3) := by decide +kernel
theorem d_M_plan_235 : decode b_M_plan 235 = .ok (.aload_n 0, 1) := by decide +kernel
theorem d_M_plan_236 : decode b_M_plan 236 = .ok (.getfield 133, 3) := by decide +kernel
theorem d_M_plan_239 : decode b_M_plan 239 = .ok (.ifCond .eq 31, 3) := by decide +kernel
theorem d_M_plan_242 : decode b_M_plan 242 = .ok (.aload_n 0, 1) := by decide +kernel
theorem d_M_plan_243 : decode b_M_plan 243 = .ok (.getfield 79, 3) := by decide +kernel
theorem d_M_plan_246 : decode b_M_plan 246 = .ok (.iload_n 2, 1) := by decide +kernel
theorem d_M_plan_247 : decode b_M_plan 247 = .ok (.iconst 1, 1) := by decide +kernel
theorem d_M_plan_248 : decode b_M_plan 248 = .ok (.iadd, 1) := by decide +kernel
theorem d_M_plan_249 : decode b_M_plan 249 = .ok (.iaload, 1) := by decide +kernel
theorem d_M_plan_250 : decode b_M_plan 250 = .ok (.aload_n 0, 1) := by decide +kernel
theorem d_M_plan_251 : decode b_M_plan 251 = .ok (.getfield 147, 3) := by decide +kernel
theorem d_M_plan_254 : decode b_M_plan 254 = .ok (.if_icmp .lt 16, 3) := by decide +kernel
theorem d_M_plan_257 : decode b_M_plan 257 = .ok (.aload_n 0, 1) := by decide +kernel
theorem d_M_plan_258 : decode b_M_plan 258 = .ok (.getfield 82, 3) := by decide +kernel
theorem d_M_plan_261 : decode b_M_plan 261 = .ok (.iload_n 2, 1) := by decide +kernel
theorem d_M_plan_262 : decode b_M_plan 262 = .ok (.dup2, 1) := by decide +kernel
theorem d_M_plan_263 : decode b_M_plan 263 = .ok (.iaload, 1) := by decide +kernel
theorem d_M_plan_264 : decode b_M_plan 264 = .ok (.iconst 1, 1) := by decide +kernel
theorem d_M_plan_265 : decode b_M_plan 265 = .ok (.iadd, 1) := by decide +kernel
theorem d_M_plan_266 : decode b_M_plan 266 = .ok (.iastore, 1) := by decide +kernel
theorem d_M_plan_267 : decode b_M_plan 267 = .ok (.goto (-190), 3) := by decide +kernel
theorem d_M_plan_270 : decode b_M_plan 270 = .ok (.iinc 2 1, 3) := by decide +kernel
theorem d_M_plan_273 : decode b_M_plan 273 = .ok (.aload_n 0, 1) := by decide +kernel
theorem d_M_plan_274 : decode b_M_plan 274 = .ok (.getfield 82, 3) := by decide +kernel
theorem d_M_plan_277 : decode b_M_plan 277 = .ok (.iload_n 2, 1) := by decide +kernel
theorem d_M_plan_278 : decode b_M_plan 278 = .ok (.iconst 0, 1) := by decide +kernel
theorem d_M_plan_279 : decode b_M_plan 279 = .ok (.iastore, 1) := by decide +kernel
theorem d_M_plan_280 : decode b_M_plan 280 = .ok (.goto (-203), 3) := by decide +kernel
theorem d_M_plan_283 : decode b_M_plan 283 = .ok (.iconst 0, 1) := by decide +kernel
theorem d_M_plan_284 : decode b_M_plan 284 = .ok (.istore_n 3, 1) := by decide +kernel
theorem d_M_plan_285 : decode b_M_plan 285 = .ok (.iconst 0, 1) := by decide +kernel
theorem d_M_plan_286 : decode b_M_plan 286 = .ok (.istore 4, 2) := by decide +kernel
theorem d_M_plan_288 : decode b_M_plan 288 = .ok (.iload 4, 2) := by decide +kernel
theorem d_M_plan_290 : decode b_M_plan 290 = .ok (.aload_n 0, 1) := by decide +kernel
theorem d_M_plan_291 : decode b_M_plan 291 = .ok (.getfield 140, 3) := by decide +kernel
theorem d_M_plan_294 : decode b_M_plan 294 = .ok (.if_icmp .ge 22, 3) := by decide +kernel
theorem d_M_plan_297 : decode b_M_plan 297 = .ok (.aload_n 0, 1) := by decide +kernel
theorem d_M_plan_298 : decode b_M_plan 298 = .ok (.getfield 67, 3) := by decide +kernel
theorem d_M_plan_301 : decode b_M_plan 301 = .ok (.iload 4, 2) := by decide +kernel
theorem d_M_plan_303 : decode b_M_plan 303 = .ok (.iaload, 1) := by decide +kernel
theorem d_M_plan_304 : decode b_M_plan 304 = .ok (.ifCond .lt 6, 3) := by decide +kernel
theorem d_M_plan_307 : decode b_M_plan 307 = .ok (.iinc 3 1, 3) := by decide +kernel
theorem d_M_plan_310 : decode b_M_plan 310 = .ok (.iinc 4 1, 3) := by decide +kernel
theorem d_M_plan_313 : decode b_M_plan 313 = .ok (.goto (-25), 3) := by decide +kernel
theorem d_M_plan_316 : decode b_M_plan 316 = .ok (.iload_n 3, 1) := by decide +kernel
theorem d_M_plan_317 : decode b_M_plan 317 = .ok (.ireturn, 1) := by decide +kernel
theorem d_M_best_0 : decode b_M_best 0 = .ok (.aload_n 0, 1) := by decide +kernel
theorem d_M_best_1 : decode b_M_best 1 = .ok (.iconst 1, 1) := by decide +kernel
theorem d_M_best_2 : decode b_M_best 2 = .ok (.putfield 133, 3) := by decide +kernel
theorem d_M_best_5 : decode b_M_best 5 = .ok (.aload_n 0, 1) := by decide +kernel
theorem d_M_best_6 : decode b_M_best 6 = .ok (.aload_n 0, 1) := by decide +kernel
theorem d_M_best_7 : decode b_M_best 7 = .ok (.getfield 79, 3) := by decide +kernel
theorem d_M_best_10 : decode b_M_best 10 = .ok (.aload_n 0, 1) := by decide +kernel
theorem d_M_best_11 : decode b_M_best 11 = .ok (.getfield 140, 3) := by decide +kernel
theorem d_M_best_14 : decode b_M_best 14 = .ok (.iaload, 1) := by decide +kernel
theorem d_M_best_15 : decode b_M_best 15 = .ok (.putfield 147, 3) := by decide +kernel
theorem d_M_best_18 : decode b_M_best 18 = .ok (.iconst 0, 1) := by decide +kernel
theorem d_M_best_19 : decode b_M_best 19 = .ok (.istore_n 1, 1) := by decide +kernel
theorem d_M_best_20 : decode b_M_best 20 = .ok (.iload_n 1, 1) := by decide +kernel
theorem d_M_best_21 : decode b_M_best 21 = .ok (.aload_n 0, 1) := by decide +kernel
theorem d_M_best_22 : decode b_M_best 22 = .ok (.getfield 140, 3) := by decide +kernel
theorem d_M_best_25 : decode b_M_best 25 = .ok (.if_icmp .ge 33, 3) := by decide +kernel
theorem d_M_best_28 : decode b_M_best 28 = .ok (.aload_n 0, 1) := by decide +kernel
theorem d_M_best_29 : decode b_M_best 29 = .ok (.getfield 67, 3) := by decide +kernel
theorem d_M_best_32 : decode b_M_best 32 = .ok (.iload_n 1, 1) := by decide +kernel
theorem d_M_best_33 : decode b_M_best 33 = .ok (.aload_n 0, 1) := by decide +kernel
theorem d_M_best_34 : decode b_M_best 34 = .ok (.getfield 85, 3) := by decide +kernel
theorem d_M_best_37 : decode b_M_best 37 = .ok (.iload_n 1, 1) := by decide +kernel
theorem d_M_best_38 : decode b_M_best 38 = .ok (.iaload, 1) := by decide +kernel
theorem d_M_best_39 : decode b_M_best 39 = .ok (.iastore, 1) := by decide +kernel
theorem d_M_best_40 : decode b_M_best 40 = .ok (.aload_n 0, 1) := by decide +kernel
theorem d_M_best_41 : decode b_M_best 41 = .ok (.getfield 70, 3) := by decide +kernel
theorem d_M_best_44 : decode b_M_best 44 = .ok (.iload_n 1, 1) := by decide +kernel
theorem d_M_best_45 : decode b_M_best 45 = .ok (.aload_n 0, 1) := by decide +kernel
theorem d_M_best_46 : decode b_M_best 46 = .ok (.getfield 82, 3) := by decide +kernel
theorem d_M_best_49 : decode b_M_best 49 = .ok (.iload_n 1, 1) := by decide +kernel
theorem d_M_best_50 : decode b_M_best 50 = .ok (.iaload, 1) := by decide +kernel
theorem d_M_best_51 : decode b_M_best 51 = .ok (.iastore, 1) := by decide +kernel
theorem d_M_best_52 : decode b_M_best 52 = .ok (.iinc 1 1, 3) := by decide +kernel
theorem d_M_best_55 : decode b_M_best 55 = .ok (.goto (-35), 3) := by decide +kernel
theorem d_M_best_58 : decode b_M_best 58 = .ok (.return_, 1) := by decide +kernel
theorem d_M_at_0 : decode b_M_at 0 = .ok (.aload_n 0, 1) := by decide +kernel
theorem d_M_at_1 : decode b_M_at 1 = .ok (.iload_n 1, 1) := by decide +kernel
theorem d_M_at_2 : decode b_M_at 2 = .ok (.iconst 0, 1) := by decide +kernel
theorem d_M_at_3 : decode b_M_at 3 = .ok (.aload_n 0, 1) := by decide +kernel
theorem d_M_at_4 : decode b_M_at 4 = .ok (.getfield 140, 3) := by decide +kernel
theorem d_M_at_7 : decode b_M_at 7 = .ok (.iconst 1, 1) := by decide +kernel
theorem d_M_at_8 : decode b_M_at 8 = .ok (.isub, 1) := by decide +kernel
theorem d_M_at_9 : decode b_M_at 9 = .ok (.invokestatic 94, 3) := by decide +kernel
theorem d_M_at_12 : decode b_M_at 12 = .ok (.ifCond .eq 16, 3) := by decide +kernel
theorem d_M_at_15 : decode b_M_at 15 = .ok (.iload_n 2, 1) := by decide +kernel
theorem d_M_at_16 : decode b_M_at 16 = .ok (.iconst 0, 1) := by decide +kernel
theorem d_M_at_17 : decode b_M_at 17 = .ok (.iconst 2, 1) := by decide +kernel
theorem d_M_at_18 : decode b_M_at 18 = .ok (.invokestatic 94, 3) := by decide +kernel
theorem d_M_at_21 : decode b_M_at 21 = .ok (.ifCond .eq 7, 3) := by decide +kernel
theorem d_M_at_24 : decode b_M_at 24 = .ok (.iconst 1, 1) := by decide +kernel
theorem d_M_at_25 : decode b_M_at 25 = .ok (.goto 4, 3) := by decide +kernel
theorem d_M_at_28 : decode b_M_at 28 = .ok (.iconst 0, 1) := by decide +kernel
theorem d_M_at_29 : decode b_M_at 29 = .ok (.aload_n 0, 1) := by decide +kernel
theorem d_M_at_30 : decode b_M_at 30 = .ok (.getfield 133, 3) := by decide +kernel
theorem d_M_at_33 : decode b_M_at 33 = .ok (.iconst 1, 1) := by decide +kernel
theorem d_M_at_34 : decode b_M_at 34 = .ok (.invokevirtual 99, 3) := by decide +kernel
theorem d_M_at_37 : decode b_M_at 37 = .ok (.ifCond .ne 5, 3) := by decide +kernel
theorem d_M_at_40 : decode b_M_at 40 = .ok (.iconst 0, 1) := by decide +kernel
theorem d_M_at_41 : decode b_M_at 41 = .ok (.ireturn, 1) := by decide +kernel
theorem d_M_at_42 : decode b_M_at 42 = .ok (.aload_n 0, 1) := by decide +kernel
theorem d_M_at_43 : decode b_M_at 43 = .ok (.getfield 67, 3) := by decide +kernel
theorem d_M_at_46 : decode b_M_at 46 = .ok (.iload_n 1, 1) := by decide +kernel
theorem d_M_at_47 : decode b_M_at 47 = .ok (.iaload, 1) := by decide +kernel
theorem d_M_at_48 : decode b_M_at 48 = .ok (.ifCond .ge 5, 3) := by decide +kernel
theorem d_M_at_51 : decode b_M_at 51 = .ok (.iconst (-1), 1) := by decide +kernel
theorem d_M_at_52 : decode b_M_at 52 = .ok (.ireturn, 1) := by decide +kernel
theorem d_M_at_53 : decode b_M_at 53 = .ok (.iload_n 2, 1) := by decide +kernel
theorem d_M_at_54 : decode b_M_at 54 = .ok (.ifCond .ne 12, 3) := by decide +kernel
theorem d_M_at_57 : decode b_M_at 57 = .ok (.aload_n 0, 1) := by decide +kernel
theorem d_M_at_58 : decode b_M_at 58 = .ok (.getfield 67, 3) := by decide +kernel
theorem d_M_at_61 : decode b_M_at 61 = .ok (.iload_n 1, 1) := by decide +kernel
theorem d_M_at_62 : decode b_M_at 62 = .ok (.iaload, 1) := by decide +kernel
theorem d_M_at_63 : decode b_M_at 63 = .ok (.goto 33, 3) := by decide +kernel
theorem d_M_at_66 : decode b_M_at 66 = .ok (.iload_n 2, 1) := by decide +kernel
theorem d_M_at_67 : decode b_M_at 67 = .ok (.iconst 1, 1) := by decide +kernel
theorem d_M_at_68 : decode b_M_at 68 = .ok (.if_icmp .ne 17, 3) := by decide +kernel
theorem d_M_at_71 : decode b_M_at 71 = .ok (.aload_n 0, 1) := by decide +kernel
theorem d_M_at_72 : decode b_M_at 72 = .ok (.getfield 70, 3) := by decide +kernel
theorem d_M_at_75 : decode b_M_at 75 = .ok (.iload_n 1, 1) := by decide +kernel
theorem d_M_at_76 : decode b_M_at 76 = .ok (.iaload, 1) := by decide +kernel
theorem d_M_at_77 : decode b_M_at 77 = .ok (.aload_n 0, 1) := by decide +kernel
theorem d_M_at_78 : decode b_M_at 78 = .ok (.getfield 137, 3) := by decide +kernel
theorem d_M_at_81 : decode b_M_at 81 = .ok (.irem, 1) := by decide +kernel
theorem d_M_at_82 : decode b_M_at 82 = .ok (.goto 14, 3) := by decide +kernel
theorem d_M_at_85 : decode b_M_at 85 = .ok (.aload_n 0, 1) := by decide +kernel
theorem d_M_at_86 : decode b_M_at 86 = .ok (.getfield 70, 3) := by decide +kernel
theorem d_M_at_89 : decode b_M_at 89 = .ok (.iload_n 1, 1) := by decide +kernel
theorem d_M_at_90 : decode b_M_at 90 = .ok (.iaload, 1) := by decide +kernel
theorem d_M_at_91 : decode b_M_at 91 = .ok (.aload_n 0, 1) := by decide +kernel
theorem d_M_at_92 : decode b_M_at 92 = .ok (.getfield 137, 3) := by decide +kernel
theorem d_M_at_95 : decode b_M_at 95 = .ok (.idiv, 1) := by decide +kernel
theorem d_M_at_96 : decode b_M_at 96 = .ok (.ireturn, 1) := by decide +kernel
theorem d_M_cost_0 : decode b_M_cost 0 = .ok (.aload_n 0, 1) := by decide +kernel
theorem d_M_cost_1 : decode b_M_cost 1 = .ok (.aload_n 0, 1) := by decide +kernel
theorem d_M_cost_2 : decode b_M_cost 2 = .ok (.getfield 133, 3) := by decide +kernel
theorem d_M_cost_5 : decode b_M_cost 5 = .ok (.iconst 1, 1) := by decide +kernel
theorem d_M_cost_6 : decode b_M_cost 6 = .ok (.iconst 1, 1) := by decide +kernel
theorem d_M_cost_7 : decode b_M_cost 7 = .ok (.invokevirtual 99, 3) := by decide +kernel
theorem d_M_cost_10 : decode b_M_cost 10 = .ok (.ifCond .ne 5, 3) := by decide +kernel
theorem d_M_cost_13 : decode b_M_cost 13 = .ok (.iconst 0, 1) := by decide +kernel
theorem d_M_cost_14 : decode b_M_cost 14 = .ok (.ireturn, 1) := by decide +kernel
theorem d_M_cost_15 : decode b_M_cost 15 = .ok (.aload_n 0, 1) := by decide +kernel
theorem d_M_cost_16 : decode b_M_cost 16 = .ok (.getfield 147, 3) := by decide +kernel
theorem d_M_cost_19 : decode b_M_cost 19 = .ok (.ireturn, 1) := by decide +kernel
theorem d_M_done_0 : decode b_M_done 0 = .ok (.aload_n 0, 1) := by decide +kernel
theorem d_M_done_1 : decode b_M_done 1 = .ok (.aload_n 0, 1) := by decide +kernel
theorem d_M_done_2 : decode b_M_done 2 = .ok (.getfield 133, 3) := by decide +kernel
theorem d_M_done_5 : decode b_M_done 5 = .ok (.iconst 1, 1) := by decide +kernel
theorem d_M_done_6 : decode b_M_done 6 = .ok (.iconst 1, 1) := by decide +kernel
theorem d_M_done_7 : decode b_M_done 7 = .ok (.invokevirtual 99, 3) := by decide +kernel
theorem d_M_done_10 : decode b_M_done 10 = .ok (.ifCond .ne 5, 3) := by decide +kernel
theorem d_M_done_13 : decode b_M_done 13 = .ok (.iconst 0, 1) := by decide +kernel
theorem d_M_done_14 : decode b_M_done 14 = .ok (.ireturn, 1) := by decide +kernel
theorem d_M_done_15 : decode b_M_done 15 = .ok (.iconst 0, 1) := by decide +kernel
theorem d_M_done_16 : decode b_M_done 16 = .ok (.istore_n 1, 1) := by decide +kernel
theorem d_M_done_17 : decode b_M_done 17 = .ok (.iconst 0, 1) := by decide +kernel
theorem d_M_done_18 : decode b_M_done 18 = .ok (.istore_n 2, 1) := by decide +kernel
theorem d_M_done_19 : decode b_M_done 19 = .ok (.iload_n 2, 1) := by decide +kernel
theorem d_M_done_20 : decode b_M_done 20 = .ok (.aload_n 0, 1) := by decide +kernel
theorem d_M_done_21 : decode b_M_done 21 = .ok (.getfield 140, 3) := by decide +kernel
theorem d_M_done_24 : decode b_M_done 24 = .ok (.if_icmp .ge 76, 3) := by decide +kernel
theorem d_M_done_27 : decode b_M_done 27 = .ok (.aload_n 0, 1) := by decide +kernel
theorem d_M_done_28 : decode b_M_done 28 = .ok (.getfield 67, 3) := by decide +kernel
theorem d_M_done_31 : decode b_M_done 31 = .ok (.iload_n 2, 1) := by decide +kernel
theorem d_M_done_32 : decode b_M_done 32 = .ok (.iaload, 1) := by decide +kernel
theorem d_M_done_33 : decode b_M_done 33 = .ok (.ifCond .lt 61, 3) := by decide +kernel
theorem d_M_done_36 : decode b_M_done 36 = .ok (.aload_n 0, 1) := by decide +kernel
theorem d_M_done_37 : decode b_M_done 37 = .ok (.getfield 64, 3) := by decide +kernel
theorem d_M_done_40 : decode b_M_done 40 = .ok (.aload_n 0, 1) := by decide +kernel
theorem d_M_done_41 : decode b_M_done 41 = .ok (.getfield 51, 3) := by decide +kernel
theorem d_M_done_44 : decode b_M_done 44 = .ok (.iload_n 2, 1) := by decide +kernel
theorem d_M_done_45 : decode b_M_done 45 = .ok (.iaload, 1) := by decide +kernel
theorem d_M_done_46 : decode b_M_done 46 = .ok (.iaload, 1) := by decide +kernel
theorem d_M_done_47 : decode b_M_done 47 = .ok (.ifCond .ne 6, 3) := by decide +kernel
theorem d_M_done_50 : decode b_M_done 50 = .ok (.goto 44, 3) := by decide +kernel
theorem d_M_done_53 : decode b_M_done 53 = .ok (.aload_n 0, 1) := by decide +kernel
theorem d_M_done_54 : decode b_M_done 54 = .ok (.getfield 64, 3) := by decide +kernel
theorem d_M_done_57 : decode b_M_done 57 = .ok (.aload_n 0, 1) := by decide +kernel
theorem d_M_done_58 : decode b_M_done 58 = .ok (.getfield 51, 3) := by decide +kernel
theorem d_M_done_61 : decode b_M_done 61 = .ok (.iload_n 2, 1) := by decide +kernel
theorem d_M_done_62 : decode b_M_done 62 = .ok (.iaload, 1) := by decide +kernel
theorem d_M_done_63 : decode b_M_done 63 = .ok (.dup2, 1) := by decide +kernel
theorem d_M_done_64 : decode b_M_done 64 = .ok (.iaload, 1) := by decide +kernel
theorem d_M_done_65 : decode b_M_done 65 = .ok (.iconst 1, 1) := by decide +kernel
theorem d_M_done_66 : decode b_M_done 66 = .ok (.isub, 1) := by decide +kernel
theorem d_M_done_67 : decode b_M_done 67 = .ok (.iastore, 1) := by decide +kernel
theorem d_M_done_68 : decode b_M_done 68 = .ok (.aload_n 0, 1) := by decide +kernel
theorem d_M_done_69 : decode b_M_done 69 = .ok (.getfield 20, 3) := by decide +kernel
theorem d_M_done_72 : decode b_M_done 72 = .ok (.aload_n 0, 1) := by decide +kernel
theorem d_M_done_73 : decode b_M_done 73 = .ok (.getfield 45, 3) := by decide +kernel
theorem d_M_done_76 : decode b_M_done 76 = .ok (.iload_n 2, 1) := by decide +kernel
theorem d_M_done_77 : decode b_M_done 77 = .ok (.iaload, 1) := by decide +kernel
theorem d_M_done_78 : decode b_M_done 78 = .ok (.iconst 0, 1) := by decide +kernel
theorem d_M_done_79 : decode b_M_done 79 = .ok (.iastore, 1) := by decide +kernel
theorem d_M_done_80 : decode b_M_done 80 = .ok (.aload_n 0, 1) := by decide +kernel
theorem d_M_done_81 : decode b_M_done 81 = .ok (.aload_n 0, 1) := by decide +kernel
theorem d_M_done_82 : decode b_M_done 82 = .ok (.getfield 45, 3) := by decide +kernel
theorem d_M_done_85 : decode b_M_done 85 = .ok (.iload_n 2, 1) := by decide +kernel
theorem d_M_done_86 : decode b_M_done 86 = .ok (.iaload, 1) := by decide +kernel
theorem d_M_done_87 : decode b_M_done 87 = .ok (.iconst (-1), 1) := by decide +kernel
theorem d_M_done_88 : decode b_M_done 88 = .ok (.invokevirtual 110, 3) := by decide +kernel
theorem d_M_done_91 : decode b_M_done 91 = .ok (.iinc 1 1, 3) := by decide +kernel
theorem d_M_done_94 : decode b_M_done 94 = .ok (.iinc 2 1, 3) := by decide +kernel
theorem d_M_done_97 : decode b_M_done 97 = .ok (.goto (-78), 3) := by decide +kernel
theorem d_M_done_100 : decode b_M_done 100 = .ok (.aload_n 0, 1) := by decide +kernel
theorem d_M_done_101 : decode b_M_done 101 = .ok (.iconst 0, 1) := by decide +kernel
theorem d_M_done_102 : decode b_M_done 102 = .ok (.putfield 140, 3) := by decide +kernel
theorem d_M_done_105 : decode b_M_done 105 = .ok (.aload_n 0, 1) := by decide +kernel
theorem d_M_done_106 : decode b_M_done 106 = .ok (.iconst 0, 1) := by decide +kernel
theorem d_M_done_107 : decode b_M_done 107 = .ok (.putfield 133, 3) := by decide +kernel
theorem d_M_done_110 : decode b_M_done 110 = .ok (.iload_n 1, 1) := by decide +kernel
theorem d_M_done_111 : decode b_M_done 111 = .ok (.ireturn, 1) := by decide +kernel
theorem d_M_spare_0 : decode b_M_spare 0 = .ok (.iload_n 1, 1) := by decide +kernel
theorem d_M_spare_1 : decode b_M_spare 1 = .ok (.iconst 0, 1) := by decide +kernel
theorem d_M_spare_2 : decode b_M_spare 2 = .ok (.iconst 3, 1) := by decide +kernel
theorem d_M_spare_3 : decode b_M_spare 3 = .ok (.invokestatic 94, 3) := by decide +kernel
theorem d_M_spare_6 : decode b_M_spare 6 = .ok (.istore_n 3, 1) := by decide +kernel
theorem d_M_spare_7 : decode b_M_spare 7 = .ok (.iload_n 2, 1) := by decide +kernel
theorem d_M_spare_8 : decode b_M_spare 8 = .ok (.iconst 0, 1) := by decide +kernel
theorem d_M_spare_9 : decode b_M_spare 9 = .ok (.bipush 100, 2) := by decide +kernel
theorem d_M_spare_11 : decode b_M_spare 11 = .ok (.invokestatic 94, 3) := by decide +kernel
theorem d_M_spare_14 : decode b_M_spare 14 = .ok (.istore 4, 2) := by decide +kernel
theorem d_M_spare_16 : decode b_M_spare 16 = .ok (.aload_n 0, 1) := by decide +kernel
theorem d_M_spare_17 : decode b_M_spare 17 = .ok (.iload_n 3, 1) := by decide +kernel
theorem d_M_spare_18 : decode b_M_spare 18 = .ok (.iload 4, 2) := by decide +kernel
theorem d_M_spare_20 : decode b_M_spare 20 = .ok (.iload_n 3, 1) := by decide +kernel
theorem d_M_spare_21 : decode b_M_spare 21 = .ok (.ifCond .eq 26, 3) := by decide +kernel
theorem d_M_spare_24 : decode b_M_spare 24 = .ok (.iload 4, 2) := by decide +kernel
theorem d_M_spare_26 : decode b_M_spare 26 = .ok (.ifCond .eq 21, 3) := by decide +kernel
theorem d_M_spare_29 : decode b_M_spare 29 = .ok (.aload_n 0, 1) := by decide +kernel
theorem d_M_spare_30 : decode b_M_spare 30 = .ok (.getfield 64, 3) := by decide +kernel
theorem d_M_spare_33 : decode b_M_spare 33 = .ok (.iload_n 1, 1) := by decide +kernel
theorem d_M_spare_34 : decode b_M_spare 34 = .ok (.iaload, 1) := by decide +kernel
theorem d_M_spare_35 : decode b_M_spare 35 = .ok (.iload_n 2, 1) := by decide +kernel
theorem d_M_spare_36 : decode b_M_spare 36 = .ok (.iadd, 1) := by decide +kernel
theorem d_M_spare_37 : decode b_M_spare 37 = .ok (.sipush 1000, 3) := by decide +kernel
theorem d_M_spare_40 : decode b_M_spare 40 = .ok (.if_icmp .gt 7, 3) := by decide +kernel
theorem d_M_spare_43 : decode b_M_spare 43 = .ok (.iconst 1, 1) := by decide +kernel
theorem d_M_spare_44 : decode b_M_spare 44 = .ok (.goto 4, 3) := by decide +kernel
theorem d_M_spare_47 : decode b_M_spare 47 = .ok (.iconst 0, 1) := by decide +kernel
theorem d_M_spare_48 : decode b_M_spare 48 = .ok (.invokevirtual 99, 3) := by decide +kernel
theorem d_M_spare_51 : decode b_M_spare 51 = .ok (.ifCond .ne 5, 3) := by decide +kernel
theorem d_M_spare_54 : decode b_M_spare 54 = .ok (.iconst 0, 1) := by decide +kernel
theorem d_M_spare_55 : decode b_M_spare 55 = .ok (.ireturn, 1) := by decide +kernel
theorem d_M_spare_56 : decode b_M_spare 56 = .ok (.aload_n 0, 1) := by decide +kernel
theorem d_M_spare_57 : decode b_M_spare 57 = .ok (.getfield 64, 3) := by decide +kernel
theorem d_M_spare_60 : decode b_M_spare 60 = .ok (.iload_n 1, 1) := by decide +kernel
theorem d_M_spare_61 : decode b_M_spare 61 = .ok (.aload_n 0, 1) := by decide +kernel
theorem d_M_spare_62 : decode b_M_spare 62 = .ok (.getfield 64, 3) := by decide +kernel
theorem d_M_spare_65 : decode b_M_spare 65 = .ok (.iload_n 1, 1) := by decide +kernel
theorem d_M_spare_66 : decode b_M_spare 66 = .ok (.iaload, 1) := by decide +kernel
theorem d_M_spare_67 : decode b_M_spare 67 = .ok (.iload_n 2, 1) := by decide +kernel
theorem d_M_spare_68 : decode b_M_spare 68 = .ok (.iadd, 1) := by decide +kernel
theorem d_M_spare_69 : decode b_M_spare 69 = .ok (.iastore, 1) := by decide +kernel
theorem d_M_spare_70 : decode b_M_spare 70 = .ok (.aload_n 0, 1) := by decide +kernel
theorem d_M_spare_71 : decode b_M_spare 71 = .ok (.getfield 64, 3) := by decide +kernel
theorem d_M_spare_74 : decode b_M_spare 74 = .ok (.iload_n 1, 1) := by decide +kernel
theorem d_M_spare_75 : decode b_M_spare 75 = .ok (.iaload, 1) := by decide +kernel
theorem d_M_spare_76 : decode b_M_spare 76 = .ok (.ireturn, 1) := by decide +kernel
