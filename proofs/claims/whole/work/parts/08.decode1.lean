/-! what each instruction is (printed by program) -/
theorem d_W_init_0 : decode b_W_init 0 = .ok (.aload_n 0, 1) := by decide +kernel
theorem d_W_init_1 : decode b_W_init 1 = .ok (.invokespecial 1, 3) := by decide +kernel
theorem d_W_init_4 : decode b_W_init 4 = .ok (.aload_n 0, 1) := by decide +kernel
theorem d_W_init_5 : decode b_W_init 5 = .ok (.lconst 1, 1) := by decide +kernel
theorem d_W_init_6 : decode b_W_init 6 = .ok (.putfield 7, 3) := by decide +kernel
theorem d_W_init_9 : decode b_W_init 9 = .ok (.aload_n 0, 1) := by decide +kernel
theorem d_W_init_10 : decode b_W_init 10 = .ok (.bipush 8, 2) := by decide +kernel
theorem d_W_init_12 : decode b_W_init 12 = .ok (.anewarray 13, 3) := by decide +kernel
theorem d_W_init_15 : decode b_W_init 15 = .ok (.putfield 15, 3) := by decide +kernel
theorem d_W_init_18 : decode b_W_init 18 = .ok (.iconst 0, 1) := by decide +kernel
theorem d_W_init_19 : decode b_W_init 19 = .ok (.istore_n 1, 1) := by decide +kernel
theorem d_W_init_20 : decode b_W_init 20 = .ok (.iload_n 1, 1) := by decide +kernel
theorem d_W_init_21 : decode b_W_init 21 = .ok (.bipush 8, 2) := by decide +kernel
theorem d_W_init_23 : decode b_W_init 23 = .ok (.if_icmp .ge 22, 3) := by decide +kernel
theorem d_W_init_26 : decode b_W_init 26 = .ok (.aload_n 0, 1) := by decide +kernel
theorem d_W_init_27 : decode b_W_init 27 = .ok (.getfield 15, 3) := by decide +kernel
theorem d_W_init_30 : decode b_W_init 30 = .ok (.iload_n 1, 1) := by decide +kernel
theorem d_W_init_31 : decode b_W_init 31 = .ok (.new 13, 3) := by decide +kernel
theorem d_W_init_34 : decode b_W_init 34 = .ok (.dup, 1) := by decide +kernel
theorem d_W_init_35 : decode b_W_init 35 = .ok (.invokespecial 19, 3) := by decide +kernel
theorem d_W_init_38 : decode b_W_init 38 = .ok (.aastore, 1) := by decide +kernel
theorem d_W_init_39 : decode b_W_init 39 = .ok (.iinc 1 1, 3) := by decide +kernel
theorem d_W_init_42 : decode b_W_init 42 = .ok (.goto (-22), 3) := by decide +kernel
theorem d_W_init_45 : decode b_W_init 45 = .ok (.aload_n 0, 1) := by decide +kernel
theorem d_W_init_46 : decode b_W_init 46 = .ok (.iconst 4, 1) := by decide +kernel
theorem d_W_init_47 : decode b_W_init 47 = .ok (.newarray .int, 2) := by decide +kernel
theorem d_W_init_49 : decode b_W_init 49 = .ok (.putfield 20, 3) := by decide +kernel
theorem d_W_init_52 : decode b_W_init 52 = .ok (.aload_n 0, 1) := by decide +kernel
theorem d_W_init_53 : decode b_W_init 53 = .ok (.new 24, 3) := by decide +kernel
theorem d_W_init_56 : decode b_W_init 56 = .ok (.dup, 1) := by decide +kernel
theorem d_W_init_57 : decode b_W_init 57 = .ok (.invokespecial 26, 3) := by decide +kernel
theorem d_W_init_60 : decode b_W_init 60 = .ok (.putfield 27, 3) := by decide +kernel
theorem d_W_init_63 : decode b_W_init 63 = .ok (.aload_n 0, 1) := by decide +kernel
theorem d_W_init_64 : decode b_W_init 64 = .ok (.new 31, 3) := by decide +kernel
theorem d_W_init_67 : decode b_W_init 67 = .ok (.dup, 1) := by decide +kernel
theorem d_W_init_68 : decode b_W_init 68 = .ok (.aload_n 0, 1) := by decide +kernel
theorem d_W_init_69 : decode b_W_init 69 = .ok (.getfield 27, 3) := by decide +kernel
theorem d_W_init_72 : decode b_W_init 72 = .ok (.invokespecial 33, 3) := by decide +kernel
theorem d_W_init_75 : decode b_W_init 75 = .ok (.putfield 36, 3) := by decide +kernel
theorem d_W_init_78 : decode b_W_init 78 = .ok (.return_, 1) := by decide +kernel
theorem d_W_seed_0 : decode b_W_seed 0 = .ok (.aload_n 0, 1) := by decide +kernel
theorem d_W_seed_1 : decode b_W_seed 1 = .ok (.lload_n 1, 1) := by decide +kernel
theorem d_W_seed_2 : decode b_W_seed 2 = .ok (.putfield 7, 3) := by decide +kernel
theorem d_W_seed_5 : decode b_W_seed 5 = .ok (.return_, 1) := by decide +kernel
theorem d_W_thing_0 : decode b_W_thing 0 = .ok (.iload_n 1, 1) := by decide +kernel
theorem d_W_thing_1 : decode b_W_thing 1 = .ok (.iconst 1, 1) := by decide +kernel
theorem d_W_thing_2 : decode b_W_thing 2 = .ok (.ldc 40, 2) := by decide +kernel
theorem d_W_thing_4 : decode b_W_thing 4 = .ok (.invokestatic 41, 3) := by decide +kernel
theorem d_W_thing_7 : decode b_W_thing 7 = .ok (.ifCond .eq 13, 3) := by decide +kernel
theorem d_W_thing_10 : decode b_W_thing 10 = .ok (.iload_n 2, 1) := by decide +kernel
theorem d_W_thing_11 : decode b_W_thing 11 = .ok (.iconst 1, 1) := by decide +kernel
theorem d_W_thing_12 : decode b_W_thing 12 = .ok (.ldc 40, 2) := by decide +kernel
theorem d_W_thing_14 : decode b_W_thing 14 = .ok (.invokestatic 41, 3) := by decide +kernel
theorem d_W_thing_17 : decode b_W_thing 17 = .ok (.ifCond .ne 13, 3) := by decide +kernel
theorem d_W_thing_20 : decode b_W_thing 20 = .ok (.new 45, 3) := by decide +kernel
theorem d_W_thing_23 : decode b_W_thing 23 = .ok (.dup, 1) := by decide +kernel
theorem d_W_thing_24 : decode b_W_thing 24 = .ok (.ldc 47, 2) := by decide +kernel
theorem d_W_thing_26 : decode b_W_thing 26 = .ok (.invokespecial 49, 3) := by decide +kernel
theorem d_W_thing_29 : decode b_W_thing 29 = .ok (.athrow, 1) := by decide +kernel
theorem d_W_thing_30 : decode b_W_thing 30 = .ok (.aload_n 0, 1) := by decide +kernel
theorem d_W_thing_31 : decode b_W_thing 31 = .ok (.getfield 52, 3) := by decide +kernel
theorem d_W_thing_34 : decode b_W_thing 34 = .ok (.bipush 8, 2) := by decide +kernel
theorem d_W_thing_36 : decode b_W_thing 36 = .ok (.if_icmp .lt 13, 3) := by decide +kernel
theorem d_W_thing_39 : decode b_W_thing 39 = .ok (.new 56, 3) := by decide +kernel
theorem d_W_thing_42 : decode b_W_thing 42 = .ok (.dup, 1) := by decide +kernel
theorem d_W_thing_43 : decode b_W_thing 43 = .ok (.ldc 58, 2) := by decide +kernel
theorem d_W_thing_45 : decode b_W_thing 45 = .ok (.invokespecial 60, 3) := by decide +kernel
theorem d_W_thing_48 : decode b_W_thing 48 = .ok (.athrow, 1) := by decide +kernel
theorem d_W_thing_49 : decode b_W_thing 49 = .ok (.aload_n 0, 1) := by decide +kernel
theorem d_W_thing_50 : decode b_W_thing 50 = .ok (.getfield 15, 3) := by decide +kernel
theorem d_W_thing_53 : decode b_W_thing 53 = .ok (.aload_n 0, 1) := by decide +kernel
theorem d_W_thing_54 : decode b_W_thing 54 = .ok (.getfield 52, 3) := by decide +kernel
theorem d_W_thing_57 : decode b_W_thing 57 = .ok (.aaload, 1) := by decide +kernel
theorem d_W_thing_58 : decode b_W_thing 58 = .ok (.iload_n 1, 1) := by decide +kernel
theorem d_W_thing_59 : decode b_W_thing 59 = .ok (.iload_n 2, 1) := by decide +kernel
theorem d_W_thing_60 : decode b_W_thing 60 = .ok (.invokevirtual 61, 3) := by decide +kernel
theorem d_W_thing_63 : decode b_W_thing 63 = .ok (.aload_n 0, 1) := by decide +kernel
theorem d_W_thing_64 : decode b_W_thing 64 = .ok (.dup, 1) := by decide +kernel
theorem d_W_thing_65 : decode b_W_thing 65 = .ok (.getfield 52, 3) := by decide +kernel
theorem d_W_thing_68 : decode b_W_thing 68 = .ok (.iconst 1, 1) := by decide +kernel
theorem d_W_thing_69 : decode b_W_thing 69 = .ok (.iadd, 1) := by decide +kernel
theorem d_W_thing_70 : decode b_W_thing 70 = .ok (.putfield 52, 3) := by decide +kernel
theorem d_W_thing_73 : decode b_W_thing 73 = .ok (.aload_n 0, 1) := by decide +kernel
theorem d_W_thing_74 : decode b_W_thing 74 = .ok (.getfield 52, 3) := by decide +kernel
theorem d_W_thing_77 : decode b_W_thing 77 = .ok (.iconst 1, 1) := by decide +kernel
theorem d_W_thing_78 : decode b_W_thing 78 = .ok (.isub, 1) := by decide +kernel
theorem d_W_thing_79 : decode b_W_thing 79 = .ok (.ireturn, 1) := by decide +kernel
theorem d_W_use_0 : decode b_W_use 0 = .ok (.aload_n 0, 1) := by decide +kernel
theorem d_W_use_1 : decode b_W_use 1 = .ok (.iload_n 1, 1) := by decide +kernel
theorem d_W_use_2 : decode b_W_use 2 = .ok (.invokevirtual 65, 3) := by decide +kernel
theorem d_W_use_5 : decode b_W_use 5 = .ok (.astore_n 3, 1) := by decide +kernel
theorem d_W_use_6 : decode b_W_use 6 = .ok (.aload_n 3, 1) := by decide +kernel
theorem d_W_use_7 : decode b_W_use 7 = .ok (.invokevirtual 69, 3) := by decide +kernel
theorem d_W_use_10 : decode b_W_use 10 = .ok (.ifCond .eq 13, 3) := by decide +kernel
theorem d_W_use_13 : decode b_W_use 13 = .ok (.new 73, 3) := by decide +kernel
theorem d_W_use_16 : decode b_W_use 16 = .ok (.dup, 1) := by decide +kernel
theorem d_W_use_17 : decode b_W_use 17 = .ok (.ldc 75, 2) := by decide +kernel
theorem d_W_use_19 : decode b_W_use 19 = .ok (.invokespecial 77, 3) := by decide +kernel
theorem d_W_use_22 : decode b_W_use 22 = .ok (.athrow, 1) := by decide +kernel
theorem d_W_use_23 : decode b_W_use 23 = .ok (.iload_n 2, 1) := by decide +kernel
theorem d_W_use_24 : decode b_W_use 24 = .ok (.iconst 1, 1) := by decide +kernel
theorem d_W_use_25 : decode b_W_use 25 = .ok (.ldc 40, 2) := by decide +kernel
theorem d_W_use_27 : decode b_W_use 27 = .ok (.invokestatic 41, 3) := by decide +kernel
theorem d_W_use_30 : decode b_W_use 30 = .ok (.ifCond .ne 13, 3) := by decide +kernel
theorem d_W_use_33 : decode b_W_use 33 = .ok (.new 45, 3) := by decide +kernel
theorem d_W_use_36 : decode b_W_use 36 = .ok (.dup, 1) := by decide +kernel
theorem d_W_use_37 : decode b_W_use 37 = .ok (.ldc 78, 2) := by decide +kernel
theorem d_W_use_39 : decode b_W_use 39 = .ok (.invokespecial 49, 3) := by decide +kernel
theorem d_W_use_42 : decode b_W_use 42 = .ok (.athrow, 1) := by decide +kernel
theorem d_W_use_43 : decode b_W_use 43 = .ok (.aload_n 3, 1) := by decide +kernel
theorem d_W_use_44 : decode b_W_use 44 = .ok (.iload_n 2, 1) := by decide +kernel
theorem d_W_use_45 : decode b_W_use 45 = .ok (.invokevirtual 80, 3) := by decide +kernel
theorem d_W_use_48 : decode b_W_use 48 = .ok (.aload_n 3, 1) := by decide +kernel
theorem d_W_use_49 : decode b_W_use 49 = .ok (.getfield 84, 3) := by decide +kernel
theorem d_W_use_52 : decode b_W_use 52 = .ok (.ireturn, 1) := by decide +kernel
theorem d_W_told_0 : decode b_W_told 0 = .ok (.aload_n 0, 1) := by decide +kernel
theorem d_W_told_1 : decode b_W_told 1 = .ok (.iload_n 1, 1) := by decide +kernel
theorem d_W_told_2 : decode b_W_told 2 = .ok (.invokevirtual 65, 3) := by decide +kernel
theorem d_W_told_5 : decode b_W_told 5 = .ok (.astore_n 3, 1) := by decide +kernel
theorem d_W_told_6 : decode b_W_told 6 = .ok (.iload_n 2, 1) := by decide +kernel
theorem d_W_told_7 : decode b_W_told 7 = .ok (.invokestatic 87, 3) := by decide +kernel
theorem d_W_told_10 : decode b_W_told 10 = .ok (.iload_n 2, 1) := by decide +kernel
theorem d_W_told_11 : decode b_W_told 11 = .ok (.ifCond .ne 8, 3) := by decide +kernel
theorem d_W_told_14 : decode b_W_told 14 = .ok (.aload_n 3, 1) := by decide +kernel
theorem d_W_told_15 : decode b_W_told 15 = .ok (.getfield 84, 3) := by decide +kernel
theorem d_W_told_18 : decode b_W_told 18 = .ok (.ireturn, 1) := by decide +kernel
theorem d_W_told_19 : decode b_W_told 19 = .ok (.iload_n 2, 1) := by decide +kernel
theorem d_W_told_20 : decode b_W_told 20 = .ok (.iconst 1, 1) := by decide +kernel
theorem d_W_told_21 : decode b_W_told 21 = .ok (.if_icmp .ne 16, 3) := by decide +kernel
theorem d_W_told_24 : decode b_W_told 24 = .ok (.aload_n 3, 1) := by decide +kernel
theorem d_W_told_25 : decode b_W_told 25 = .ok (.invokevirtual 69, 3) := by decide +kernel
theorem d_W_told_28 : decode b_W_told 28 = .ok (.ifCond .eq 7, 3) := by decide +kernel
theorem d_W_told_31 : decode b_W_told 31 = .ok (.iconst 1, 1) := by decide +kernel
theorem d_W_told_32 : decode b_W_told 32 = .ok (.goto 4, 3) := by decide +kernel
theorem d_W_told_35 : decode b_W_told 35 = .ok (.iconst 0, 1) := by decide +kernel
theorem d_W_told_36 : decode b_W_told 36 = .ok (.ireturn, 1) := by decide +kernel
theorem d_W_told_37 : decode b_W_told 37 = .ok (.aload_n 3, 1) := by decide +kernel
theorem d_W_told_38 : decode b_W_told 38 = .ok (.invokevirtual 90, 3) := by decide +kernel
theorem d_W_told_41 : decode b_W_told 41 = .ok (.ireturn, 1) := by decide +kernel
theorem d_W_left_0 : decode b_W_left 0 = .ok (.aload_n 0, 1) := by decide +kernel
theorem d_W_left_1 : decode b_W_left 1 = .ok (.iload_n 1, 1) := by decide +kernel
theorem d_W_left_2 : decode b_W_left 2 = .ok (.invokevirtual 65, 3) := by decide +kernel
theorem d_W_left_5 : decode b_W_left 5 = .ok (.astore_n 3, 1) := by decide +kernel
theorem d_W_left_6 : decode b_W_left 6 = .ok (.iload_n 2, 1) := by decide +kernel
theorem d_W_left_7 : decode b_W_left 7 = .ok (.iconst 0, 1) := by decide +kernel
theorem d_W_left_8 : decode b_W_left 8 = .ok (.sipush 1000, 3) := by decide +kernel
theorem d_W_left_11 : decode b_W_left 11 = .ok (.invokestatic 41, 3) := by decide +kernel
theorem d_W_left_14 : decode b_W_left 14 = .ok (.ifCond .ne 13, 3) := by decide +kernel
theorem d_W_left_17 : decode b_W_left 17 = .ok (.new 45, 3) := by decide +kernel
theorem d_W_left_20 : decode b_W_left 20 = .ok (.dup, 1) := by decide +kernel
theorem d_W_left_21 : decode b_W_left 21 = .ok (.ldc 94, 2) := by decide +kernel
theorem d_W_left_23 : decode b_W_left 23 = .ok (.invokespecial 49, 3) := by decide +kernel
theorem d_W_left_26 : decode b_W_left 26 = .ok (.athrow, 1) := by decide +kernel
theorem d_W_left_27 : decode b_W_left 27 = .ok (.aload_n 0, 1) := by decide +kernel
theorem d_W_left_28 : decode b_W_left 28 = .ok (.ldc2_w 96, 3) := by decide +kernel
theorem d_W_left_31 : decode b_W_left 31 = .ok (.iload_n 1, 1) := by decide +kernel
theorem d_W_left_32 : decode b_W_left 32 = .ok (.i2l, 1) := by decide +kernel
theorem d_W_left_33 : decode b_W_left 33 = .ok (.lmul, 1) := by decide +kernel
theorem d_W_left_34 : decode b_W_left 34 = .ok (.iload_n 2, 1) := by decide +kernel
theorem d_W_left_35 : decode b_W_left 35 = .ok (.i2l, 1) := by decide +kernel
theorem d_W_left_36 : decode b_W_left 36 = .ok (.ladd, 1) := by decide +kernel
theorem d_W_left_37 : decode b_W_left 37 = .ok (.lconst 1, 1) := by decide +kernel
theorem d_W_left_38 : decode b_W_left 38 = .ok (.ladd, 1) := by decide +kernel
theorem d_W_left_39 : decode b_W_left 39 = .ok (.invokevirtual 98, 3) := by decide +kernel
theorem d_W_left_42 : decode b_W_left 42 = .ok (.lstore 4, 2) := by decide +kernel
theorem d_W_left_44 : decode b_W_left 44 = .ok (.bipush 50, 2) := by decide +kernel
theorem d_W_left_46 : decode b_W_left 46 = .ok (.lload 4, 2) := by decide +kernel
theorem d_W_left_48 : decode b_W_left 48 = .ok (.ldc2_w 102, 3) := by decide +kernel
theorem d_W_left_51 : decode b_W_left 51 = .ok (.lrem, 1) := by decide +kernel
theorem d_W_left_52 : decode b_W_left 52 = .ok (.l2i, 1) := by decide +kernel
theorem d_W_left_53 : decode b_W_left 53 = .ok (.iadd, 1) := by decide +kernel
theorem d_W_left_54 : decode b_W_left 54 = .ok (.istore 6, 2) := by decide +kernel
theorem d_W_left_56 : decode b_W_left 56 = .ok (.iconst 0, 1) := by decide +kernel
theorem d_W_left_57 : decode b_W_left 57 = .ok (.aload_n 3, 1) := by decide +kernel
theorem d_W_left_58 : decode b_W_left 58 = .ok (.getfield 104, 3) := by decide +kernel
theorem d_W_left_61 : decode b_W_left 61 = .ok (.iload 6, 2) := by decide +kernel
theorem d_W_left_63 : decode b_W_left 63 = .ok (.imul, 1) := by decide +kernel
theorem d_W_left_64 : decode b_W_left 64 = .ok (.bipush 100, 2) := by decide +kernel
theorem d_W_left_66 : decode b_W_left 66 = .ok (.idiv, 1) := by decide +kernel
theorem d_W_left_67 : decode b_W_left 67 = .ok (.aload_n 3, 1) := by decide +kernel
theorem d_W_left_68 : decode b_W_left 68 = .ok (.getfield 84, 3) := by decide +kernel
theorem d_W_left_71 : decode b_W_left 71 = .ok (.isub, 1) := by decide +kernel
theorem d_W_left_72 : decode b_W_left 72 = .ok (.invokestatic 107, 3) := by decide +kernel
theorem d_W_left_75 : decode b_W_left 75 = .ok (.ireturn, 1) := by decide +kernel
theorem d_W_permit_0 : decode b_W_permit 0 = .ok (.aload_n 0, 1) := by decide +kernel
theorem d_W_permit_1 : decode b_W_permit 1 = .ok (.iload_n 1, 1) := by decide +kernel
theorem d_W_permit_2 : decode b_W_permit 2 = .ok (.invokevirtual 65, 3) := by decide +kernel
theorem d_W_permit_5 : decode b_W_permit 5 = .ok (.astore_n 3, 1) := by decide +kernel
theorem d_W_permit_6 : decode b_W_permit 6 = .ok (.aload_n 3, 1) := by decide +kernel
theorem d_W_permit_7 : decode b_W_permit 7 = .ok (.getfield 113, 3) := by decide +kernel
theorem d_W_permit_10 : decode b_W_permit 10 = .ok (.iload_n 2, 1) := by decide +kernel
theorem d_W_permit_11 : decode b_W_permit 11 = .ok (.if_icmp .ne 13, 3) := by decide +kernel
theorem d_W_permit_14 : decode b_W_permit 14 = .ok (.new 56, 3) := by decide +kernel
theorem d_W_permit_17 : decode b_W_permit 17 = .ok (.dup, 1) := by decide +kernel
theorem d_W_permit_18 : decode b_W_permit 18 = .ok (.ldc 117, 2) := by decide +kernel
theorem d_W_permit_20 : decode b_W_permit 20 = .ok (.invokespecial 60, 3) := by decide +kernel
theorem d_W_permit_23 : decode b_W_permit 23 = .ok (.athrow, 1) := by decide +kernel
theorem d_W_permit_24 : decode b_W_permit 24 = .ok (.aload_n 3, 1) := by decide +kernel
theorem d_W_permit_25 : decode b_W_permit 25 = .ok (.iload_n 2, 1) := by decide +kernel
theorem d_W_permit_26 : decode b_W_permit 26 = .ok (.invokevirtual 119, 3) := by decide +kernel
theorem d_W_permit_29 : decode b_W_permit 29 = .ok (.return_, 1) := by decide +kernel
theorem d_W_history_0 : decode b_W_history 0 = .ok (.aload_n 0, 1) := by decide +kernel
theorem d_W_history_1 : decode b_W_history 1 = .ok (.iload_n 1, 1) := by decide +kernel
theorem d_W_history_2 : decode b_W_history 2 = .ok (.invokevirtual 65, 3) := by decide +kernel
theorem d_W_history_5 : decode b_W_history 5 = .ok (.astore_n 3, 1) := by decide +kernel
theorem d_W_history_6 : decode b_W_history 6 = .ok (.iload_n 2, 1) := by decide +kernel
theorem d_W_history_7 : decode b_W_history 7 = .ok (.ifCond .ge 13, 3) := by decide +kernel
theorem d_W_history_10 : decode b_W_history 10 = .ok (.new 123, 3) := by decide +kernel
theorem d_W_history_13 : decode b_W_history 13 = .ok (.dup, 1) := by decide +kernel
theorem d_W_history_14 : decode b_W_history 14 = .ok (.ldc 125, 2) := by decide +kernel
theorem d_W_history_16 : decode b_W_history 16 = .ok (.invokespecial 127, 3) := by decide +kernel
theorem d_W_history_19 : decode b_W_history 19 = .ok (.athrow, 1) := by decide +kernel
theorem d_W_history_20 : decode b_W_history 20 = .ok (.aload_n 3, 1) := by decide +kernel
theorem d_W_history_21 : decode b_W_history 21 = .ok (.iload_n 2, 1) := by decide +kernel
theorem d_W_history_22 : decode b_W_history 22 = .ok (.invokevirtual 128, 3) := by decide +kernel
theorem d_W_history_25 : decode b_W_history 25 = .ok (.ireturn, 1) := by decide +kernel
theorem d_W_gap_0 : decode b_W_gap 0 = .ok (.iload_n 1, 1) := by decide +kernel
theorem d_W_gap_1 : decode b_W_gap 1 = .ok (.iload_n 2, 1) := by decide +kernel
theorem d_W_gap_2 : decode b_W_gap 2 = .ok (.invokestatic 132, 3) := by decide +kernel
theorem d_W_gap_5 : decode b_W_gap 5 = .ok (.aload_n 0, 1) := by decide +kernel
theorem d_W_gap_6 : decode b_W_gap 6 = .ok (.getfield 27, 3) := by decide +kernel
theorem d_W_gap_9 : decode b_W_gap 9 = .ok (.getfield 135, 3) := by decide +kernel
theorem d_W_gap_12 : decode b_W_gap 12 = .ok (.bipush 6, 2) := by decide +kernel
theorem d_W_gap_14 : decode b_W_gap 14 = .ok (.if_icmp .lt 13, 3) := by decide +kernel
theorem d_W_gap_17 : decode b_W_gap 17 = .ok (.new 56, 3) := by decide +kernel
theorem d_W_gap_20 : decode b_W_gap 20 = .ok (.dup, 1) := by decide +kernel
theorem d_W_gap_21 : decode b_W_gap 21 = .ok (.ldc 138, 2) := by decide +kernel
theorem d_W_gap_23 : decode b_W_gap 23 = .ok (.invokespecial 60, 3) := by decide +kernel
theorem d_W_gap_26 : decode b_W_gap 26 = .ok (.athrow, 1) := by decide +kernel
theorem d_W_gap_27 : decode b_W_gap 27 = .ok (.aload_n 0, 1) := by decide +kernel
theorem d_W_gap_28 : decode b_W_gap 28 = .ok (.getfield 27, 3) := by decide +kernel
theorem d_W_gap_31 : decode b_W_gap 31 = .ok (.iload_n 1, 1) := by decide +kernel
theorem d_W_gap_32 : decode b_W_gap 32 = .ok (.iload_n 2, 1) := by decide +kernel
theorem d_W_gap_33 : decode b_W_gap 33 = .ok (.invokevirtual 140, 3) := by decide +kernel
theorem d_W_gap_36 : decode b_W_gap 36 = .ok (.aload_n 0, 1) := by decide +kernel
theorem d_W_gap_37 : decode b_W_gap 37 = .ok (.getfield 36, 3) := by decide +kernel
theorem d_W_gap_40 : decode b_W_gap 40 = .ok (.invokevirtual 143, 3) := by decide +kernel
theorem d_W_gap_43 : decode b_W_gap 43 = .ok (.aload_n 0, 1) := by decide +kernel
theorem d_W_gap_44 : decode b_W_gap 44 = .ok (.getfield 27, 3) := by decide +kernel
theorem d_W_gap_47 : decode b_W_gap 47 = .ok (.getfield 135, 3) := by decide +kernel
theorem d_W_gap_50 : decode b_W_gap 50 = .ok (.ireturn, 1) := by decide +kernel
theorem d_W_person_0 : decode b_W_person 0 = .ok (.iload_n 1, 1) := by decide +kernel
theorem d_W_person_1 : decode b_W_person 1 = .ok (.invokestatic 146, 3) := by decide +kernel
theorem d_W_person_4 : decode b_W_person 4 = .ok (.iload_n 2, 1) := by decide +kernel
theorem d_W_person_5 : decode b_W_person 5 = .ok (.iload_n 3, 1) := by decide +kernel
theorem d_W_person_6 : decode b_W_person 6 = .ok (.invokestatic 132, 3) := by decide +kernel
theorem d_W_person_9 : decode b_W_person 9 = .ok (.aload_n 0, 1) := by decide +kernel
theorem d_W_person_10 : decode b_W_person 10 = .ok (.getfield 27, 3) := by decide +kernel
theorem d_W_person_13 : decode b_W_person 13 = .ok (.getfield 149, 3) := by decide +kernel
theorem d_W_person_16 : decode b_W_person 16 = .ok (.iconst 4, 1) := by decide +kernel
theorem d_W_person_17 : decode b_W_person 17 = .ok (.if_icmp .lt 13, 3) := by decide +kernel
theorem d_W_person_20 : decode b_W_person 20 = .ok (.new 56, 3) := by decide +kernel
theorem d_W_person_23 : decode b_W_person 23 = .ok (.dup, 1) := by decide +kernel
theorem d_W_person_24 : decode b_W_person 24 = .ok (.ldc 152, 2) := by decide +kernel
theorem d_W_person_26 : decode b_W_person 26 = .ok (.invokespecial 60, 3) := by decide +kernel
theorem d_W_person_29 : decode b_W_person 29 = .ok (.athrow, 1) := by decide +kernel
theorem d_W_person_30 : decode b_W_person 30 = .ok (.aload_n 0, 1) := by decide +kernel
theorem d_W_person_31 : decode b_W_person 31 = .ok (.getfield 27, 3) := by decide +kernel
theorem d_W_person_34 : decode b_W_person 34 = .ok (.iload_n 1, 1) := by decide +kernel
theorem d_W_person_35 : decode b_W_person 35 = .ok (.iload_n 2, 1) := by decide +kernel
theorem d_W_person_36 : decode b_W_person 36 = .ok (.iload_n 3, 1) := by decide +kernel
theorem d_W_person_37 : decode b_W_person 37 = .ok (.invokevirtual 154, 3) := by decide +kernel
theorem d_W_person_40 : decode b_W_person 40 = .ok (.aload_n 0, 1) := by decide +kernel
theorem d_W_person_41 : decode b_W_person 41 = .ok (.getfield 36, 3) := by decide +kernel
theorem d_W_person_44 : decode b_W_person 44 = .ok (.invokevirtual 143, 3) := by decide +kernel
theorem d_W_person_47 : decode b_W_person 47 = .ok (.aload_n 0, 1) := by decide +kernel
theorem d_W_person_48 : decode b_W_person 48 = .ok (.getfield 27, 3) := by decide +kernel
theorem d_W_person_51 : decode b_W_person 51 = .ok (.getfield 149, 3) := by decide +kernel
theorem d_W_person_54 : decode b_W_person 54 = .ok (.iconst 1, 1) := by decide +kernel
theorem d_W_person_55 : decode b_W_person 55 = .ok (.isub, 1) := by decide +kernel
theorem d_W_person_56 : decode b_W_person 56 = .ok (.ireturn, 1) := by decide +kernel
theorem d_W_repair_0 : decode b_W_repair 0 = .ok (.aload_n 0, 1) := by decide +kernel
theorem d_W_repair_1 : decode b_W_repair 1 = .ok (.iload_n 1, 1) := by decide +kernel
theorem d_W_repair_2 : decode b_W_repair 2 = .ok (.invokevirtual 65, 3) := by decide +kernel
theorem d_W_repair_5 : decode b_W_repair 5 = .ok (.pop, 1) := by decide +kernel
theorem d_W_repair_6 : decode b_W_repair 6 = .ok (.iload_n 3, 1) := by decide +kernel
theorem d_W_repair_7 : decode b_W_repair 7 = .ok (.invokestatic 146, 3) := by decide +kernel
theorem d_W_repair_10 : decode b_W_repair 10 = .ok (.iload_n 2, 1) := by decide +kernel
theorem d_W_repair_11 : decode b_W_repair 11 = .ok (.iconst 1, 1) := by decide +kernel
theorem d_W_repair_12 : decode b_W_repair 12 = .ok (.bipush 24, 2) := by decide +kernel
theorem d_W_repair_14 : decode b_W_repair 14 = .ok (.invokestatic 41, 3) := by decide +kernel
theorem d_W_repair_17 : decode b_W_repair 17 = .ok (.ifCond .eq 15, 3) := by decide +kernel
theorem d_W_repair_20 : decode b_W_repair 20 = .ok (.iload 4, 2) := by decide +kernel
theorem d_W_repair_22 : decode b_W_repair 22 = .ok (.iconst 0, 1) := by decide +kernel
theorem d_W_repair_23 : decode b_W_repair 23 = .ok (.sipush 1000, 3) := by decide +kernel
theorem d_W_repair_26 : decode b_W_repair 26 = .ok (.invokestatic 41, 3) := by decide +kernel
theorem d_W_repair_29 : decode b_W_repair 29 = .ok (.ifCond .ne 13, 3) := by decide +kernel
theorem d_W_repair_32 : decode b_W_repair 32 = .ok (.new 45, 3) := by decide +kernel
theorem d_W_repair_35 : decode b_W_repair 35 = .ok (.dup, 1) := by decide +kernel
theorem d_W_repair_36 : decode b_W_repair 36 = .ok (.ldc 158, 2) := by decide +kernel
theorem d_W_repair_38 : decode b_W_repair 38 = .ok (.invokespecial 49, 3) := by decide +kernel
theorem d_W_repair_41 : decode b_W_repair 41 = .ok (.athrow, 1) := by decide +kernel
theorem d_W_repair_42 : decode b_W_repair 42 = .ok (.aload_n 0, 1) := by decide +kernel
theorem d_W_repair_43 : decode b_W_repair 43 = .ok (.getfield 27, 3) := by decide +kernel
theorem d_W_repair_46 : decode b_W_repair 46 = .ok (.getfield 160, 3) := by decide +kernel
theorem d_W_repair_49 : decode b_W_repair 49 = .ok (.iconst 5, 1) := by decide +kernel
theorem d_W_repair_50 : decode b_W_repair 50 = .ok (.if_icmp .lt 13, 3) := by decide +kernel
theorem d_W_repair_53 : decode b_W_repair 53 = .ok (.new 56, 3) := by decide +kernel
theorem d_W_repair_56 : decode b_W_repair 56 = .ok (.dup, 1) := by decide +kernel
theorem d_W_repair_57 : decode b_W_repair 57 = .ok (.ldc 163, 2) := by decide +kernel
theorem d_W_repair_59 : decode b_W_repair 59 = .ok (.invokespecial 60, 3) := by decide +kernel
theorem d_W_repair_62 : decode b_W_repair 62 = .ok (.athrow, 1) := by decide +kernel
theorem d_W_repair_63 : decode b_W_repair 63 = .ok (.aload_n 0, 1) := by decide +kernel
theorem d_W_repair_64 : decode b_W_repair 64 = .ok (.getfield 27, 3) := by decide +kernel
theorem d_W_repair_67 : decode b_W_repair 67 = .ok (.iload_n 1, 1) := by decide +kernel
theorem d_W_repair_68 : decode b_W_repair 68 = .ok (.iload_n 2, 1) := by decide +kernel
theorem d_W_repair_69 : decode b_W_repair 69 = .ok (.iload_n 3, 1) := by decide +kernel
theorem d_W_repair_70 : decode b_W_repair 70 = .ok (.iload 4, 2) := by decide +kernel
theorem d_W_repair_72 : decode b_W_repair 72 = .ok (.invokevirtual 165, 3) := by decide +kernel
theorem d_W_repair_75 : decode b_W_repair 75 = .ok (.aload_n 0, 1) := by decide +kernel
theorem d_W_repair_76 : decode b_W_repair 76 = .ok (.getfield 36, 3) := by decide +kernel
theorem d_W_repair_79 : decode b_W_repair 79 = .ok (.invokevirtual 143, 3) := by decide +kernel
theorem d_W_repair_82 : decode b_W_repair 82 = .ok (.aload_n 0, 1) := by decide +kernel
theorem d_W_repair_83 : decode b_W_repair 83 = .ok (.getfield 27, 3) := by decide +kernel
theorem d_W_repair_86 : decode b_W_repair 86 = .ok (.getfield 160, 3) := by decide +kernel
theorem d_W_repair_89 : decode b_W_repair 89 = .ok (.iconst 1, 1) := by decide +kernel
theorem d_W_repair_90 : decode b_W_repair 90 = .ok (.isub, 1) := by decide +kernel
theorem d_W_repair_91 : decode b_W_repair 91 = .ok (.ireturn, 1) := by decide +kernel
theorem d_W_rules_0 : decode b_W_rules 0 = .ok (.iload_n 1, 1) := by decide +kernel
theorem d_W_rules_1 : decode b_W_rules 1 = .ok (.iconst 0, 1) := by decide +kernel
theorem d_W_rules_2 : decode b_W_rules 2 = .ok (.bipush 24, 2) := by decide +kernel
theorem d_W_rules_4 : decode b_W_rules 4 = .ok (.invokestatic 41, 3) := by decide +kernel
theorem d_W_rules_7 : decode b_W_rules 7 = .ok (.ifCond .eq 13, 3) := by decide +kernel
theorem d_W_rules_10 : decode b_W_rules 10 = .ok (.iload_n 2, 1) := by decide +kernel
theorem d_W_rules_11 : decode b_W_rules 11 = .ok (.iconst 0, 1) := by decide +kernel
theorem d_W_rules_12 : decode b_W_rules 12 = .ok (.ldc 40, 2) := by decide +kernel
theorem d_W_rules_14 : decode b_W_rules 14 = .ok (.invokestatic 41, 3) := by decide +kernel
theorem d_W_rules_17 : decode b_W_rules 17 = .ok (.ifCond .ne 13, 3) := by decide +kernel
theorem d_W_rules_20 : decode b_W_rules 20 = .ok (.new 45, 3) := by decide +kernel
theorem d_W_rules_23 : decode b_W_rules 23 = .ok (.dup, 1) := by decide +kernel
theorem d_W_rules_24 : decode b_W_rules 24 = .ok (.ldc 169, 2) := by decide +kernel
theorem d_W_rules_26 : decode b_W_rules 26 = .ok (.invokespecial 49, 3) := by decide +kernel
theorem d_W_rules_29 : decode b_W_rules 29 = .ok (.athrow, 1) := by decide +kernel
theorem d_W_rules_30 : decode b_W_rules 30 = .ok (.aload_n 0, 1) := by decide +kernel
theorem d_W_rules_31 : decode b_W_rules 31 = .ok (.getfield 27, 3) := by decide +kernel
theorem d_W_rules_34 : decode b_W_rules 34 = .ok (.iload_n 1, 1) := by decide +kernel
theorem d_W_rules_35 : decode b_W_rules 35 = .ok (.putfield 171, 3) := by decide +kernel
theorem d_W_rules_38 : decode b_W_rules 38 = .ok (.aload_n 0, 1) := by decide +kernel
theorem d_W_rules_39 : decode b_W_rules 39 = .ok (.getfield 27, 3) := by decide +kernel
theorem d_W_rules_42 : decode b_W_rules 42 = .ok (.iload_n 2, 1) := by decide +kernel
theorem d_W_rules_43 : decode b_W_rules 43 = .ok (.putfield 174, 3) := by decide +kernel
theorem d_W_rules_46 : decode b_W_rules 46 = .ok (.aload_n 0, 1) := by decide +kernel
theorem d_W_rules_47 : decode b_W_rules 47 = .ok (.getfield 36, 3) := by decide +kernel
theorem d_W_rules_50 : decode b_W_rules 50 = .ok (.invokevirtual 143, 3) := by decide +kernel
theorem d_W_rules_53 : decode b_W_rules 53 = .ok (.return_, 1) := by decide +kernel
theorem d_W_plan_0 : decode b_W_plan 0 = .ok (.aload_n 0, 1) := by decide +kernel
theorem d_W_plan_1 : decode b_W_plan 1 = .ok (.getfield 36, 3) := by decide +kernel
theorem d_W_plan_4 : decode b_W_plan 4 = .ok (.getfield 177, 3) := by decide +kernel
theorem d_W_plan_7 : decode b_W_plan 7 = .ok (.ifCond .ne 10, 3) := by decide +kernel
theorem d_W_plan_10 : decode b_W_plan 10 = .ok (.aload_n 0, 1) := by decide +kernel
theorem d_W_plan_11 : decode b_W_plan 11 = .ok (.getfield 36, 3) := by decide +kernel
theorem d_W_plan_14 : decode b_W_plan 14 = .ok (.invokevirtual 180, 3) := by decide +kernel
theorem d_W_plan_17 : decode b_W_plan 17 = .ok (.aload_n 0, 1) := by decide +kernel
theorem d_W_plan_18 : decode b_W_plan 18 = .ok (.getfield 36, 3) := by decide +kernel
theorem d_W_plan_21 : decode b_W_plan 21 = .ok (.getfield 183, 3) := by decide +kernel
theorem d_W_plan_24 : decode b_W_plan 24 = .ok (.ireturn, 1) := by decide +kernel
theorem d_W_at_0 : decode b_W_at 0 = .ok (.iload_n 1, 1) := by decide +kernel
theorem d_W_at_1 : decode b_W_at 1 = .ok (.ifCond .lt 14, 3) := by decide +kernel
theorem d_W_at_4 : decode b_W_at 4 = .ok (.iload_n 1, 1) := by decide +kernel
theorem d_W_at_5 : decode b_W_at 5 = .ok (.aload_n 0, 1) := by decide +kernel
theorem d_W_at_6 : decode b_W_at 6 = .ok (.getfield 27, 3) := by decide +kernel
theorem d_W_at_9 : decode b_W_at 9 = .ok (.getfield 160, 3) := by decide +kernel
theorem d_W_at_12 : decode b_W_at 12 = .ok (.if_icmp .lt 13, 3) := by decide +kernel
theorem d_W_at_15 : decode b_W_at 15 = .ok (.new 123, 3) := by decide +kernel
theorem d_W_at_18 : decode b_W_at 18 = .ok (.dup, 1) := by decide +kernel
theorem d_W_at_19 : decode b_W_at 19 = .ok (.ldc 186, 2) := by decide +kernel
theorem d_W_at_21 : decode b_W_at 21 = .ok (.invokespecial 127, 3) := by decide +kernel
theorem d_W_at_24 : decode b_W_at 24 = .ok (.athrow, 1) := by decide +kernel
theorem d_W_at_25 : decode b_W_at 25 = .ok (.iload_n 2, 1) := by decide +kernel
theorem d_W_at_26 : decode b_W_at 26 = .ok (.invokestatic 87, 3) := by decide +kernel
theorem d_W_at_29 : decode b_W_at 29 = .ok (.aload_n 0, 1) := by decide +kernel
theorem d_W_at_30 : decode b_W_at 30 = .ok (.invokevirtual 188, 3) := by decide +kernel
theorem d_W_at_33 : decode b_W_at 33 = .ok (.aload_n 0, 1) := by decide +kernel
theorem d_W_at_34 : decode b_W_at 34 = .ok (.getfield 27, 3) := by decide +kernel
theorem d_W_at_37 : decode b_W_at 37 = .ok (.getfield 191, 3) := by decide +kernel
theorem d_W_at_40 : decode b_W_at 40 = .ok (.iload_n 1, 1) := by decide +kernel
theorem d_W_at_41 : decode b_W_at 41 = .ok (.aaload, 1) := by decide +kernel
theorem d_W_at_42 : decode b_W_at 42 = .ok (.astore_n 3, 1) := by decide +kernel
theorem d_W_at_43 : decode b_W_at 43 = .ok (.iload_n 2, 1) := by decide +kernel
theorem d_W_at_44 : decode b_W_at 44 = .ok (.ifCond .ne 8, 3) := by decide +kernel
theorem d_W_at_47 : decode b_W_at 47 = .ok (.aload_n 3, 1) := by decide +kernel
theorem d_W_at_48 : decode b_W_at 48 = .ok (.getfield 195, 3) := by decide +kernel
theorem d_W_at_51 : decode b_W_at 51 = .ok (.ireturn, 1) := by decide +kernel
theorem d_W_at_52 : decode b_W_at 52 = .ok (.iload_n 2, 1) := by decide +kernel
theorem d_W_at_53 : decode b_W_at 53 = .ok (.iconst 1, 1) := by decide +kernel
theorem d_W_at_54 : decode b_W_at 54 = .ok (.if_icmp .ne 10, 3) := by decide +kernel
theorem d_W_at_57 : decode b_W_at 57 = .ok (.aload_n 3, 1) := by decide +kernel
theorem d_W_at_58 : decode b_W_at 58 = .ok (.getfield 200, 3) := by decide +kernel
theorem d_W_at_61 : decode b_W_at 61 = .ok (.goto 7, 3) := by decide +kernel
theorem d_W_at_64 : decode b_W_at 64 = .ok (.aload_n 3, 1) := by decide +kernel
theorem d_W_at_65 : decode b_W_at 65 = .ok (.getfield 203, 3) := by decide +kernel
theorem d_W_at_68 : decode b_W_at 68 = .ok (.ireturn, 1) := by decide +kernel
theorem d_W_cost_0 : decode b_W_cost 0 = .ok (.aload_n 0, 1) := by decide +kernel
theorem d_W_cost_1 : decode b_W_cost 1 = .ok (.invokevirtual 188, 3) := by decide +kernel
theorem d_W_cost_4 : decode b_W_cost 4 = .ok (.aload_n 0, 1) := by decide +kernel
theorem d_W_cost_5 : decode b_W_cost 5 = .ok (.getfield 36, 3) := by decide +kernel
theorem d_W_cost_8 : decode b_W_cost 8 = .ok (.getfield 206, 3) := by decide +kernel
theorem d_W_cost_11 : decode b_W_cost 11 = .ok (.ireturn, 1) := by decide +kernel
theorem d_W_done_0 : decode b_W_done 0 = .ok (.aload_n 0, 1) := by decide +kernel
theorem d_W_done_1 : decode b_W_done 1 = .ok (.invokevirtual 188, 3) := by decide +kernel
theorem d_W_done_4 : decode b_W_done 4 = .ok (.iconst 0, 1) := by decide +kernel
theorem d_W_done_5 : decode b_W_done 5 = .ok (.istore_n 1, 1) := by decide +kernel
theorem d_W_done_6 : decode b_W_done 6 = .ok (.iconst 0, 1) := by decide +kernel
theorem d_W_done_7 : decode b_W_done 7 = .ok (.istore_n 2, 1) := by decide +kernel
theorem d_W_done_8 : decode b_W_done 8 = .ok (.iload_n 2, 1) := by decide +kernel
theorem d_W_done_9 : decode b_W_done 9 = .ok (.aload_n 0, 1) := by decide +kernel
theorem d_W_done_10 : decode b_W_done 10 = .ok (.getfield 27, 3) := by decide +kernel
theorem d_W_done_13 : decode b_W_done 13 = .ok (.getfield 160, 3) := by decide +kernel
theorem d_W_done_16 : decode b_W_done 16 = .ok (.if_icmp .ge 66, 3) := by decide +kernel
theorem d_W_done_19 : decode b_W_done 19 = .ok (.aload_n 0, 1) := by decide +kernel
theorem d_W_done_20 : decode b_W_done 20 = .ok (.getfield 27, 3) := by decide +kernel
theorem d_W_done_23 : decode b_W_done 23 = .ok (.getfield 191, 3) := by decide +kernel
theorem d_W_done_26 : decode b_W_done 26 = .ok (.iload_n 2, 1) := by decide +kernel
theorem d_W_done_27 : decode b_W_done 27 = .ok (.aaload, 1) := by decide +kernel
theorem d_W_done_28 : decode b_W_done 28 = .ok (.astore_n 3, 1) := by decide +kernel
theorem d_W_done_29 : decode b_W_done 29 = .ok (.aload_n 3, 1) := by decide +kernel
theorem d_W_done_30 : decode b_W_done 30 = .ok (.invokevirtual 209, 3) := by decide +kernel
theorem d_W_done_33 : decode b_W_done 33 = .ok (.ifCond .eq 43, 3) := by decide +kernel
theorem d_W_done_36 : decode b_W_done 36 = .ok (.aload_n 0, 1) := by decide +kernel
theorem d_W_done_37 : decode b_W_done 37 = .ok (.getfield 20, 3) := by decide +kernel
theorem d_W_done_40 : decode b_W_done 40 = .ok (.aload_n 3, 1) := by decide +kernel
theorem d_W_done_41 : decode b_W_done 41 = .ok (.getfield 212, 3) := by decide +kernel
theorem d_W_done_44 : decode b_W_done 44 = .ok (.iaload, 1) := by decide +kernel
theorem d_W_done_45 : decode b_W_done 45 = .ok (.ifCond .le 31, 3) := by decide +kernel
theorem d_W_done_48 : decode b_W_done 48 = .ok (.aload_n 0, 1) := by decide +kernel
theorem d_W_done_49 : decode b_W_done 49 = .ok (.getfield 20, 3) := by decide +kernel
theorem d_W_done_52 : decode b_W_done 52 = .ok (.aload_n 3, 1) := by decide +kernel
theorem d_W_done_53 : decode b_W_done 53 = .ok (.getfield 212, 3) := by decide +kernel
theorem d_W_done_56 : decode b_W_done 56 = .ok (.dup2, 1) := by decide +kernel
theorem d_W_done_57 : decode b_W_done 57 = .ok (.iaload, 1) := by decide +kernel
theorem d_W_done_58 : decode b_W_done 58 = .ok (.iconst 1, 1) := by decide +kernel
theorem d_W_done_59 : decode b_W_done 59 = .ok (.isub, 1) := by decide +kernel
theorem d_W_done_60 : decode b_W_done 60 = .ok (.iastore, 1) := by decide +kernel
theorem d_W_done_61 : decode b_W_done 61 = .ok (.aload_n 0, 1) := by decide +kernel
theorem d_W_done_62 : decode b_W_done 62 = .ok (.getfield 15, 3) := by decide +kernel
theorem d_W_done_65 : decode b_W_done 65 = .ok (.aload_n 3, 1) := by decide +kernel
theorem d_W_done_66 : decode b_W_done 66 = .ok (.getfield 215, 3) := by decide +kernel
theorem d_W_done_69 : decode b_W_done 69 = .ok (.aaload, 1) := by decide +kernel
theorem d_W_done_70 : decode b_W_done 70 = .ok (.invokevirtual 218, 3) := by decide +kernel
theorem d_W_done_73 : decode b_W_done 73 = .ok (.iinc 1 1, 3) := by decide +kernel
theorem d_W_done_76 : decode b_W_done 76 = .ok (.iinc 2 1, 3) := by decide +kernel
theorem d_W_done_79 : decode b_W_done 79 = .ok (.goto (-71), 3) := by decide +kernel
theorem d_W_done_82 : decode b_W_done 82 = .ok (.aload_n 0, 1) := by decide +kernel
theorem d_W_done_83 : decode b_W_done 83 = .ok (.getfield 27, 3) := by decide +kernel
theorem d_W_done_86 : decode b_W_done 86 = .ok (.iconst 0, 1) := by decide +kernel
theorem d_W_done_87 : decode b_W_done 87 = .ok (.putfield 160, 3) := by decide +kernel
theorem d_W_done_90 : decode b_W_done 90 = .ok (.aload_n 0, 1) := by decide +kernel
theorem d_W_done_91 : decode b_W_done 91 = .ok (.getfield 36, 3) := by decide +kernel
theorem d_W_done_94 : decode b_W_done 94 = .ok (.invokevirtual 143, 3) := by decide +kernel
theorem d_W_done_97 : decode b_W_done 97 = .ok (.iload_n 1, 1) := by decide +kernel
theorem d_W_done_98 : decode b_W_done 98 = .ok (.ireturn, 1) := by decide +kernel
theorem d_W_spare_0 : decode b_W_spare 0 = .ok (.iload_n 1, 1) := by decide +kernel
theorem d_W_spare_1 : decode b_W_spare 1 = .ok (.ifCond .lt 8, 3) := by decide +kernel
theorem d_W_spare_4 : decode b_W_spare 4 = .ok (.iload_n 1, 1) := by decide +kernel
theorem d_W_spare_5 : decode b_W_spare 5 = .ok (.iconst 4, 1) := by decide +kernel
theorem d_W_spare_6 : decode b_W_spare 6 = .ok (.if_icmp .lt 13, 3) := by decide +kernel
theorem d_W_spare_9 : decode b_W_spare 9 = .ok (.new 123, 3) := by decide +kernel
theorem d_W_spare_12 : decode b_W_spare 12 = .ok (.dup, 1) := by decide +kernel
theorem d_W_spare_13 : decode b_W_spare 13 = .ok (.ldc 221, 2) := by decide +kernel
theorem d_W_spare_15 : decode b_W_spare 15 = .ok (.invokespecial 127, 3) := by decide +kernel
theorem d_W_spare_18 : decode b_W_spare 18 = .ok (.athrow, 1) := by decide +kernel
theorem d_W_spare_19 : decode b_W_spare 19 = .ok (.iload_n 2, 1) := by decide +kernel
theorem d_W_spare_20 : decode b_W_spare 20 = .ok (.iconst 0, 1) := by decide +kernel
theorem d_W_spare_21 : decode b_W_spare 21 = .ok (.bipush 100, 2) := by decide +kernel
theorem d_W_spare_23 : decode b_W_spare 23 = .ok (.invokestatic 41, 3) := by decide +kernel
theorem d_W_spare_26 : decode b_W_spare 26 = .ok (.ifCond .ne 13, 3) := by decide +kernel
theorem d_W_spare_29 : decode b_W_spare 29 = .ok (.new 45, 3) := by decide +kernel
theorem d_W_spare_32 : decode b_W_spare 32 = .ok (.dup, 1) := by decide +kernel
theorem d_W_spare_33 : decode b_W_spare 33 = .ok (.ldc 223, 2) := by decide +kernel
theorem d_W_spare_35 : decode b_W_spare 35 = .ok (.invokespecial 49, 3) := by decide +kernel
theorem d_W_spare_38 : decode b_W_spare 38 = .ok (.athrow, 1) := by decide +kernel
theorem d_W_spare_39 : decode b_W_spare 39 = .ok (.aload_n 0, 1) := by decide +kernel
theorem d_W_spare_40 : decode b_W_spare 40 = .ok (.getfield 20, 3) := by decide +kernel
theorem d_W_spare_43 : decode b_W_spare 43 = .ok (.iload_n 1, 1) := by decide +kernel
theorem d_W_spare_44 : decode b_W_spare 44 = .ok (.iaload, 1) := by decide +kernel
theorem d_W_spare_45 : decode b_W_spare 45 = .ok (.iload_n 2, 1) := by decide +kernel
theorem d_W_spare_46 : decode b_W_spare 46 = .ok (.iadd, 1) := by decide +kernel
theorem d_W_spare_47 : decode b_W_spare 47 = .ok (.sipush 1000, 3) := by decide +kernel
theorem d_W_spare_50 : decode b_W_spare 50 = .ok (.if_icmp .le 13, 3) := by decide +kernel
theorem d_W_spare_53 : decode b_W_spare 53 = .ok (.new 56, 3) := by decide +kernel
theorem d_W_spare_56 : decode b_W_spare 56 = .ok (.dup, 1) := by decide +kernel
theorem d_W_spare_57 : decode b_W_spare 57 = .ok (.ldc 225, 2) := by decide +kernel
theorem d_W_spare_59 : decode b_W_spare 59 = .ok (.invokespecial 60, 3) := by decide +kernel
theorem d_W_spare_62 : decode b_W_spare 62 = .ok (.athrow, 1) := by decide +kernel
theorem d_W_spare_63 : decode b_W_spare 63 = .ok (.aload_n 0, 1) := by decide +kernel
theorem d_W_spare_64 : decode b_W_spare 64 = .ok (.getfield 20, 3) := by decide +kernel
theorem d_W_spare_67 : decode b_W_spare 67 = .ok (.iload_n 1, 1) := by decide +kernel
theorem d_W_spare_68 : decode b_W_spare 68 = .ok (.dup2, 1) := by decide +kernel
theorem d_W_spare_69 : decode b_W_spare 69 = .ok (.iaload, 1) := by decide +kernel
theorem d_W_spare_70 : decode b_W_spare 70 = .ok (.iload_n 2, 1) := by decide +kernel
theorem d_W_spare_71 : decode b_W_spare 71 = .ok (.iadd, 1) := by decide +kernel
theorem d_W_spare_72 : decode b_W_spare 72 = .ok (.iastore, 1) := by decide +kernel
theorem d_W_spare_73 : decode b_W_spare 73 = .ok (.aload_n 0, 1) := by decide +kernel
theorem d_W_spare_74 : decode b_W_spare 74 = .ok (.getfield 20, 3) := by decide +kernel
theorem d_W_spare_77 : decode b_W_spare 77 = .ok (.iload_n 1, 1) := by decide +kernel
theorem d_W_spare_78 : decode b_W_spare 78 = .ok (.iaload, 1) := by decide +kernel
theorem d_W_spare_79 : decode b_W_spare 79 = .ok (.ireturn, 1) := by decide +kernel
theorem d_W_isWithin_0 : decode b_W_isWithin 0 = .ok (.iload_n 0, 1) := by decide +kernel
theorem d_W_isWithin_1 : decode b_W_isWithin 1 = .ok (.iload_n 1, 1) := by decide +kernel
theorem d_W_isWithin_2 : decode b_W_isWithin 2 = .ok (.if_icmp .lt 12, 3) := by decide +kernel
theorem d_W_isWithin_5 : decode b_W_isWithin 5 = .ok (.iload_n 0, 1) := by decide +kernel
theorem d_W_isWithin_6 : decode b_W_isWithin 6 = .ok (.iload_n 2, 1) := by decide +kernel
theorem d_W_isWithin_7 : decode b_W_isWithin 7 = .ok (.if_icmp .gt 7, 3) := by decide +kernel
theorem d_W_isWithin_10 : decode b_W_isWithin 10 = .ok (.iconst 1, 1) := by decide +kernel
theorem d_W_isWithin_11 : decode b_W_isWithin 11 = .ok (.goto 4, 3) := by decide +kernel
theorem d_W_isWithin_14 : decode b_W_isWithin 14 = .ok (.iconst 0, 1) := by decide +kernel
theorem d_W_isWithin_15 : decode b_W_isWithin 15 = .ok (.ireturn, 1) := by decide +kernel
theorem d_W_knownThing_0 : decode b_W_knownThing 0 = .ok (.iload_n 1, 1) := by decide +kernel
theorem d_W_knownThing_1 : decode b_W_knownThing 1 = .ok (.ifCond .lt 11, 3) := by decide +kernel
theorem d_W_knownThing_4 : decode b_W_knownThing 4 = .ok (.iload_n 1, 1) := by decide +kernel
theorem d_W_knownThing_5 : decode b_W_knownThing 5 = .ok (.aload_n 0, 1) := by decide +kernel
theorem d_W_knownThing_6 : decode b_W_knownThing 6 = .ok (.getfield 52, 3) := by decide +kernel
theorem d_W_knownThing_9 : decode b_W_knownThing 9 = .ok (.if_icmp .lt 13, 3) := by decide +kernel
theorem d_W_knownThing_12 : decode b_W_knownThing 12 = .ok (.new 123, 3) := by decide +kernel
theorem d_W_knownThing_15 : decode b_W_knownThing 15 = .ok (.dup, 1) := by decide +kernel
theorem d_W_knownThing_16 : decode b_W_knownThing 16 = .ok (.ldc 227, 2) := by decide +kernel
theorem d_W_knownThing_18 : decode b_W_knownThing 18 = .ok (.invokespecial 127, 3) := by decide +kernel
theorem d_W_knownThing_21 : decode b_W_knownThing 21 = .ok (.athrow, 1) := by decide +kernel
theorem d_W_knownThing_22 : decode b_W_knownThing 22 = .ok (.aload_n 0, 1) := by decide +kernel
theorem d_W_knownThing_23 : decode b_W_knownThing 23 = .ok (.getfield 15, 3) := by decide +kernel
theorem d_W_knownThing_26 : decode b_W_knownThing 26 = .ok (.iload_n 1, 1) := by decide +kernel
theorem d_W_knownThing_27 : decode b_W_knownThing 27 = .ok (.aaload, 1) := by decide +kernel
theorem d_W_knownThing_28 : decode b_W_knownThing 28 = .ok (.areturn, 1) := by decide +kernel
theorem d_W_checkWhat_0 : decode b_W_checkWhat 0 = .ok (.iload_n 0, 1) := by decide +kernel
theorem d_W_checkWhat_1 : decode b_W_checkWhat 1 = .ok (.ifCond .lt 8, 3) := by decide +kernel
theorem d_W_checkWhat_4 : decode b_W_checkWhat 4 = .ok (.iload_n 0, 1) := by decide +kernel
theorem d_W_checkWhat_5 : decode b_W_checkWhat 5 = .ok (.iconst 3, 1) := by decide +kernel
theorem d_W_checkWhat_6 : decode b_W_checkWhat 6 = .ok (.if_icmp .lt 13, 3) := by decide +kernel
theorem d_W_checkWhat_9 : decode b_W_checkWhat 9 = .ok (.new 123, 3) := by decide +kernel
theorem d_W_checkWhat_12 : decode b_W_checkWhat 12 = .ok (.dup, 1) := by decide +kernel
theorem d_W_checkWhat_13 : decode b_W_checkWhat 13 = .ok (.ldc 229, 2) := by decide +kernel
theorem d_W_checkWhat_15 : decode b_W_checkWhat 15 = .ok (.invokespecial 127, 3) := by decide +kernel
theorem d_W_checkWhat_18 : decode b_W_checkWhat 18 = .ok (.athrow, 1) := by decide +kernel
theorem d_W_checkWhat_19 : decode b_W_checkWhat 19 = .ok (.return_, 1) := by decide +kernel
theorem d_W_checkHours_0 : decode b_W_checkHours 0 = .ok (.iload_n 0, 1) := by decide +kernel
theorem d_W_checkHours_1 : decode b_W_checkHours 1 = .ok (.ifCond .lt 15, 3) := by decide +kernel
theorem d_W_checkHours_4 : decode b_W_checkHours 4 = .ok (.iload_n 1, 1) := by decide +kernel
theorem d_W_checkHours_5 : decode b_W_checkHours 5 = .ok (.sipush 168, 3) := by decide +kernel
theorem d_W_checkHours_8 : decode b_W_checkHours 8 = .ok (.if_icmp .gt 8, 3) := by decide +kernel
theorem d_W_checkHours_11 : decode b_W_checkHours 11 = .ok (.iload_n 1, 1) := by decide +kernel
theorem d_W_checkHours_12 : decode b_W_checkHours 12 = .ok (.iload_n 0, 1) := by decide +kernel
theorem d_W_checkHours_13 : decode b_W_checkHours 13 = .ok (.if_icmp .gt 13, 3) := by decide +kernel
theorem d_W_checkHours_16 : decode b_W_checkHours 16 = .ok (.new 45, 3) := by decide +kernel
theorem d_W_checkHours_19 : decode b_W_checkHours 19 = .ok (.dup, 1) := by decide +kernel
theorem d_W_checkHours_20 : decode b_W_checkHours 20 = .ok (.ldc 231, 2) := by decide +kernel
theorem d_W_checkHours_22 : decode b_W_checkHours 22 = .ok (.invokespecial 49, 3) := by decide +kernel
theorem d_W_checkHours_25 : decode b_W_checkHours 25 = .ok (.athrow, 1) := by decide +kernel
theorem d_W_checkHours_26 : decode b_W_checkHours 26 = .ok (.return_, 1) := by decide +kernel
theorem d_W_checkSkill_0 : decode b_W_checkSkill 0 = .ok (.iload_n 0, 1) := by decide +kernel
theorem d_W_checkSkill_1 : decode b_W_checkSkill 1 = .ok (.ifCond .lt 8, 3) := by decide +kernel
theorem d_W_checkSkill_4 : decode b_W_checkSkill 4 = .ok (.iload_n 0, 1) := by decide +kernel
theorem d_W_checkSkill_5 : decode b_W_checkSkill 5 = .ok (.iconst 4, 1) := by decide +kernel
theorem d_W_checkSkill_6 : decode b_W_checkSkill 6 = .ok (.if_icmp .lt 13, 3) := by decide +kernel
theorem d_W_checkSkill_9 : decode b_W_checkSkill 9 = .ok (.new 45, 3) := by decide +kernel
theorem d_W_checkSkill_12 : decode b_W_checkSkill 12 = .ok (.dup, 1) := by decide +kernel
theorem d_W_checkSkill_13 : decode b_W_checkSkill 13 = .ok (.ldc 233, 2) := by decide +kernel
theorem d_W_checkSkill_15 : decode b_W_checkSkill 15 = .ok (.invokespecial 49, 3) := by decide +kernel
theorem d_W_checkSkill_18 : decode b_W_checkSkill 18 = .ok (.athrow, 1) := by decide +kernel
theorem d_W_checkSkill_19 : decode b_W_checkSkill 19 = .ok (.return_, 1) := by decide +kernel
theorem d_W_checkPlan_0 : decode b_W_checkPlan 0 = .ok (.aload_n 0, 1) := by decide +kernel
theorem d_W_checkPlan_1 : decode b_W_checkPlan 1 = .ok (.getfield 36, 3) := by decide +kernel
theorem d_W_checkPlan_4 : decode b_W_checkPlan 4 = .ok (.getfield 177, 3) := by decide +kernel
theorem d_W_checkPlan_7 : decode b_W_checkPlan 7 = .ok (.ifCond .ne 13, 3) := by decide +kernel
theorem d_W_checkPlan_10 : decode b_W_checkPlan 10 = .ok (.new 73, 3) := by decide +kernel
theorem d_W_checkPlan_13 : decode b_W_checkPlan 13 = .ok (.dup, 1) := by decide +kernel
theorem d_W_checkPlan_14 : decode b_W_checkPlan 14 = .ok (.ldc 235, 2) := by decide +kernel
theorem d_W_checkPlan_16 : decode b_W_checkPlan 16 = .ok (.invokespecial 77, 3) := by decide +kernel
theorem d_W_checkPlan_19 : decode b_W_checkPlan 19 = .ok (.athrow, 1) := by decide +kernel
theorem d_W_checkPlan_20 : decode b_W_checkPlan 20 = .ok (.return_, 1) := by decide +kernel
theorem d_W_drawnNumber_0 : decode b_W_drawnNumber 0 = .ok (.aload_n 0, 1) := by decide +kernel
theorem d_W_drawnNumber_1 : decode b_W_drawnNumber 1 = .ok (.getfield 7, 3) := by decide +kernel
theorem d_W_drawnNumber_4 : decode b_W_drawnNumber 4 = .ok (.lload_n 1, 1) := by decide +kernel
theorem d_W_drawnNumber_5 : decode b_W_drawnNumber 5 = .ok (.ldc2_w 237, 3) := by decide +kernel
theorem d_W_drawnNumber_8 : decode b_W_drawnNumber 8 = .ok (.lmul, 1) := by decide +kernel
theorem d_W_drawnNumber_9 : decode b_W_drawnNumber 9 = .ok (.ladd, 1) := by decide +kernel
theorem d_W_drawnNumber_10 : decode b_W_drawnNumber 10 = .ok (.lstore_n 3, 1) := by decide +kernel
theorem d_W_drawnNumber_11 : decode b_W_drawnNumber 11 = .ok (.lload_n 3, 1) := by decide +kernel
theorem d_W_drawnNumber_12 : decode b_W_drawnNumber 12 = .ok (.lload_n 3, 1) := by decide +kernel
theorem d_W_drawnNumber_13 : decode b_W_drawnNumber 13 = .ok (.bipush 30, 2) := by decide +kernel
theorem d_W_drawnNumber_15 : decode b_W_drawnNumber 15 = .ok (.lushr, 1) := by decide +kernel
theorem d_W_drawnNumber_16 : decode b_W_drawnNumber 16 = .ok (.lxor, 1) := by decide +kernel
theorem d_W_drawnNumber_17 : decode b_W_drawnNumber 17 = .ok (.ldc2_w 239, 3) := by decide +kernel
theorem d_W_drawnNumber_20 : decode b_W_drawnNumber 20 = .ok (.lmul, 1) := by decide +kernel
theorem d_W_drawnNumber_21 : decode b_W_drawnNumber 21 = .ok (.lstore_n 3, 1) := by decide +kernel
theorem d_W_drawnNumber_22 : decode b_W_drawnNumber 22 = .ok (.lload_n 3, 1) := by decide +kernel
theorem d_W_drawnNumber_23 : decode b_W_drawnNumber 23 = .ok (.lload_n 3, 1) := by decide +kernel
theorem d_W_drawnNumber_24 : decode b_W_drawnNumber 24 = .ok (.bipush 27, 2) := by decide +kernel
theorem d_W_drawnNumber_26 : decode b_W_drawnNumber 26 = .ok (.lushr, 1) := by decide +kernel
theorem d_W_drawnNumber_27 : decode b_W_drawnNumber 27 = .ok (.lxor, 1) := by decide +kernel
theorem d_W_drawnNumber_28 : decode b_W_drawnNumber 28 = .ok (.ldc2_w 241, 3) := by decide +kernel
theorem d_W_drawnNumber_31 : decode b_W_drawnNumber 31 = .ok (.lmul, 1) := by decide +kernel
theorem d_W_drawnNumber_32 : decode b_W_drawnNumber 32 = .ok (.lstore_n 3, 1) := by decide +kernel
theorem d_W_drawnNumber_33 : decode b_W_drawnNumber 33 = .ok (.lload_n 3, 1) := by decide +kernel
theorem d_W_drawnNumber_34 : decode b_W_drawnNumber 34 = .ok (.lload_n 3, 1) := by decide +kernel
theorem d_W_drawnNumber_35 : decode b_W_drawnNumber 35 = .ok (.bipush 31, 2) := by decide +kernel
theorem d_W_drawnNumber_37 : decode b_W_drawnNumber 37 = .ok (.lushr, 1) := by decide +kernel
theorem d_W_drawnNumber_38 : decode b_W_drawnNumber 38 = .ok (.lxor, 1) := by decide +kernel
theorem d_W_drawnNumber_39 : decode b_W_drawnNumber 39 = .ok (.lstore_n 3, 1) := by decide +kernel
theorem d_W_drawnNumber_40 : decode b_W_drawnNumber 40 = .ok (.lload_n 3, 1) := by decide +kernel
theorem d_W_drawnNumber_41 : decode b_W_drawnNumber 41 = .ok (.ldc2_w 243, 3) := by decide +kernel
theorem d_W_drawnNumber_44 : decode b_W_drawnNumber 44 = .ok (.land, 1) := by decide +kernel
theorem d_W_drawnNumber_45 : decode b_W_drawnNumber 45 = .ok (.lreturn, 1) := by decide +kernel
theorem d_G_init_0 : decode b_G_init 0 = .ok (.aload_n 0, 1) := by decide +kernel
theorem d_G_init_1 : decode b_G_init 1 = .ok (.invokespecial 1, 3) := by decide +kernel
theorem d_G_init_4 : decode b_G_init 4 = .ok (.return_, 1) := by decide +kernel
theorem d_P_init_0 : decode b_P_init 0 = .ok (.aload_n 0, 1) := by decide +kernel
theorem d_P_init_1 : decode b_P_init 1 = .ok (.invokespecial 1, 3) := by decide +kernel
theorem d_P_init_4 : decode b_P_init 4 = .ok (.return_, 1) := by decide +kernel
theorem d_L_init_0 : decode b_L_init 0 = .ok (.aload_n 0, 1) := by decide +kernel
theorem d_L_init_1 : decode b_L_init 1 = .ok (.invokespecial 3, 3) := by decide +kernel
theorem d_L_init_4 : decode b_L_init 4 = .ok (.aload_n 0, 1) := by decide +kernel
theorem d_L_init_5 : decode b_L_init 5 = .ok (.aload_n 1, 1) := by decide +kernel
theorem d_L_init_6 : decode b_L_init 6 = .ok (.putfield 9, 3) := by decide +kernel
theorem d_L_init_9 : decode b_L_init 9 = .ok (.aload_n 0, 1) := by decide +kernel
theorem d_L_init_10 : decode b_L_init 10 = .ok (.iconst 4, 1) := by decide +kernel
theorem d_L_init_11 : decode b_L_init 11 = .ok (.newarray .int, 2) := by decide +kernel
theorem d_L_init_13 : decode b_L_init 13 = .ok (.putfield 17, 3) := by decide +kernel
theorem d_L_init_16 : decode b_L_init 16 = .ok (.aload_n 0, 1) := by decide +kernel
theorem d_L_init_17 : decode b_L_init 17 = .ok (.bipush 8, 2) := by decide +kernel
theorem d_L_init_19 : decode b_L_init 19 = .ok (.newarray .int, 2) := by decide +kernel
theorem d_L_init_21 : decode b_L_init 21 = .ok (.putfield 21, 3) := by decide +kernel
theorem d_L_init_24 : decode b_L_init 24 = .ok (.aload_n 0, 1) := by decide +kernel
theorem d_L_init_25 : decode b_L_init 25 = .ok (.bipush 6, 2) := by decide +kernel
theorem d_L_init_27 : decode b_L_init 27 = .ok (.newarray .int, 2) := by decide +kernel
theorem d_L_init_29 : decode b_L_init 29 = .ok (.putfield 24, 3) := by decide +kernel
theorem d_L_init_32 : decode b_L_init 32 = .ok (.return_, 1) := by decide +kernel
theorem d_L_forget_0 : decode b_L_forget 0 = .ok (.aload_n 0, 1) := by decide +kernel
theorem d_L_forget_1 : decode b_L_forget 1 = .ok (.iconst 0, 1) := by decide +kernel
theorem d_L_forget_2 : decode b_L_forget 2 = .ok (.putfield 27, 3) := by decide +kernel
theorem d_L_forget_5 : decode b_L_forget 5 = .ok (.return_, 1) := by decide +kernel
theorem d_L_makeBest_0 : decode b_L_makeBest 0 = .ok (.aload_n 0, 1) := by decide +kernel
theorem d_L_makeBest_1 : decode b_L_makeBest 1 = .ok (.invokevirtual 31, 3) := by decide +kernel
theorem d_L_makeBest_4 : decode b_L_makeBest 4 = .ok (.aload_n 0, 1) := by decide +kernel
theorem d_L_makeBest_5 : decode b_L_makeBest 5 = .ok (.invokevirtual 34, 3) := by decide +kernel
theorem d_L_makeBest_8 : decode b_L_makeBest 8 = .ok (.aload_n 0, 1) := by decide +kernel
theorem d_L_makeBest_9 : decode b_L_makeBest 9 = .ok (.aload_n 0, 1) := by decide +kernel
theorem d_L_makeBest_10 : decode b_L_makeBest 10 = .ok (.iconst 0, 1) := by decide +kernel
theorem d_L_makeBest_11 : decode b_L_makeBest 11 = .ok (.ldc 37, 2) := by decide +kernel
theorem d_L_makeBest_13 : decode b_L_makeBest 13 = .ok (.invokevirtual 38, 3) := by decide +kernel
theorem d_L_makeBest_16 : decode b_L_makeBest 16 = .ok (.putfield 42, 3) := by decide +kernel
theorem d_L_makeBest_19 : decode b_L_makeBest 19 = .ok (.aload_n 0, 1) := by decide +kernel
theorem d_L_makeBest_20 : decode b_L_makeBest 20 = .ok (.iconst 0, 1) := by decide +kernel
theorem d_L_makeBest_21 : decode b_L_makeBest 21 = .ok (.putfield 46, 3) := by decide +kernel
theorem d_L_makeBest_24 : decode b_L_makeBest 24 = .ok (.aload_n 0, 1) := by decide +kernel
theorem d_L_makeBest_25 : decode b_L_makeBest 25 = .ok (.getfield 42, 3) := by decide +kernel
theorem d_L_makeBest_28 : decode b_L_makeBest 28 = .ok (.istore_n 1, 1) := by decide +kernel
theorem d_L_makeBest_29 : decode b_L_makeBest 29 = .ok (.iconst 0, 1) := by decide +kernel
theorem d_L_makeBest_30 : decode b_L_makeBest 30 = .ok (.istore_n 2, 1) := by decide +kernel
theorem d_L_makeBest_31 : decode b_L_makeBest 31 = .ok (.iload_n 2, 1) := by decide +kernel
theorem d_L_makeBest_32 : decode b_L_makeBest 32 = .ok (.aload_n 0, 1) := by decide +kernel
theorem d_L_makeBest_33 : decode b_L_makeBest 33 = .ok (.getfield 9, 3) := by decide +kernel
theorem d_L_makeBest_36 : decode b_L_makeBest 36 = .ok (.getfield 49, 3) := by decide +kernel
theorem d_L_makeBest_39 : decode b_L_makeBest 39 = .ok (.if_icmp .ge 43, 3) := by decide +kernel
theorem d_L_makeBest_42 : decode b_L_makeBest 42 = .ok (.iload_n 1, 1) := by decide +kernel
theorem d_L_makeBest_43 : decode b_L_makeBest 43 = .ok (.aload_n 0, 1) := by decide +kernel
theorem d_L_makeBest_44 : decode b_L_makeBest 44 = .ok (.iload_n 2, 1) := by decide +kernel
theorem d_L_makeBest_45 : decode b_L_makeBest 45 = .ok (.iload_n 1, 1) := by decide +kernel
theorem d_L_makeBest_46 : decode b_L_makeBest 46 = .ok (.invokevirtual 52, 3) := by decide +kernel
theorem d_L_makeBest_49 : decode b_L_makeBest 49 = .ok (.isub, 1) := by decide +kernel
theorem d_L_makeBest_50 : decode b_L_makeBest 50 = .ok (.istore_n 1, 1) := by decide +kernel
theorem d_L_makeBest_51 : decode b_L_makeBest 51 = .ok (.aload_n 0, 1) := by decide +kernel
theorem d_L_makeBest_52 : decode b_L_makeBest 52 = .ok (.getfield 9, 3) := by decide +kernel
theorem d_L_makeBest_55 : decode b_L_makeBest 55 = .ok (.getfield 55, 3) := by decide +kernel
theorem d_L_makeBest_58 : decode b_L_makeBest 58 = .ok (.iload_n 2, 1) := by decide +kernel
theorem d_L_makeBest_59 : decode b_L_makeBest 59 = .ok (.aaload, 1) := by decide +kernel
theorem d_L_makeBest_60 : decode b_L_makeBest 60 = .ok (.invokevirtual 59, 3) := by decide +kernel
theorem d_L_makeBest_63 : decode b_L_makeBest 63 = .ok (.ifCond .eq 13, 3) := by decide +kernel
theorem d_L_makeBest_66 : decode b_L_makeBest 66 = .ok (.aload_n 0, 1) := by decide +kernel
theorem d_L_makeBest_67 : decode b_L_makeBest 67 = .ok (.dup, 1) := by decide +kernel
theorem d_L_makeBest_68 : decode b_L_makeBest 68 = .ok (.getfield 46, 3) := by decide +kernel
theorem d_L_makeBest_71 : decode b_L_makeBest 71 = .ok (.iconst 1, 1) := by decide +kernel
theorem d_L_makeBest_72 : decode b_L_makeBest 72 = .ok (.iadd, 1) := by decide +kernel
theorem d_L_makeBest_73 : decode b_L_makeBest 73 = .ok (.putfield 46, 3) := by decide +kernel
theorem d_L_makeBest_76 : decode b_L_makeBest 76 = .ok (.iinc 2 1, 3) := by decide +kernel
theorem d_L_makeBest_79 : decode b_L_makeBest 79 = .ok (.goto (-48), 3) := by decide +kernel
theorem d_L_makeBest_82 : decode b_L_makeBest 82 = .ok (.aload_n 0, 1) := by decide +kernel
theorem d_L_makeBest_83 : decode b_L_makeBest 83 = .ok (.iconst 1, 1) := by decide +kernel
theorem d_L_makeBest_84 : decode b_L_makeBest 84 = .ok (.putfield 27, 3) := by decide +kernel
theorem d_L_makeBest_87 : decode b_L_makeBest 87 = .ok (.return_, 1) := by decide +kernel
theorem d_L_freeAll_0 : decode b_L_freeAll 0 = .ok (.iconst 0, 1) := by decide +kernel
theorem d_L_freeAll_1 : decode b_L_freeAll 1 = .ok (.istore_n 1, 1) := by decide +kernel
theorem d_L_freeAll_2 : decode b_L_freeAll 2 = .ok (.iload_n 1, 1) := by decide +kernel
theorem d_L_freeAll_3 : decode b_L_freeAll 3 = .ok (.aload_n 0, 1) := by decide +kernel
theorem d_L_freeAll_4 : decode b_L_freeAll 4 = .ok (.getfield 17, 3) := by decide +kernel
theorem d_L_freeAll_7 : decode b_L_freeAll 7 = .ok (.arraylength, 1) := by decide +kernel
theorem d_L_freeAll_8 : decode b_L_freeAll 8 = .ok (.if_icmp .ge 16, 3) := by decide +kernel
theorem d_L_freeAll_11 : decode b_L_freeAll 11 = .ok (.aload_n 0, 1) := by decide +kernel
theorem d_L_freeAll_12 : decode b_L_freeAll 12 = .ok (.getfield 17, 3) := by decide +kernel
theorem d_L_freeAll_15 : decode b_L_freeAll 15 = .ok (.iload_n 1, 1) := by decide +kernel
theorem d_L_freeAll_16 : decode b_L_freeAll 16 = .ok (.iconst 0, 1) := by decide +kernel
theorem d_L_freeAll_17 : decode b_L_freeAll 17 = .ok (.iastore, 1) := by decide +kernel
theorem d_L_freeAll_18 : decode b_L_freeAll 18 = .ok (.iinc 1 1, 3) := by decide +kernel
theorem d_L_freeAll_21 : decode b_L_freeAll 21 = .ok (.goto (-19), 3) := by decide +kernel
theorem d_L_freeAll_24 : decode b_L_freeAll 24 = .ok (.iconst 0, 1) := by decide +kernel
theorem d_L_freeAll_25 : decode b_L_freeAll 25 = .ok (.istore_n 1, 1) := by decide +kernel
theorem d_L_freeAll_26 : decode b_L_freeAll 26 = .ok (.iload_n 1, 1) := by decide +kernel
theorem d_L_freeAll_27 : decode b_L_freeAll 27 = .ok (.aload_n 0, 1) := by decide +kernel
theorem d_L_freeAll_28 : decode b_L_freeAll 28 = .ok (.getfield 21, 3) := by decide +kernel
theorem d_L_freeAll_31 : decode b_L_freeAll 31 = .ok (.arraylength, 1) := by decide +kernel
theorem d_L_freeAll_32 : decode b_L_freeAll 32 = .ok (.if_icmp .ge 16, 3) := by decide +kernel
theorem d_L_freeAll_35 : decode b_L_freeAll 35 = .ok (.aload_n 0, 1) := by decide +kernel
theorem d_L_freeAll_36 : decode b_L_freeAll 36 = .ok (.getfield 21, 3) := by decide +kernel
theorem d_L_freeAll_39 : decode b_L_freeAll 39 = .ok (.iload_n 1, 1) := by decide +kernel
theorem d_L_freeAll_40 : decode b_L_freeAll 40 = .ok (.iconst 0, 1) := by decide +kernel
theorem d_L_freeAll_41 : decode b_L_freeAll 41 = .ok (.iastore, 1) := by decide +kernel
theorem d_L_freeAll_42 : decode b_L_freeAll 42 = .ok (.iinc 1 1, 3) := by decide +kernel
theorem d_L_freeAll_45 : decode b_L_freeAll 45 = .ok (.goto (-19), 3) := by decide +kernel
theorem d_L_freeAll_48 : decode b_L_freeAll 48 = .ok (.return_, 1) := by decide +kernel
theorem d_L_sumFloors_0 : decode b_L_sumFloors 0 = .ok (.aload_n 0, 1) := by decide +kernel
theorem d_L_sumFloors_1 : decode b_L_sumFloors 1 = .ok (.getfield 24, 3) := by decide +kernel
theorem d_L_sumFloors_4 : decode b_L_sumFloors 4 = .ok (.aload_n 0, 1) := by decide +kernel
theorem d_L_sumFloors_5 : decode b_L_sumFloors 5 = .ok (.getfield 9, 3) := by decide +kernel
theorem d_L_sumFloors_8 : decode b_L_sumFloors 8 = .ok (.getfield 49, 3) := by decide +kernel
theorem d_L_sumFloors_11 : decode b_L_sumFloors 11 = .ok (.iconst 0, 1) := by decide +kernel
theorem d_L_sumFloors_12 : decode b_L_sumFloors 12 = .ok (.iastore, 1) := by decide +kernel
theorem d_L_sumFloors_13 : decode b_L_sumFloors 13 = .ok (.aload_n 0, 1) := by decide +kernel
theorem d_L_sumFloors_14 : decode b_L_sumFloors 14 = .ok (.getfield 9, 3) := by decide +kernel
theorem d_L_sumFloors_17 : decode b_L_sumFloors 17 = .ok (.getfield 49, 3) := by decide +kernel
theorem d_L_sumFloors_20 : decode b_L_sumFloors 20 = .ok (.iconst 1, 1) := by decide +kernel
theorem d_L_sumFloors_21 : decode b_L_sumFloors 21 = .ok (.isub, 1) := by decide +kernel
theorem d_L_sumFloors_22 : decode b_L_sumFloors 22 = .ok (.istore_n 1, 1) := by decide +kernel
theorem d_L_sumFloors_23 : decode b_L_sumFloors 23 = .ok (.iload_n 1, 1) := by decide +kernel
theorem d_L_sumFloors_24 : decode b_L_sumFloors 24 = .ok (.ifCond .lt 92, 3) := by decide +kernel
theorem d_L_sumFloors_27 : decode b_L_sumFloors 27 = .ok (.aload_n 0, 1) := by decide +kernel
theorem d_L_sumFloors_28 : decode b_L_sumFloors 28 = .ok (.getfield 9, 3) := by decide +kernel
theorem d_L_sumFloors_31 : decode b_L_sumFloors 31 = .ok (.getfield 55, 3) := by decide +kernel
theorem d_L_sumFloors_34 : decode b_L_sumFloors 34 = .ok (.iload_n 1, 1) := by decide +kernel
theorem d_L_sumFloors_35 : decode b_L_sumFloors 35 = .ok (.aaload, 1) := by decide +kernel
theorem d_L_sumFloors_36 : decode b_L_sumFloors 36 = .ok (.astore_n 2, 1) := by decide +kernel
theorem d_L_sumFloors_37 : decode b_L_sumFloors 37 = .ok (.aload_n 0, 1) := by decide +kernel
theorem d_L_sumFloors_38 : decode b_L_sumFloors 38 = .ok (.getfield 9, 3) := by decide +kernel
theorem d_L_sumFloors_41 : decode b_L_sumFloors 41 = .ok (.aload_n 2, 1) := by decide +kernel
theorem d_L_sumFloors_42 : decode b_L_sumFloors 42 = .ok (.invokevirtual 65, 3) := by decide +kernel
theorem d_L_sumFloors_45 : decode b_L_sumFloors 45 = .ok (.istore_n 3, 1) := by decide +kernel
theorem d_L_sumFloors_46 : decode b_L_sumFloors 46 = .ok (.iconst 0, 1) := by decide +kernel
theorem d_L_sumFloors_47 : decode b_L_sumFloors 47 = .ok (.istore 4, 2) := by decide +kernel
theorem d_L_sumFloors_49 : decode b_L_sumFloors 49 = .ok (.iload 4, 2) := by decide +kernel
theorem d_L_sumFloors_51 : decode b_L_sumFloors 51 = .ok (.aload_n 0, 1) := by decide +kernel
theorem d_L_sumFloors_52 : decode b_L_sumFloors 52 = .ok (.getfield 9, 3) := by decide +kernel
theorem d_L_sumFloors_55 : decode b_L_sumFloors 55 = .ok (.getfield 69, 3) := by decide +kernel
theorem d_L_sumFloors_58 : decode b_L_sumFloors 58 = .ok (.if_icmp .ge 36, 3) := by decide +kernel
theorem d_L_sumFloors_61 : decode b_L_sumFloors 61 = .ok (.aload_n 0, 1) := by decide +kernel
theorem d_L_sumFloors_62 : decode b_L_sumFloors 62 = .ok (.aload_n 2, 1) := by decide +kernel
theorem d_L_sumFloors_63 : decode b_L_sumFloors 63 = .ok (.iload 4, 2) := by decide +kernel
theorem d_L_sumFloors_65 : decode b_L_sumFloors 65 = .ok (.invokevirtual 72, 3) := by decide +kernel
theorem d_L_sumFloors_68 : decode b_L_sumFloors 68 = .ok (.istore 5, 2) := by decide +kernel
theorem d_L_sumFloors_70 : decode b_L_sumFloors 70 = .ok (.iload 5, 2) := by decide +kernel
theorem d_L_sumFloors_72 : decode b_L_sumFloors 72 = .ok (.iconst (-1), 1) := by decide +kernel
theorem d_L_sumFloors_73 : decode b_L_sumFloors 73 = .ok (.if_icmp .eq 15, 3) := by decide +kernel
theorem d_L_sumFloors_76 : decode b_L_sumFloors 76 = .ok (.iload_n 3, 1) := by decide +kernel
theorem d_L_sumFloors_77 : decode b_L_sumFloors 77 = .ok (.aload_n 2, 1) := by decide +kernel
theorem d_L_sumFloors_78 : decode b_L_sumFloors 78 = .ok (.getfield 76, 3) := by decide +kernel
theorem d_L_sumFloors_81 : decode b_L_sumFloors 81 = .ok (.iload 5, 2) := by decide +kernel
theorem d_L_sumFloors_83 : decode b_L_sumFloors 83 = .ok (.imul, 1) := by decide +kernel
theorem d_L_sumFloors_84 : decode b_L_sumFloors 84 = .ok (.invokestatic 79, 3) := by decide +kernel
theorem d_L_sumFloors_87 : decode b_L_sumFloors 87 = .ok (.istore_n 3, 1) := by decide +kernel
theorem d_L_sumFloors_88 : decode b_L_sumFloors 88 = .ok (.iinc 4 1, 3) := by decide +kernel
theorem d_L_sumFloors_91 : decode b_L_sumFloors 91 = .ok (.goto (-42), 3) := by decide +kernel
theorem d_L_sumFloors_94 : decode b_L_sumFloors 94 = .ok (.aload_n 0, 1) := by decide +kernel
theorem d_L_sumFloors_95 : decode b_L_sumFloors 95 = .ok (.getfield 24, 3) := by decide +kernel
theorem d_L_sumFloors_98 : decode b_L_sumFloors 98 = .ok (.iload_n 1, 1) := by decide +kernel
theorem d_L_sumFloors_99 : decode b_L_sumFloors 99 = .ok (.aload_n 0, 1) := by decide +kernel
theorem d_L_sumFloors_100 : decode b_L_sumFloors 100 = .ok (.getfield 24, 3) := by decide +kernel
theorem d_L_sumFloors_103 : decode b_L_sumFloors 103 = .ok (.iload_n 1, 1) := by decide +kernel
theorem d_L_sumFloors_104 : decode b_L_sumFloors 104 = .ok (.iconst 1, 1) := by decide +kernel
theorem d_L_sumFloors_105 : decode b_L_sumFloors 105 = .ok (.iadd, 1) := by decide +kernel
theorem d_L_sumFloors_106 : decode b_L_sumFloors 106 = .ok (.iaload, 1) := by decide +kernel
theorem d_L_sumFloors_107 : decode b_L_sumFloors 107 = .ok (.iload_n 3, 1) := by decide +kernel
theorem d_L_sumFloors_108 : decode b_L_sumFloors 108 = .ok (.iadd, 1) := by decide +kernel
theorem d_L_sumFloors_109 : decode b_L_sumFloors 109 = .ok (.iastore, 1) := by decide +kernel
theorem d_L_sumFloors_110 : decode b_L_sumFloors 110 = .ok (.iinc 1 (-1), 3) := by decide +kernel
theorem d_L_sumFloors_113 : decode b_L_sumFloors 113 = .ok (.goto (-90), 3) := by decide +kernel
theorem d_L_sumFloors_116 : decode b_L_sumFloors 116 = .ok (.return_, 1) := by decide +kernel
theorem d_L_settle_0 : decode b_L_settle 0 = .ok (.aload_n 0, 1) := by decide +kernel
theorem d_L_settle_1 : decode b_L_settle 1 = .ok (.getfield 9, 3) := by decide +kernel
theorem d_L_settle_4 : decode b_L_settle 4 = .ok (.getfield 55, 3) := by decide +kernel
theorem d_L_settle_7 : decode b_L_settle 7 = .ok (.iload_n 1, 1) := by decide +kernel
theorem d_L_settle_8 : decode b_L_settle 8 = .ok (.aaload, 1) := by decide +kernel
theorem d_L_settle_9 : decode b_L_settle 9 = .ok (.astore_n 3, 1) := by decide +kernel
theorem d_L_settle_10 : decode b_L_settle 10 = .ok (.aload_n 3, 1) := by decide +kernel
theorem d_L_settle_11 : decode b_L_settle 11 = .ok (.invokevirtual 84, 3) := by decide +kernel
theorem d_L_settle_14 : decode b_L_settle 14 = .ok (.iconst 0, 1) := by decide +kernel
theorem d_L_settle_15 : decode b_L_settle 15 = .ok (.istore 4, 2) := by decide +kernel
theorem d_L_settle_17 : decode b_L_settle 17 = .ok (.iload 4, 2) := by decide +kernel
theorem d_L_settle_19 : decode b_L_settle 19 = .ok (.aload_n 0, 1) := by decide +kernel
theorem d_L_settle_20 : decode b_L_settle 20 = .ok (.getfield 9, 3) := by decide +kernel
theorem d_L_settle_23 : decode b_L_settle 23 = .ok (.getfield 87, 3) := by decide +kernel
theorem d_L_settle_26 : decode b_L_settle 26 = .ok (.if_icmp .ge 90, 3) := by decide +kernel
theorem d_L_settle_29 : decode b_L_settle 29 = .ok (.iconst 0, 1) := by decide +kernel
theorem d_L_settle_30 : decode b_L_settle 30 = .ok (.istore 5, 2) := by decide +kernel
theorem d_L_settle_32 : decode b_L_settle 32 = .ok (.iload 5, 2) := by decide +kernel
theorem d_L_settle_34 : decode b_L_settle 34 = .ok (.aload_n 0, 1) := by decide +kernel
theorem d_L_settle_35 : decode b_L_settle 35 = .ok (.getfield 9, 3) := by decide +kernel
theorem d_L_settle_38 : decode b_L_settle 38 = .ok (.getfield 69, 3) := by decide +kernel
theorem d_L_settle_41 : decode b_L_settle 41 = .ok (.if_icmp .ge 69, 3) := by decide +kernel
theorem d_L_settle_44 : decode b_L_settle 44 = .ok (.aload_n 0, 1) := by decide +kernel
theorem d_L_settle_45 : decode b_L_settle 45 = .ok (.aload_n 3, 1) := by decide +kernel
theorem d_L_settle_46 : decode b_L_settle 46 = .ok (.iload 4, 2) := by decide +kernel
theorem d_L_settle_48 : decode b_L_settle 48 = .ok (.iload 5, 2) := by decide +kernel
theorem d_L_settle_50 : decode b_L_settle 50 = .ok (.invokevirtual 90, 3) := by decide +kernel
theorem d_L_settle_53 : decode b_L_settle 53 = .ok (.istore 6, 2) := by decide +kernel
theorem d_L_settle_55 : decode b_L_settle 55 = .ok (.iload 6, 2) := by decide +kernel
theorem d_L_settle_57 : decode b_L_settle 57 = .ok (.iconst (-1), 1) := by decide +kernel
theorem d_L_settle_58 : decode b_L_settle 58 = .ok (.if_icmp .eq 46, 3) := by decide +kernel
theorem d_L_settle_61 : decode b_L_settle 61 = .ok (.aload_n 0, 1) := by decide +kernel
theorem d_L_settle_62 : decode b_L_settle 62 = .ok (.iload_n 1, 1) := by decide +kernel
theorem d_L_settle_63 : decode b_L_settle 63 = .ok (.iload 5, 2) := by decide +kernel
theorem d_L_settle_65 : decode b_L_settle 65 = .ok (.iload 6, 2) := by decide +kernel
theorem d_L_settle_67 : decode b_L_settle 67 = .ok (.iload_n 2, 1) := by decide +kernel
theorem d_L_settle_68 : decode b_L_settle 68 = .ok (.iconst 1, 1) := by decide +kernel
theorem d_L_settle_69 : decode b_L_settle 69 = .ok (.iadd, 1) := by decide +kernel
theorem d_L_settle_70 : decode b_L_settle 70 = .ok (.invokevirtual 94, 3) := by decide +kernel
theorem d_L_settle_73 : decode b_L_settle 73 = .ok (.iload_n 2, 1) := by decide +kernel
theorem d_L_settle_74 : decode b_L_settle 74 = .ok (.if_icmp .gt 30, 3) := by decide +kernel
theorem d_L_settle_77 : decode b_L_settle 77 = .ok (.aload_n 0, 1) := by decide +kernel
theorem d_L_settle_78 : decode b_L_settle 78 = .ok (.aload_n 3, 1) := by decide +kernel
theorem d_L_settle_79 : decode b_L_settle 79 = .ok (.iload 5, 2) := by decide +kernel
theorem d_L_settle_81 : decode b_L_settle 81 = .ok (.iload 6, 2) := by decide +kernel
theorem d_L_settle_83 : decode b_L_settle 83 = .ok (.invokevirtual 98, 3) := by decide +kernel
theorem d_L_settle_86 : decode b_L_settle 86 = .ok (.aload_n 3, 1) := by decide +kernel
theorem d_L_settle_87 : decode b_L_settle 87 = .ok (.iload 6, 2) := by decide +kernel
theorem d_L_settle_89 : decode b_L_settle 89 = .ok (.iload 5, 2) := by decide +kernel
theorem d_L_settle_91 : decode b_L_settle 91 = .ok (.iload 4, 2) := by decide +kernel
theorem d_L_settle_93 : decode b_L_settle 93 = .ok (.invokevirtual 102, 3) := by decide +kernel
theorem d_L_settle_96 : decode b_L_settle 96 = .ok (.aload_n 3, 1) := by decide +kernel
theorem d_L_settle_97 : decode b_L_settle 97 = .ok (.getfield 76, 3) := by decide +kernel
theorem d_L_settle_100 : decode b_L_settle 100 = .ok (.iload 6, 2) := by decide +kernel
theorem d_L_settle_102 : decode b_L_settle 102 = .ok (.imul, 1) := by decide +kernel
theorem d_L_settle_103 : decode b_L_settle 103 = .ok (.ireturn, 1) := by decide +kernel
theorem d_L_settle_104 : decode b_L_settle 104 = .ok (.iinc 5 1, 3) := by decide +kernel
theorem d_L_settle_107 : decode b_L_settle 107 = .ok (.goto (-75), 3) := by decide +kernel
theorem d_L_settle_110 : decode b_L_settle 110 = .ok (.iinc 4 1, 3) := by decide +kernel
theorem d_L_settle_113 : decode b_L_settle 113 = .ok (.goto (-96), 3) := by decide +kernel
theorem d_L_settle_116 : decode b_L_settle 116 = .ok (.aload_n 0, 1) := by decide +kernel
theorem d_L_settle_117 : decode b_L_settle 117 = .ok (.getfield 9, 3) := by decide +kernel
theorem d_L_settle_120 : decode b_L_settle 120 = .ok (.aload_n 3, 1) := by decide +kernel
theorem d_L_settle_121 : decode b_L_settle 121 = .ok (.invokevirtual 65, 3) := by decide +kernel
theorem d_L_settle_124 : decode b_L_settle 124 = .ok (.ireturn, 1) := by decide +kernel
theorem d_L_leastCost_0 : decode b_L_leastCost 0 = .ok (.iload_n 1, 1) := by decide +kernel
theorem d_L_leastCost_1 : decode b_L_leastCost 1 = .ok (.aload_n 0, 1) := by decide +kernel
theorem d_L_leastCost_2 : decode b_L_leastCost 2 = .ok (.getfield 9, 3) := by decide +kernel
theorem d_L_leastCost_5 : decode b_L_leastCost 5 = .ok (.getfield 49, 3) := by decide +kernel
theorem d_L_leastCost_8 : decode b_L_leastCost 8 = .ok (.if_icmp .lt 5, 3) := by decide +kernel
theorem d_L_leastCost_11 : decode b_L_leastCost 11 = .ok (.iconst 0, 1) := by decide +kernel
theorem d_L_leastCost_12 : decode b_L_leastCost 12 = .ok (.ireturn, 1) := by decide +kernel
theorem d_L_leastCost_13 : decode b_L_leastCost 13 = .ok (.aload_n 0, 1) := by decide +kernel
theorem d_L_leastCost_14 : decode b_L_leastCost 14 = .ok (.getfield 9, 3) := by decide +kernel
theorem d_L_leastCost_17 : decode b_L_leastCost 17 = .ok (.getfield 55, 3) := by decide +kernel
theorem d_L_leastCost_20 : decode b_L_leastCost 20 = .ok (.iload_n 1, 1) := by decide +kernel
theorem d_L_leastCost_21 : decode b_L_leastCost 21 = .ok (.aaload, 1) := by decide +kernel
theorem d_L_leastCost_22 : decode b_L_leastCost 22 = .ok (.astore_n 3, 1) := by decide +kernel
theorem d_L_leastCost_23 : decode b_L_leastCost 23 = .ok (.iload_n 2, 1) := by decide +kernel
theorem d_L_leastCost_24 : decode b_L_leastCost 24 = .ok (.istore 4, 2) := by decide +kernel
theorem d_L_leastCost_26 : decode b_L_leastCost 26 = .ok (.iconst 0, 1) := by decide +kernel
theorem d_L_leastCost_27 : decode b_L_leastCost 27 = .ok (.istore 5, 2) := by decide +kernel
theorem d_L_leastCost_29 : decode b_L_leastCost 29 = .ok (.iload 5, 2) := by decide +kernel
theorem d_L_leastCost_31 : decode b_L_leastCost 31 = .ok (.aload_n 0, 1) := by decide +kernel
theorem d_L_leastCost_32 : decode b_L_leastCost 32 = .ok (.getfield 9, 3) := by decide +kernel
theorem d_L_leastCost_35 : decode b_L_leastCost 35 = .ok (.getfield 69, 3) := by decide +kernel
theorem d_L_leastCost_38 : decode b_L_leastCost 38 = .ok (.if_icmp .ge 37, 3) := by decide +kernel
theorem d_L_leastCost_41 : decode b_L_leastCost 41 = .ok (.aload_n 0, 1) := by decide +kernel
theorem d_L_leastCost_42 : decode b_L_leastCost 42 = .ok (.aload_n 3, 1) := by decide +kernel
theorem d_L_leastCost_43 : decode b_L_leastCost 43 = .ok (.iload 5, 2) := by decide +kernel
theorem d_L_leastCost_45 : decode b_L_leastCost 45 = .ok (.invokevirtual 72, 3) := by decide +kernel
theorem d_L_leastCost_48 : decode b_L_leastCost 48 = .ok (.istore 6, 2) := by decide +kernel
theorem d_L_leastCost_50 : decode b_L_leastCost 50 = .ok (.iload 6, 2) := by decide +kernel
theorem d_L_leastCost_52 : decode b_L_leastCost 52 = .ok (.iconst (-1), 1) := by decide +kernel
theorem d_L_leastCost_53 : decode b_L_leastCost 53 = .ok (.if_icmp .eq 16, 3) := by decide +kernel
theorem d_L_leastCost_56 : decode b_L_leastCost 56 = .ok (.aload_n 0, 1) := by decide +kernel
theorem d_L_leastCost_57 : decode b_L_leastCost 57 = .ok (.iload_n 1, 1) := by decide +kernel
theorem d_L_leastCost_58 : decode b_L_leastCost 58 = .ok (.iload 5, 2) := by decide +kernel
theorem d_L_leastCost_60 : decode b_L_leastCost 60 = .ok (.iload 6, 2) := by decide +kernel
theorem d_L_leastCost_62 : decode b_L_leastCost 62 = .ok (.iload 4, 2) := by decide +kernel
theorem d_L_leastCost_64 : decode b_L_leastCost 64 = .ok (.invokevirtual 94, 3) := by decide +kernel
theorem d_L_leastCost_67 : decode b_L_leastCost 67 = .ok (.istore 4, 2) := by decide +kernel
theorem d_L_leastCost_69 : decode b_L_leastCost 69 = .ok (.iinc 5 1, 3) := by decide +kernel
theorem d_L_leastCost_72 : decode b_L_leastCost 72 = .ok (.goto (-43), 3) := by decide +kernel
theorem d_L_leastCost_75 : decode b_L_leastCost 75 = .ok (.aload_n 0, 1) := by decide +kernel
theorem d_L_leastCost_76 : decode b_L_leastCost 76 = .ok (.getfield 9, 3) := by decide +kernel
theorem d_L_leastCost_79 : decode b_L_leastCost 79 = .ok (.aload_n 3, 1) := by decide +kernel
theorem d_L_leastCost_80 : decode b_L_leastCost 80 = .ok (.invokevirtual 65, 3) := by decide +kernel
theorem d_L_leastCost_83 : decode b_L_leastCost 83 = .ok (.istore 5, 2) := by decide +kernel
theorem d_L_leastCost_85 : decode b_L_leastCost 85 = .ok (.iload 5, 2) := by decide +kernel
theorem d_L_leastCost_87 : decode b_L_leastCost 87 = .ok (.aload_n 0, 1) := by decide +kernel
theorem d_L_leastCost_88 : decode b_L_leastCost 88 = .ok (.getfield 24, 3) := by decide +kernel
theorem d_L_leastCost_91 : decode b_L_leastCost 91 = .ok (.iload_n 1, 1) := by decide +kernel
theorem d_L_leastCost_92 : decode b_L_leastCost 92 = .ok (.iconst 1, 1) := by decide +kernel
theorem d_L_leastCost_93 : decode b_L_leastCost 93 = .ok (.iadd, 1) := by decide +kernel
theorem d_L_leastCost_94 : decode b_L_leastCost 94 = .ok (.iaload, 1) := by decide +kernel
theorem d_L_leastCost_95 : decode b_L_leastCost 95 = .ok (.iadd, 1) := by decide +kernel
theorem d_L_leastCost_96 : decode b_L_leastCost 96 = .ok (.iload 4, 2) := by decide +kernel
theorem d_L_leastCost_98 : decode b_L_leastCost 98 = .ok (.if_icmp .ge 20, 3) := by decide +kernel
theorem d_L_leastCost_101 : decode b_L_leastCost 101 = .ok (.iload 5, 2) := by decide +kernel
theorem d_L_leastCost_103 : decode b_L_leastCost 103 = .ok (.aload_n 0, 1) := by decide +kernel
theorem d_L_leastCost_104 : decode b_L_leastCost 104 = .ok (.iload_n 1, 1) := by decide +kernel
theorem d_L_leastCost_105 : decode b_L_leastCost 105 = .ok (.iconst 1, 1) := by decide +kernel
theorem d_L_leastCost_106 : decode b_L_leastCost 106 = .ok (.iadd, 1) := by decide +kernel
theorem d_L_leastCost_107 : decode b_L_leastCost 107 = .ok (.iload 4, 2) := by decide +kernel
theorem d_L_leastCost_109 : decode b_L_leastCost 109 = .ok (.iload 5, 2) := by decide +kernel
theorem d_L_leastCost_111 : decode b_L_leastCost 111 = .ok (.isub, 1) := by decide +kernel
theorem d_L_leastCost_112 : decode b_L_leastCost 112 = .ok (.invokevirtual 38, 3) := by decide +kernel
theorem d_L_leastCost_115 : decode b_L_leastCost 115 = .ok (.iadd, 1) := by decide +kernel
theorem d_L_leastCost_116 : decode b_L_leastCost 116 = .ok (.istore 4, 2) := by decide +kernel
theorem d_L_leastCost_118 : decode b_L_leastCost 118 = .ok (.iload 4, 2) := by decide +kernel
theorem d_L_leastCost_120 : decode b_L_leastCost 120 = .ok (.ireturn, 1) := by decide +kernel
theorem d_L_costBy_0 : decode b_L_costBy 0 = .ok (.aload_n 0, 1) := by decide +kernel
theorem d_L_costBy_1 : decode b_L_costBy 1 = .ok (.getfield 9, 3) := by decide +kernel
theorem d_L_costBy_4 : decode b_L_costBy 4 = .ok (.getfield 55, 3) := by decide +kernel
theorem d_L_costBy_7 : decode b_L_costBy 7 = .ok (.iload_n 1, 1) := by decide +kernel
theorem d_L_costBy_8 : decode b_L_costBy 8 = .ok (.aaload, 1) := by decide +kernel
theorem d_L_costBy_9 : decode b_L_costBy 9 = .ok (.astore 5, 2) := by decide +kernel
theorem d_L_costBy_11 : decode b_L_costBy 11 = .ok (.aload 5, 2) := by decide +kernel
theorem d_L_costBy_13 : decode b_L_costBy 13 = .ok (.getfield 76, 3) := by decide +kernel
theorem d_L_costBy_16 : decode b_L_costBy 16 = .ok (.iload_n 3, 1) := by decide +kernel
theorem d_L_costBy_17 : decode b_L_costBy 17 = .ok (.imul, 1) := by decide +kernel
theorem d_L_costBy_18 : decode b_L_costBy 18 = .ok (.istore 6, 2) := by decide +kernel
theorem d_L_costBy_20 : decode b_L_costBy 20 = .ok (.iload 6, 2) := by decide +kernel
theorem d_L_costBy_22 : decode b_L_costBy 22 = .ok (.aload_n 0, 1) := by decide +kernel
theorem d_L_costBy_23 : decode b_L_costBy 23 = .ok (.getfield 24, 3) := by decide +kernel
theorem d_L_costBy_26 : decode b_L_costBy 26 = .ok (.iload_n 1, 1) := by decide +kernel
theorem d_L_costBy_27 : decode b_L_costBy 27 = .ok (.iconst 1, 1) := by decide +kernel
theorem d_L_costBy_28 : decode b_L_costBy 28 = .ok (.iadd, 1) := by decide +kernel
theorem d_L_costBy_29 : decode b_L_costBy 29 = .ok (.iaload, 1) := by decide +kernel
theorem d_L_costBy_30 : decode b_L_costBy 30 = .ok (.iadd, 1) := by decide +kernel
theorem d_L_costBy_31 : decode b_L_costBy 31 = .ok (.iload 4, 2) := by decide +kernel
theorem d_L_costBy_33 : decode b_L_costBy 33 = .ok (.if_icmp .lt 6, 3) := by decide +kernel
theorem d_L_costBy_36 : decode b_L_costBy 36 = .ok (.iload 4, 2) := by decide +kernel
theorem d_L_costBy_38 : decode b_L_costBy 38 = .ok (.ireturn, 1) := by decide +kernel
theorem d_L_costBy_39 : decode b_L_costBy 39 = .ok (.aload_n 0, 1) := by decide +kernel
theorem d_L_costBy_40 : decode b_L_costBy 40 = .ok (.getfield 17, 3) := by decide +kernel
theorem d_L_costBy_43 : decode b_L_costBy 43 = .ok (.iload_n 2, 1) := by decide +kernel
theorem d_L_costBy_44 : decode b_L_costBy 44 = .ok (.iaload, 1) := by decide +kernel
theorem d_L_costBy_45 : decode b_L_costBy 45 = .ok (.istore 7, 2) := by decide +kernel
theorem d_L_costBy_47 : decode b_L_costBy 47 = .ok (.aload_n 0, 1) := by decide +kernel
theorem d_L_costBy_48 : decode b_L_costBy 48 = .ok (.getfield 21, 3) := by decide +kernel
theorem d_L_costBy_51 : decode b_L_costBy 51 = .ok (.aload 5, 2) := by decide +kernel
theorem d_L_costBy_53 : decode b_L_costBy 53 = .ok (.getfield 106, 3) := by decide +kernel
theorem d_L_costBy_56 : decode b_L_costBy 56 = .ok (.iaload, 1) := by decide +kernel
theorem d_L_costBy_57 : decode b_L_costBy 57 = .ok (.istore 8, 2) := by decide +kernel
theorem d_L_costBy_59 : decode b_L_costBy 59 = .ok (.aload_n 0, 1) := by decide +kernel
theorem d_L_costBy_60 : decode b_L_costBy 60 = .ok (.aload 5, 2) := by decide +kernel
theorem d_L_costBy_62 : decode b_L_costBy 62 = .ok (.iload_n 2, 1) := by decide +kernel
theorem d_L_costBy_63 : decode b_L_costBy 63 = .ok (.iload_n 3, 1) := by decide +kernel
theorem d_L_costBy_64 : decode b_L_costBy 64 = .ok (.invokevirtual 98, 3) := by decide +kernel
theorem d_L_costBy_67 : decode b_L_costBy 67 = .ok (.iload 6, 2) := by decide +kernel
theorem d_L_costBy_69 : decode b_L_costBy 69 = .ok (.aload_n 0, 1) := by decide +kernel
theorem d_L_costBy_70 : decode b_L_costBy 70 = .ok (.iload_n 1, 1) := by decide +kernel
theorem d_L_costBy_71 : decode b_L_costBy 71 = .ok (.iconst 1, 1) := by decide +kernel
theorem d_L_costBy_72 : decode b_L_costBy 72 = .ok (.iadd, 1) := by decide +kernel
theorem d_L_costBy_73 : decode b_L_costBy 73 = .ok (.iload 4, 2) := by decide +kernel
theorem d_L_costBy_75 : decode b_L_costBy 75 = .ok (.iload 6, 2) := by decide +kernel
theorem d_L_costBy_77 : decode b_L_costBy 77 = .ok (.isub, 1) := by decide +kernel
theorem d_L_costBy_78 : decode b_L_costBy 78 = .ok (.invokevirtual 38, 3) := by decide +kernel
theorem d_L_costBy_81 : decode b_L_costBy 81 = .ok (.iadd, 1) := by decide +kernel
theorem d_L_costBy_82 : decode b_L_costBy 82 = .ok (.istore 9, 2) := by decide +kernel
theorem d_L_costBy_84 : decode b_L_costBy 84 = .ok (.aload_n 0, 1) := by decide +kernel
theorem d_L_costBy_85 : decode b_L_costBy 85 = .ok (.getfield 17, 3) := by decide +kernel
theorem d_L_costBy_88 : decode b_L_costBy 88 = .ok (.iload_n 2, 1) := by decide +kernel
theorem d_L_costBy_89 : decode b_L_costBy 89 = .ok (.iload 7, 2) := by decide +kernel
theorem d_L_costBy_91 : decode b_L_costBy 91 = .ok (.iastore, 1) := by decide +kernel
theorem d_L_costBy_92 : decode b_L_costBy 92 = .ok (.aload_n 0, 1) := by decide +kernel
theorem d_L_costBy_93 : decode b_L_costBy 93 = .ok (.getfield 21, 3) := by decide +kernel
theorem d_L_costBy_96 : decode b_L_costBy 96 = .ok (.aload 5, 2) := by decide +kernel
theorem d_L_costBy_98 : decode b_L_costBy 98 = .ok (.getfield 106, 3) := by decide +kernel
theorem d_L_costBy_101 : decode b_L_costBy 101 = .ok (.iload 8, 2) := by decide +kernel
theorem d_L_costBy_103 : decode b_L_costBy 103 = .ok (.iastore, 1) := by decide +kernel
theorem d_L_costBy_104 : decode b_L_costBy 104 = .ok (.iload 9, 2) := by decide +kernel
theorem d_L_costBy_106 : decode b_L_costBy 106 = .ok (.ireturn, 1) := by decide +kernel
theorem d_L_occupy_0 : decode b_L_occupy 0 = .ok (.iload_n 3, 1) := by decide +kernel
theorem d_L_occupy_1 : decode b_L_occupy 1 = .ok (.aload_n 1, 1) := by decide +kernel
theorem d_L_occupy_2 : decode b_L_occupy 2 = .ok (.getfield 109, 3) := by decide +kernel
theorem d_L_occupy_5 : decode b_L_occupy 5 = .ok (.iadd, 1) := by decide +kernel
theorem d_L_occupy_6 : decode b_L_occupy 6 = .ok (.istore 4, 2) := by decide +kernel
theorem d_L_occupy_8 : decode b_L_occupy 8 = .ok (.aload_n 0, 1) := by decide +kernel
theorem d_L_occupy_9 : decode b_L_occupy 9 = .ok (.getfield 21, 3) := by decide +kernel
theorem d_L_occupy_12 : decode b_L_occupy 12 = .ok (.aload_n 1, 1) := by decide +kernel
theorem d_L_occupy_13 : decode b_L_occupy 13 = .ok (.getfield 106, 3) := by decide +kernel
theorem d_L_occupy_16 : decode b_L_occupy 16 = .ok (.iload 4, 2) := by decide +kernel
theorem d_L_occupy_18 : decode b_L_occupy 18 = .ok (.iastore, 1) := by decide +kernel
theorem d_L_occupy_19 : decode b_L_occupy 19 = .ok (.aload_n 0, 1) := by decide +kernel
theorem d_L_occupy_20 : decode b_L_occupy 20 = .ok (.getfield 17, 3) := by decide +kernel
theorem d_L_occupy_23 : decode b_L_occupy 23 = .ok (.iload_n 2, 1) := by decide +kernel
theorem d_L_occupy_24 : decode b_L_occupy 24 = .ok (.iload 4, 2) := by decide +kernel
theorem d_L_occupy_26 : decode b_L_occupy 26 = .ok (.aload_n 0, 1) := by decide +kernel
theorem d_L_occupy_27 : decode b_L_occupy 27 = .ok (.getfield 9, 3) := by decide +kernel
theorem d_L_occupy_30 : decode b_L_occupy 30 = .ok (.getfield 112, 3) := by decide +kernel
theorem d_L_occupy_33 : decode b_L_occupy 33 = .ok (.iadd, 1) := by decide +kernel
theorem d_L_occupy_34 : decode b_L_occupy 34 = .ok (.iastore, 1) := by decide +kernel
theorem d_L_occupy_35 : decode b_L_occupy 35 = .ok (.return_, 1) := by decide +kernel
theorem d_L_firstBeginning_0 : decode b_L_firstBeginning 0 = .ok (.iconst (-1), 1) := by decide +kernel
theorem d_L_firstBeginning_1 : decode b_L_firstBeginning 1 = .ok (.istore_n 3, 1) := by decide +kernel
theorem d_L_firstBeginning_2 : decode b_L_firstBeginning 2 = .ok (.aload_n 0, 1) := by decide +kernel
theorem d_L_firstBeginning_3 : decode b_L_firstBeginning 3 = .ok (.getfield 9, 3) := by decide +kernel
theorem d_L_firstBeginning_6 : decode b_L_firstBeginning 6 = .ok (.getfield 115, 3) := by decide +kernel
theorem d_L_firstBeginning_9 : decode b_L_firstBeginning 9 = .ok (.iload_n 2, 1) := by decide +kernel
theorem d_L_firstBeginning_10 : decode b_L_firstBeginning 10 = .ok (.aaload, 1) := by decide +kernel
theorem d_L_firstBeginning_11 : decode b_L_firstBeginning 11 = .ok (.getfield 119, 3) := by decide +kernel
theorem d_L_firstBeginning_14 : decode b_L_firstBeginning 14 = .ok (.aload_n 1, 1) := by decide +kernel
theorem d_L_firstBeginning_15 : decode b_L_firstBeginning 15 = .ok (.getfield 124, 3) := by decide +kernel
theorem d_L_firstBeginning_18 : decode b_L_firstBeginning 18 = .ok (.if_icmp .eq 5, 3) := by decide +kernel
theorem d_L_firstBeginning_21 : decode b_L_firstBeginning 21 = .ok (.iload_n 3, 1) := by decide +kernel
theorem d_L_firstBeginning_22 : decode b_L_firstBeginning 22 = .ok (.ireturn, 1) := by decide +kernel
theorem d_L_firstBeginning_23 : decode b_L_firstBeginning 23 = .ok (.iconst 0, 1) := by decide +kernel
theorem d_L_firstBeginning_24 : decode b_L_firstBeginning 24 = .ok (.istore 4, 2) := by decide +kernel
theorem d_L_firstBeginning_26 : decode b_L_firstBeginning 26 = .ok (.iload 4, 2) := by decide +kernel
theorem d_L_firstBeginning_28 : decode b_L_firstBeginning 28 = .ok (.aload_n 0, 1) := by decide +kernel
theorem d_L_firstBeginning_29 : decode b_L_firstBeginning 29 = .ok (.getfield 9, 3) := by decide +kernel
theorem d_L_firstBeginning_32 : decode b_L_firstBeginning 32 = .ok (.getfield 87, 3) := by decide +kernel
theorem d_L_firstBeginning_35 : decode b_L_firstBeginning 35 = .ok (.if_icmp .ge 39, 3) := by decide +kernel
theorem d_L_firstBeginning_38 : decode b_L_firstBeginning 38 = .ok (.aload_n 0, 1) := by decide +kernel
theorem d_L_firstBeginning_39 : decode b_L_firstBeginning 39 = .ok (.aload_n 1, 1) := by decide +kernel
theorem d_L_firstBeginning_40 : decode b_L_firstBeginning 40 = .ok (.iload 4, 2) := by decide +kernel
theorem d_L_firstBeginning_42 : decode b_L_firstBeginning 42 = .ok (.iload_n 2, 1) := by decide +kernel
theorem d_L_firstBeginning_43 : decode b_L_firstBeginning 43 = .ok (.invokevirtual 90, 3) := by decide +kernel
theorem d_L_firstBeginning_46 : decode b_L_firstBeginning 46 = .ok (.istore 5, 2) := by decide +kernel
theorem d_L_firstBeginning_48 : decode b_L_firstBeginning 48 = .ok (.iload 5, 2) := by decide +kernel
theorem d_L_firstBeginning_50 : decode b_L_firstBeginning 50 = .ok (.iconst (-1), 1) := by decide +kernel
theorem d_L_firstBeginning_51 : decode b_L_firstBeginning 51 = .ok (.if_icmp .eq 17, 3) := by decide +kernel
theorem d_L_firstBeginning_54 : decode b_L_firstBeginning 54 = .ok (.iload_n 3, 1) := by decide +kernel
theorem d_L_firstBeginning_55 : decode b_L_firstBeginning 55 = .ok (.iconst (-1), 1) := by decide +kernel
theorem d_L_firstBeginning_56 : decode b_L_firstBeginning 56 = .ok (.if_icmp .eq 9, 3) := by decide +kernel
theorem d_L_firstBeginning_59 : decode b_L_firstBeginning 59 = .ok (.iload 5, 2) := by decide +kernel
theorem d_L_firstBeginning_61 : decode b_L_firstBeginning 61 = .ok (.iload_n 3, 1) := by decide +kernel
theorem d_L_firstBeginning_62 : decode b_L_firstBeginning 62 = .ok (.if_icmp .ge 6, 3) := by decide +kernel
theorem d_L_firstBeginning_65 : decode b_L_firstBeginning 65 = .ok (.iload 5, 2) := by decide +kernel
theorem d_L_firstBeginning_67 : decode b_L_firstBeginning 67 = .ok (.istore_n 3, 1) := by decide +kernel
theorem d_L_firstBeginning_68 : decode b_L_firstBeginning 68 = .ok (.iinc 4 1, 3) := by decide +kernel
theorem d_L_firstBeginning_71 : decode b_L_firstBeginning 71 = .ok (.goto (-45), 3) := by decide +kernel
theorem d_L_firstBeginning_74 : decode b_L_firstBeginning 74 = .ok (.iload_n 3, 1) := by decide +kernel
theorem d_L_firstBeginning_75 : decode b_L_firstBeginning 75 = .ok (.ireturn, 1) := by decide +kernel
theorem d_L_beginning_0 : decode b_L_beginning 0 = .ok (.aload_n 0, 1) := by decide +kernel
theorem d_L_beginning_1 : decode b_L_beginning 1 = .ok (.getfield 9, 3) := by decide +kernel
theorem d_L_beginning_4 : decode b_L_beginning 4 = .ok (.getfield 125, 3) := by decide +kernel
theorem d_L_beginning_7 : decode b_L_beginning 7 = .ok (.iload_n 2, 1) := by decide +kernel
theorem d_L_beginning_8 : decode b_L_beginning 8 = .ok (.aaload, 1) := by decide +kernel
theorem d_L_beginning_9 : decode b_L_beginning 9 = .ok (.astore 4, 2) := by decide +kernel
theorem d_L_beginning_11 : decode b_L_beginning 11 = .ok (.aload_n 0, 1) := by decide +kernel
theorem d_L_beginning_12 : decode b_L_beginning 12 = .ok (.getfield 9, 3) := by decide +kernel
theorem d_L_beginning_15 : decode b_L_beginning 15 = .ok (.getfield 115, 3) := by decide +kernel
theorem d_L_beginning_18 : decode b_L_beginning 18 = .ok (.iload_n 3, 1) := by decide +kernel
theorem d_L_beginning_19 : decode b_L_beginning 19 = .ok (.aaload, 1) := by decide +kernel
theorem d_L_beginning_20 : decode b_L_beginning 20 = .ok (.astore 5, 2) := by decide +kernel
theorem d_L_beginning_22 : decode b_L_beginning 22 = .ok (.aload 5, 2) := by decide +kernel
theorem d_L_beginning_24 : decode b_L_beginning 24 = .ok (.getfield 119, 3) := by decide +kernel
theorem d_L_beginning_27 : decode b_L_beginning 27 = .ok (.aload_n 1, 1) := by decide +kernel
theorem d_L_beginning_28 : decode b_L_beginning 28 = .ok (.getfield 124, 3) := by decide +kernel
theorem d_L_beginning_31 : decode b_L_beginning 31 = .ok (.if_icmp .eq 5, 3) := by decide +kernel
theorem d_L_beginning_34 : decode b_L_beginning 34 = .ok (.iconst (-1), 1) := by decide +kernel
theorem d_L_beginning_35 : decode b_L_beginning 35 = .ok (.ireturn, 1) := by decide +kernel
theorem d_L_beginning_36 : decode b_L_beginning 36 = .ok (.aload 4, 2) := by decide +kernel
theorem d_L_beginning_38 : decode b_L_beginning 38 = .ok (.getfield 129, 3) := by decide +kernel
theorem d_L_beginning_41 : decode b_L_beginning 41 = .ok (.aload 5, 2) := by decide +kernel
theorem d_L_beginning_43 : decode b_L_beginning 43 = .ok (.getfield 134, 3) := by decide +kernel
theorem d_L_beginning_46 : decode b_L_beginning 46 = .ok (.invokestatic 135, 3) := by decide +kernel
theorem d_L_beginning_49 : decode b_L_beginning 49 = .ok (.istore 6, 2) := by decide +kernel
theorem d_L_beginning_51 : decode b_L_beginning 51 = .ok (.aload_n 0, 1) := by decide +kernel
theorem d_L_beginning_52 : decode b_L_beginning 52 = .ok (.getfield 17, 3) := by decide +kernel
theorem d_L_beginning_55 : decode b_L_beginning 55 = .ok (.iload_n 3, 1) := by decide +kernel
theorem d_L_beginning_56 : decode b_L_beginning 56 = .ok (.iaload, 1) := by decide +kernel
theorem d_L_beginning_57 : decode b_L_beginning 57 = .ok (.aload_n 0, 1) := by decide +kernel
theorem d_L_beginning_58 : decode b_L_beginning 58 = .ok (.getfield 21, 3) := by decide +kernel
theorem d_L_beginning_61 : decode b_L_beginning 61 = .ok (.aload_n 1, 1) := by decide +kernel
theorem d_L_beginning_62 : decode b_L_beginning 62 = .ok (.getfield 106, 3) := by decide +kernel
theorem d_L_beginning_65 : decode b_L_beginning 65 = .ok (.iaload, 1) := by decide +kernel
theorem d_L_beginning_66 : decode b_L_beginning 66 = .ok (.invokestatic 135, 3) := by decide +kernel
theorem d_L_beginning_69 : decode b_L_beginning 69 = .ok (.istore 7, 2) := by decide +kernel
theorem d_L_beginning_71 : decode b_L_beginning 71 = .ok (.iload 6, 2) := by decide +kernel
theorem d_L_beginning_73 : decode b_L_beginning 73 = .ok (.iload 7, 2) := by decide +kernel
theorem d_L_beginning_75 : decode b_L_beginning 75 = .ok (.invokestatic 135, 3) := by decide +kernel
theorem d_L_beginning_78 : decode b_L_beginning 78 = .ok (.istore 8, 2) := by decide +kernel
theorem d_L_beginning_80 : decode b_L_beginning 80 = .ok (.iload 8, 2) := by decide +kernel
theorem d_L_beginning_82 : decode b_L_beginning 82 = .ok (.aload_n 1, 1) := by decide +kernel
theorem d_L_beginning_83 : decode b_L_beginning 83 = .ok (.getfield 109, 3) := by decide +kernel
theorem d_L_beginning_86 : decode b_L_beginning 86 = .ok (.iadd, 1) := by decide +kernel
theorem d_L_beginning_87 : decode b_L_beginning 87 = .ok (.aload 4, 2) := by decide +kernel
theorem d_L_beginning_89 : decode b_L_beginning 89 = .ok (.getfield 138, 3) := by decide +kernel
theorem d_L_beginning_92 : decode b_L_beginning 92 = .ok (.aload 5, 2) := by decide +kernel
theorem d_L_beginning_94 : decode b_L_beginning 94 = .ok (.getfield 141, 3) := by decide +kernel
theorem d_L_beginning_97 : decode b_L_beginning 97 = .ok (.invokestatic 79, 3) := by decide +kernel
theorem d_L_beginning_100 : decode b_L_beginning 100 = .ok (.if_icmp .gt 8, 3) := by decide +kernel
theorem d_L_beginning_103 : decode b_L_beginning 103 = .ok (.iload 8, 2) := by decide +kernel
theorem d_L_beginning_105 : decode b_L_beginning 105 = .ok (.goto 4, 3) := by decide +kernel
theorem d_L_beginning_108 : decode b_L_beginning 108 = .ok (.iconst (-1), 1) := by decide +kernel
theorem d_L_beginning_109 : decode b_L_beginning 109 = .ok (.ireturn, 1) := by decide +kernel
theorem d_R_init_0 : decode b_R_init 0 = .ok (.aload_n 0, 1) := by decide +kernel
theorem d_R_init_1 : decode b_R_init 1 = .ok (.invokespecial 1, 3) := by decide +kernel
theorem d_R_init_4 : decode b_R_init 4 = .ok (.return_, 1) := by decide +kernel
theorem d_R_isPlaced_0 : decode b_R_isPlaced 0 = .ok (.aload_n 0, 1) := by decide +kernel
theorem d_R_isPlaced_1 : decode b_R_isPlaced 1 = .ok (.getfield 7, 3) := by decide +kernel
theorem d_R_isPlaced_4 : decode b_R_isPlaced 4 = .ok (.iconst (-1), 1) := by decide +kernel
theorem d_R_isPlaced_5 : decode b_R_isPlaced 5 = .ok (.if_icmp .eq 7, 3) := by decide +kernel
theorem d_R_isPlaced_8 : decode b_R_isPlaced 8 = .ok (.iconst 1, 1) := by decide +kernel
theorem d_R_isPlaced_9 : decode b_R_isPlaced 9 = .ok (.goto 4, 3) := by decide +kernel
theorem d_R_isPlaced_12 : decode b_R_isPlaced 12 = .ok (.iconst 0, 1) := by decide +kernel
theorem d_R_isPlaced_13 : decode b_R_isPlaced 13 = .ok (.ireturn, 1) := by decide +kernel
theorem d_R_place_0 : decode b_R_place 0 = .ok (.aload_n 0, 1) := by decide +kernel
theorem d_R_place_1 : decode b_R_place 1 = .ok (.iload_n 1, 1) := by decide +kernel
theorem d_R_place_2 : decode b_R_place 2 = .ok (.putfield 7, 3) := by decide +kernel
theorem d_R_place_5 : decode b_R_place 5 = .ok (.aload_n 0, 1) := by decide +kernel
theorem d_R_place_6 : decode b_R_place 6 = .ok (.iload_n 2, 1) := by decide +kernel
theorem d_R_place_7 : decode b_R_place 7 = .ok (.putfield 13, 3) := by decide +kernel
theorem d_R_place_10 : decode b_R_place 10 = .ok (.aload_n 0, 1) := by decide +kernel
theorem d_R_place_11 : decode b_R_place 11 = .ok (.iload_n 3, 1) := by decide +kernel
theorem d_R_place_12 : decode b_R_place 12 = .ok (.putfield 16, 3) := by decide +kernel
theorem d_R_place_15 : decode b_R_place 15 = .ok (.return_, 1) := by decide +kernel
theorem d_R_unplace_0 : decode b_R_unplace 0 = .ok (.aload_n 0, 1) := by decide +kernel
theorem d_R_unplace_1 : decode b_R_unplace 1 = .ok (.iconst (-1), 1) := by decide +kernel
theorem d_R_unplace_2 : decode b_R_unplace 2 = .ok (.iconst (-1), 1) := by decide +kernel
theorem d_R_unplace_3 : decode b_R_unplace 3 = .ok (.iconst (-1), 1) := by decide +kernel
theorem d_R_unplace_4 : decode b_R_unplace 4 = .ok (.invokevirtual 19, 3) := by decide +kernel
theorem d_R_unplace_7 : decode b_R_unplace 7 = .ok (.return_, 1) := by decide +kernel
theorem d_T_init_0 : decode b_T_init 0 = .ok (.aload_n 0, 1) := by decide +kernel
theorem d_T_init_1 : decode b_T_init 1 = .ok (.invokespecial 1, 3) := by decide +kernel
theorem d_T_init_4 : decode b_T_init 4 = .ok (.aload_n 0, 1) := by decide +kernel
theorem d_T_init_5 : decode b_T_init 5 = .ok (.iconst 5, 1) := by decide +kernel
theorem d_T_init_6 : decode b_T_init 6 = .ok (.newarray .int, 2) := by decide +kernel
theorem d_T_init_8 : decode b_T_init 8 = .ok (.putfield 9, 3) := by decide +kernel
theorem d_T_init_11 : decode b_T_init 11 = .ok (.return_, 1) := by decide +kernel
theorem d_T_begin_0 : decode b_T_begin 0 = .ok (.aload_n 0, 1) := by decide +kernel
theorem d_T_begin_1 : decode b_T_begin 1 = .ok (.iload_n 1, 1) := by decide +kernel
theorem d_T_begin_2 : decode b_T_begin 2 = .ok (.putfield 13, 3) := by decide +kernel
theorem d_T_begin_5 : decode b_T_begin 5 = .ok (.aload_n 0, 1) := by decide +kernel
theorem d_T_begin_6 : decode b_T_begin 6 = .ok (.iload_n 2, 1) := by decide +kernel
theorem d_T_begin_7 : decode b_T_begin 7 = .ok (.putfield 17, 3) := by decide +kernel
theorem d_T_begin_10 : decode b_T_begin 10 = .ok (.aload_n 0, 1) := by decide +kernel
theorem d_T_begin_11 : decode b_T_begin 11 = .ok (.iconst 1, 1) := by decide +kernel
theorem d_T_begin_12 : decode b_T_begin 12 = .ok (.putfield 20, 3) := by decide +kernel
theorem d_T_begin_15 : decode b_T_begin 15 = .ok (.return_, 1) := by decide +kernel
theorem d_T_isBarred_0 : decode b_T_isBarred 0 = .ok (.aload_n 0, 1) := by decide +kernel
theorem d_T_isBarred_1 : decode b_T_isBarred 1 = .ok (.getfield 20, 3) := by decide +kernel
theorem d_T_isBarred_4 : decode b_T_isBarred 4 = .ok (.ifCond .eq 14, 3) := by decide +kernel
theorem d_T_isBarred_7 : decode b_T_isBarred 7 = .ok (.aload_n 0, 1) := by decide +kernel
theorem d_T_isBarred_8 : decode b_T_isBarred 8 = .ok (.getfield 24, 3) := by decide +kernel
theorem d_T_isBarred_11 : decode b_T_isBarred 11 = .ok (.aload_n 0, 1) := by decide +kernel
theorem d_T_isBarred_12 : decode b_T_isBarred 12 = .ok (.getfield 17, 3) := by decide +kernel
theorem d_T_isBarred_15 : decode b_T_isBarred 15 = .ok (.if_icmp .lt 7, 3) := by decide +kernel
theorem d_T_isBarred_18 : decode b_T_isBarred 18 = .ok (.iconst 1, 1) := by decide +kernel
theorem d_T_isBarred_19 : decode b_T_isBarred 19 = .ok (.goto 4, 3) := by decide +kernel
theorem d_T_isBarred_22 : decode b_T_isBarred 22 = .ok (.iconst 0, 1) := by decide +kernel
theorem d_T_isBarred_23 : decode b_T_isBarred 23 = .ok (.ireturn, 1) := by decide +kernel
theorem d_T_unitsToBound_0 : decode b_T_unitsToBound 0 = .ok (.iconst 0, 1) := by decide +kernel
theorem d_T_unitsToBound_1 : decode b_T_unitsToBound 1 = .ok (.aload_n 0, 1) := by decide +kernel
theorem d_T_unitsToBound_2 : decode b_T_unitsToBound 2 = .ok (.getfield 17, 3) := by decide +kernel
theorem d_T_unitsToBound_5 : decode b_T_unitsToBound 5 = .ok (.aload_n 0, 1) := by decide +kernel
theorem d_T_unitsToBound_6 : decode b_T_unitsToBound 6 = .ok (.getfield 24, 3) := by decide +kernel
theorem d_T_unitsToBound_9 : decode b_T_unitsToBound 9 = .ok (.isub, 1) := by decide +kernel
theorem d_T_unitsToBound_10 : decode b_T_unitsToBound 10 = .ok (.invokestatic 27, 3) := by decide +kernel
theorem d_T_unitsToBound_13 : decode b_T_unitsToBound 13 = .ok (.ireturn, 1) := by decide +kernel
theorem d_T_wear_0 : decode b_T_wear 0 = .ok (.aload_n 0, 1) := by decide +kernel
theorem d_T_wear_1 : decode b_T_wear 1 = .ok (.dup, 1) := by decide +kernel
theorem d_T_wear_2 : decode b_T_wear 2 = .ok (.getfield 24, 3) := by decide +kernel
theorem d_T_wear_5 : decode b_T_wear 5 = .ok (.iload_n 1, 1) := by decide +kernel
theorem d_T_wear_6 : decode b_T_wear 6 = .ok (.iadd, 1) := by decide +kernel
theorem d_T_wear_7 : decode b_T_wear 7 = .ok (.putfield 24, 3) := by decide +kernel
theorem d_T_wear_10 : decode b_T_wear 10 = .ok (.aload_n 0, 1) := by decide +kernel
theorem d_T_wear_11 : decode b_T_wear 11 = .ok (.iload_n 1, 1) := by decide +kernel
theorem d_T_wear_12 : decode b_T_wear 12 = .ok (.invokevirtual 33, 3) := by decide +kernel
theorem d_T_wear_15 : decode b_T_wear 15 = .ok (.return_, 1) := by decide +kernel
theorem d_T_mend_0 : decode b_T_mend 0 = .ok (.aload_n 0, 1) := by decide +kernel
theorem d_T_mend_1 : decode b_T_mend 1 = .ok (.iconst 0, 1) := by decide +kernel
theorem d_T_mend_2 : decode b_T_mend 2 = .ok (.putfield 24, 3) := by decide +kernel
theorem d_T_mend_5 : decode b_T_mend 5 = .ok (.aload_n 0, 1) := by decide +kernel
theorem d_T_mend_6 : decode b_T_mend 6 = .ok (.iconst (-1), 1) := by decide +kernel
theorem d_T_mend_7 : decode b_T_mend 7 = .ok (.invokevirtual 33, 3) := by decide +kernel
theorem d_T_mend_10 : decode b_T_mend 10 = .ok (.return_, 1) := by decide +kernel
theorem d_T_setPermit_0 : decode b_T_setPermit 0 = .ok (.aload_n 0, 1) := by decide +kernel
theorem d_T_setPermit_1 : decode b_T_setPermit 1 = .ok (.iload_n 1, 1) := by decide +kernel
theorem d_T_setPermit_2 : decode b_T_setPermit 2 = .ok (.putfield 20, 3) := by decide +kernel
theorem d_T_setPermit_5 : decode b_T_setPermit 5 = .ok (.aload_n 0, 1) := by decide +kernel
theorem d_T_setPermit_6 : decode b_T_setPermit 6 = .ok (.iload_n 1, 1) := by decide +kernel
theorem d_T_setPermit_7 : decode b_T_setPermit 7 = .ok (.ifCond .eq 8, 3) := by decide +kernel
theorem d_T_setPermit_10 : decode b_T_setPermit 10 = .ok (.bipush (-3), 2) := by decide +kernel
theorem d_T_setPermit_12 : decode b_T_setPermit 12 = .ok (.goto 5, 3) := by decide +kernel
theorem d_T_setPermit_15 : decode b_T_setPermit 15 = .ok (.bipush (-2), 2) := by decide +kernel
theorem d_T_setPermit_17 : decode b_T_setPermit 17 = .ok (.invokevirtual 33, 3) := by decide +kernel
theorem d_T_setPermit_20 : decode b_T_setPermit 20 = .ok (.return_, 1) := by decide +kernel
theorem d_T_change_0 : decode b_T_change 0 = .ok (.iload_n 1, 1) := by decide +kernel
theorem d_T_change_1 : decode b_T_change 1 = .ok (.ifCond .lt 17, 3) := by decide +kernel
theorem d_T_change_4 : decode b_T_change 4 = .ok (.iload_n 1, 1) := by decide +kernel
theorem d_T_change_5 : decode b_T_change 5 = .ok (.iconst 5, 1) := by decide +kernel
theorem d_T_change_6 : decode b_T_change 6 = .ok (.if_icmp .ge 12, 3) := by decide +kernel
theorem d_T_change_9 : decode b_T_change 9 = .ok (.aload_n 0, 1) := by decide +kernel
theorem d_T_change_10 : decode b_T_change 10 = .ok (.getfield 9, 3) := by decide +kernel
theorem d_T_change_13 : decode b_T_change 13 = .ok (.iload_n 1, 1) := by decide +kernel
theorem d_T_change_14 : decode b_T_change 14 = .ok (.iaload, 1) := by decide +kernel
theorem d_T_change_15 : decode b_T_change 15 = .ok (.goto 4, 3) := by decide +kernel
theorem d_T_change_18 : decode b_T_change 18 = .ok (.iconst 0, 1) := by decide +kernel
theorem d_T_change_19 : decode b_T_change 19 = .ok (.ireturn, 1) := by decide +kernel
theorem d_T_keep_0 : decode b_T_keep 0 = .ok (.iconst 4, 1) := by decide +kernel
theorem d_T_keep_1 : decode b_T_keep 1 = .ok (.istore_n 2, 1) := by decide +kernel
theorem d_T_keep_2 : decode b_T_keep 2 = .ok (.iload_n 2, 1) := by decide +kernel
theorem d_T_keep_3 : decode b_T_keep 3 = .ok (.ifCond .le 23, 3) := by decide +kernel
theorem d_T_keep_6 : decode b_T_keep 6 = .ok (.aload_n 0, 1) := by decide +kernel
theorem d_T_keep_7 : decode b_T_keep 7 = .ok (.getfield 9, 3) := by decide +kernel
theorem d_T_keep_10 : decode b_T_keep 10 = .ok (.iload_n 2, 1) := by decide +kernel
theorem d_T_keep_11 : decode b_T_keep 11 = .ok (.aload_n 0, 1) := by decide +kernel
theorem d_T_keep_12 : decode b_T_keep 12 = .ok (.getfield 9, 3) := by decide +kernel
theorem d_T_keep_15 : decode b_T_keep 15 = .ok (.iload_n 2, 1) := by decide +kernel
theorem d_T_keep_16 : decode b_T_keep 16 = .ok (.iconst 1, 1) := by decide +kernel
theorem d_T_keep_17 : decode b_T_keep 17 = .ok (.isub, 1) := by decide +kernel
theorem d_T_keep_18 : decode b_T_keep 18 = .ok (.iaload, 1) := by decide +kernel
theorem d_T_keep_19 : decode b_T_keep 19 = .ok (.iastore, 1) := by decide +kernel
theorem d_T_keep_20 : decode b_T_keep 20 = .ok (.iinc 2 (-1), 3) := by decide +kernel
theorem d_T_keep_23 : decode b_T_keep 23 = .ok (.goto (-21), 3) := by decide +kernel
theorem d_T_keep_26 : decode b_T_keep 26 = .ok (.aload_n 0, 1) := by decide +kernel
theorem d_T_keep_27 : decode b_T_keep 27 = .ok (.getfield 9, 3) := by decide +kernel
theorem d_T_keep_30 : decode b_T_keep 30 = .ok (.iconst 0, 1) := by decide +kernel
theorem d_T_keep_31 : decode b_T_keep 31 = .ok (.iload_n 1, 1) := by decide +kernel
theorem d_T_keep_32 : decode b_T_keep 32 = .ok (.iastore, 1) := by decide +kernel
theorem d_T_keep_33 : decode b_T_keep 33 = .ok (.return_, 1) := by decide +kernel
theorem d_K_init_0 : decode b_K_init 0 = .ok (.aload_n 0, 1) := by decide +kernel
theorem d_K_init_1 : decode b_K_init 1 = .ok (.invokespecial 1, 3) := by decide +kernel
theorem d_K_init_4 : decode b_K_init 4 = .ok (.aload_n 0, 1) := by decide +kernel
theorem d_K_init_5 : decode b_K_init 5 = .ok (.bipush 6, 2) := by decide +kernel
theorem d_K_init_7 : decode b_K_init 7 = .ok (.anewarray 9, 3) := by decide +kernel
theorem d_K_init_10 : decode b_K_init 10 = .ok (.putfield 11, 3) := by decide +kernel
theorem d_K_init_13 : decode b_K_init 13 = .ok (.iconst 0, 1) := by decide +kernel
theorem d_K_init_14 : decode b_K_init 14 = .ok (.istore_n 1, 1) := by decide +kernel
theorem d_K_init_15 : decode b_K_init 15 = .ok (.iload_n 1, 1) := by decide +kernel
theorem d_K_init_16 : decode b_K_init 16 = .ok (.bipush 6, 2) := by decide +kernel
theorem d_K_init_18 : decode b_K_init 18 = .ok (.if_icmp .ge 22, 3) := by decide +kernel
theorem d_K_init_21 : decode b_K_init 21 = .ok (.aload_n 0, 1) := by decide +kernel
theorem d_K_init_22 : decode b_K_init 22 = .ok (.getfield 11, 3) := by decide +kernel
theorem d_K_init_25 : decode b_K_init 25 = .ok (.iload_n 1, 1) := by decide +kernel
theorem d_K_init_26 : decode b_K_init 26 = .ok (.new 9, 3) := by decide +kernel
theorem d_K_init_29 : decode b_K_init 29 = .ok (.dup, 1) := by decide +kernel
theorem d_K_init_30 : decode b_K_init 30 = .ok (.invokespecial 15, 3) := by decide +kernel
theorem d_K_init_33 : decode b_K_init 33 = .ok (.aastore, 1) := by decide +kernel
theorem d_K_init_34 : decode b_K_init 34 = .ok (.iinc 1 1, 3) := by decide +kernel
theorem d_K_init_37 : decode b_K_init 37 = .ok (.goto (-22), 3) := by decide +kernel
theorem d_K_init_40 : decode b_K_init 40 = .ok (.aload_n 0, 1) := by decide +kernel
theorem d_K_init_41 : decode b_K_init 41 = .ok (.iconst 4, 1) := by decide +kernel
theorem d_K_init_42 : decode b_K_init 42 = .ok (.anewarray 16, 3) := by decide +kernel
theorem d_K_init_45 : decode b_K_init 45 = .ok (.putfield 18, 3) := by decide +kernel
theorem d_K_init_48 : decode b_K_init 48 = .ok (.iconst 0, 1) := by decide +kernel
theorem d_K_init_49 : decode b_K_init 49 = .ok (.istore_n 1, 1) := by decide +kernel
theorem d_K_init_50 : decode b_K_init 50 = .ok (.iload_n 1, 1) := by decide +kernel
theorem d_K_init_51 : decode b_K_init 51 = .ok (.iconst 4, 1) := by decide +kernel
theorem d_K_init_52 : decode b_K_init 52 = .ok (.if_icmp .ge 22, 3) := by decide +kernel
theorem d_K_init_55 : decode b_K_init 55 = .ok (.aload_n 0, 1) := by decide +kernel
theorem d_K_init_56 : decode b_K_init 56 = .ok (.getfield 18, 3) := by decide +kernel
theorem d_K_init_59 : decode b_K_init 59 = .ok (.iload_n 1, 1) := by decide +kernel
theorem d_K_init_60 : decode b_K_init 60 = .ok (.new 16, 3) := by decide +kernel
theorem d_K_init_63 : decode b_K_init 63 = .ok (.dup, 1) := by decide +kernel
theorem d_K_init_64 : decode b_K_init 64 = .ok (.invokespecial 22, 3) := by decide +kernel
theorem d_K_init_67 : decode b_K_init 67 = .ok (.aastore, 1) := by decide +kernel
theorem d_K_init_68 : decode b_K_init 68 = .ok (.iinc 1 1, 3) := by decide +kernel
theorem d_K_init_71 : decode b_K_init 71 = .ok (.goto (-21), 3) := by decide +kernel
theorem d_K_init_74 : decode b_K_init 74 = .ok (.aload_n 0, 1) := by decide +kernel
theorem d_K_init_75 : decode b_K_init 75 = .ok (.iconst 5, 1) := by decide +kernel
theorem d_K_init_76 : decode b_K_init 76 = .ok (.anewarray 23, 3) := by decide +kernel
theorem d_K_init_79 : decode b_K_init 79 = .ok (.putfield 25, 3) := by decide +kernel
theorem d_K_init_82 : decode b_K_init 82 = .ok (.iconst 0, 1) := by decide +kernel
theorem d_K_init_83 : decode b_K_init 83 = .ok (.istore_n 1, 1) := by decide +kernel
theorem d_K_init_84 : decode b_K_init 84 = .ok (.iload_n 1, 1) := by decide +kernel
theorem d_K_init_85 : decode b_K_init 85 = .ok (.iconst 5, 1) := by decide +kernel
theorem d_K_init_86 : decode b_K_init 86 = .ok (.if_icmp .ge 22, 3) := by decide +kernel
theorem d_K_init_89 : decode b_K_init 89 = .ok (.aload_n 0, 1) := by decide +kernel
theorem d_K_init_90 : decode b_K_init 90 = .ok (.getfield 25, 3) := by decide +kernel
theorem d_K_init_93 : decode b_K_init 93 = .ok (.iload_n 1, 1) := by decide +kernel
theorem d_K_init_94 : decode b_K_init 94 = .ok (.new 23, 3) := by decide +kernel
theorem d_K_init_97 : decode b_K_init 97 = .ok (.dup, 1) := by decide +kernel
theorem d_K_init_98 : decode b_K_init 98 = .ok (.invokespecial 29, 3) := by decide +kernel
theorem d_K_init_101 : decode b_K_init 101 = .ok (.aastore, 1) := by decide +kernel
theorem d_K_init_102 : decode b_K_init 102 = .ok (.iinc 1 1, 3) := by decide +kernel
theorem d_K_init_105 : decode b_K_init 105 = .ok (.goto (-21), 3) := by decide +kernel
theorem d_K_init_108 : decode b_K_init 108 = .ok (.aload_n 0, 1) := by decide +kernel
theorem d_K_init_109 : decode b_K_init 109 = .ok (.bipush 8, 2) := by decide +kernel
theorem d_K_init_111 : decode b_K_init 111 = .ok (.putfield 30, 3) := by decide +kernel
theorem d_K_init_114 : decode b_K_init 114 = .ok (.aload_n 0, 1) := by decide +kernel
theorem d_K_init_115 : decode b_K_init 115 = .ok (.sipush 1000, 3) := by decide +kernel
theorem d_K_init_118 : decode b_K_init 118 = .ok (.putfield 34, 3) := by decide +kernel
theorem d_K_init_121 : decode b_K_init 121 = .ok (.return_, 1) := by decide +kernel
theorem d_K_addGap_0 : decode b_K_addGap 0 = .ok (.aload_n 0, 1) := by decide +kernel
theorem d_K_addGap_1 : decode b_K_addGap 1 = .ok (.getfield 37, 3) := by decide +kernel
theorem d_K_addGap_4 : decode b_K_addGap 4 = .ok (.bipush 6, 2) := by decide +kernel
theorem d_K_addGap_6 : decode b_K_addGap 6 = .ok (.if_icmp .ge 33, 3) := by decide +kernel
theorem d_K_addGap_9 : decode b_K_addGap 9 = .ok (.aload_n 0, 1) := by decide +kernel
theorem d_K_addGap_10 : decode b_K_addGap 10 = .ok (.getfield 11, 3) := by decide +kernel
theorem d_K_addGap_13 : decode b_K_addGap 13 = .ok (.aload_n 0, 1) := by decide +kernel
theorem d_K_addGap_14 : decode b_K_addGap 14 = .ok (.getfield 37, 3) := by decide +kernel
theorem d_K_addGap_17 : decode b_K_addGap 17 = .ok (.aaload, 1) := by decide +kernel
theorem d_K_addGap_18 : decode b_K_addGap 18 = .ok (.astore_n 3, 1) := by decide +kernel
theorem d_K_addGap_19 : decode b_K_addGap 19 = .ok (.aload_n 3, 1) := by decide +kernel
theorem d_K_addGap_20 : decode b_K_addGap 20 = .ok (.iload_n 1, 1) := by decide +kernel
theorem d_K_addGap_21 : decode b_K_addGap 21 = .ok (.putfield 40, 3) := by decide +kernel
theorem d_K_addGap_24 : decode b_K_addGap 24 = .ok (.aload_n 3, 1) := by decide +kernel
theorem d_K_addGap_25 : decode b_K_addGap 25 = .ok (.iload_n 2, 1) := by decide +kernel
theorem d_K_addGap_26 : decode b_K_addGap 26 = .ok (.putfield 43, 3) := by decide +kernel
theorem d_K_addGap_29 : decode b_K_addGap 29 = .ok (.aload_n 0, 1) := by decide +kernel
theorem d_K_addGap_30 : decode b_K_addGap 30 = .ok (.dup, 1) := by decide +kernel
theorem d_K_addGap_31 : decode b_K_addGap 31 = .ok (.getfield 37, 3) := by decide +kernel
theorem d_K_addGap_34 : decode b_K_addGap 34 = .ok (.iconst 1, 1) := by decide +kernel
theorem d_K_addGap_35 : decode b_K_addGap 35 = .ok (.iadd, 1) := by decide +kernel
theorem d_K_addGap_36 : decode b_K_addGap 36 = .ok (.putfield 37, 3) := by decide +kernel
theorem d_K_addGap_39 : decode b_K_addGap 39 = .ok (.return_, 1) := by decide +kernel
theorem d_K_addPerson_0 : decode b_K_addPerson 0 = .ok (.aload_n 0, 1) := by decide +kernel
theorem d_K_addPerson_1 : decode b_K_addPerson 1 = .ok (.getfield 46, 3) := by decide +kernel
theorem d_K_addPerson_4 : decode b_K_addPerson 4 = .ok (.iconst 4, 1) := by decide +kernel
theorem d_K_addPerson_5 : decode b_K_addPerson 5 = .ok (.if_icmp .ge 42, 3) := by decide +kernel
theorem d_K_addPerson_8 : decode b_K_addPerson 8 = .ok (.aload_n 0, 1) := by decide +kernel
theorem d_K_addPerson_9 : decode b_K_addPerson 9 = .ok (.getfield 18, 3) := by decide +kernel
theorem d_K_addPerson_12 : decode b_K_addPerson 12 = .ok (.aload_n 0, 1) := by decide +kernel
theorem d_K_addPerson_13 : decode b_K_addPerson 13 = .ok (.getfield 46, 3) := by decide +kernel
theorem d_K_addPerson_16 : decode b_K_addPerson 16 = .ok (.aaload, 1) := by decide +kernel
theorem d_K_addPerson_17 : decode b_K_addPerson 17 = .ok (.astore 4, 2) := by decide +kernel
theorem d_K_addPerson_19 : decode b_K_addPerson 19 = .ok (.aload 4, 2) := by decide +kernel
theorem d_K_addPerson_21 : decode b_K_addPerson 21 = .ok (.iload_n 1, 1) := by decide +kernel
theorem d_K_addPerson_22 : decode b_K_addPerson 22 = .ok (.putfield 49, 3) := by decide +kernel
theorem d_K_addPerson_25 : decode b_K_addPerson 25 = .ok (.aload 4, 2) := by decide +kernel
theorem d_K_addPerson_27 : decode b_K_addPerson 27 = .ok (.iload_n 2, 1) := by decide +kernel
theorem d_K_addPerson_28 : decode b_K_addPerson 28 = .ok (.putfield 52, 3) := by decide +kernel
theorem d_K_addPerson_31 : decode b_K_addPerson 31 = .ok (.aload 4, 2) := by decide +kernel
theorem d_K_addPerson_33 : decode b_K_addPerson 33 = .ok (.iload_n 3, 1) := by decide +kernel
theorem d_K_addPerson_34 : decode b_K_addPerson 34 = .ok (.putfield 53, 3) := by decide +kernel
theorem d_K_addPerson_37 : decode b_K_addPerson 37 = .ok (.aload_n 0, 1) := by decide +kernel
theorem d_K_addPerson_38 : decode b_K_addPerson 38 = .ok (.dup, 1) := by decide +kernel
theorem d_K_addPerson_39 : decode b_K_addPerson 39 = .ok (.getfield 46, 3) := by decide +kernel
theorem d_K_addPerson_42 : decode b_K_addPerson 42 = .ok (.iconst 1, 1) := by decide +kernel
theorem d_K_addPerson_43 : decode b_K_addPerson 43 = .ok (.iadd, 1) := by decide +kernel
theorem d_K_addPerson_44 : decode b_K_addPerson 44 = .ok (.putfield 46, 3) := by decide +kernel
theorem d_K_addPerson_47 : decode b_K_addPerson 47 = .ok (.return_, 1) := by decide +kernel
theorem d_K_addRepair_0 : decode b_K_addRepair 0 = .ok (.aload_n 0, 1) := by decide +kernel
theorem d_K_addRepair_1 : decode b_K_addRepair 1 = .ok (.getfield 54, 3) := by decide +kernel
theorem d_K_addRepair_4 : decode b_K_addRepair 4 = .ok (.iconst 5, 1) := by decide +kernel
theorem d_K_addRepair_5 : decode b_K_addRepair 5 = .ok (.if_icmp .ge 54, 3) := by decide +kernel
theorem d_K_addRepair_8 : decode b_K_addRepair 8 = .ok (.aload_n 0, 1) := by decide +kernel
theorem d_K_addRepair_9 : decode b_K_addRepair 9 = .ok (.getfield 25, 3) := by decide +kernel
theorem d_K_addRepair_12 : decode b_K_addRepair 12 = .ok (.aload_n 0, 1) := by decide +kernel
theorem d_K_addRepair_13 : decode b_K_addRepair 13 = .ok (.getfield 54, 3) := by decide +kernel
theorem d_K_addRepair_16 : decode b_K_addRepair 16 = .ok (.aaload, 1) := by decide +kernel
theorem d_K_addRepair_17 : decode b_K_addRepair 17 = .ok (.astore 5, 2) := by decide +kernel
theorem d_K_addRepair_19 : decode b_K_addRepair 19 = .ok (.aload 5, 2) := by decide +kernel
theorem d_K_addRepair_21 : decode b_K_addRepair 21 = .ok (.iload_n 1, 1) := by decide +kernel
theorem d_K_addRepair_22 : decode b_K_addRepair 22 = .ok (.putfield 57, 3) := by decide +kernel
theorem d_K_addRepair_25 : decode b_K_addRepair 25 = .ok (.aload 5, 2) := by decide +kernel
theorem d_K_addRepair_27 : decode b_K_addRepair 27 = .ok (.iload_n 2, 1) := by decide +kernel
theorem d_K_addRepair_28 : decode b_K_addRepair 28 = .ok (.putfield 60, 3) := by decide +kernel
theorem d_K_addRepair_31 : decode b_K_addRepair 31 = .ok (.aload 5, 2) := by decide +kernel
theorem d_K_addRepair_33 : decode b_K_addRepair 33 = .ok (.iload_n 3, 1) := by decide +kernel
theorem d_K_addRepair_34 : decode b_K_addRepair 34 = .ok (.putfield 63, 3) := by decide +kernel
theorem d_K_addRepair_37 : decode b_K_addRepair 37 = .ok (.aload 5, 2) := by decide +kernel
theorem d_K_addRepair_39 : decode b_K_addRepair 39 = .ok (.iload 4, 2) := by decide +kernel
theorem d_K_addRepair_41 : decode b_K_addRepair 41 = .ok (.putfield 64, 3) := by decide +kernel
theorem d_K_addRepair_44 : decode b_K_addRepair 44 = .ok (.aload 5, 2) := by decide +kernel
theorem d_K_addRepair_46 : decode b_K_addRepair 46 = .ok (.invokevirtual 67, 3) := by decide +kernel
theorem d_K_addRepair_49 : decode b_K_addRepair 49 = .ok (.aload_n 0, 1) := by decide +kernel
theorem d_K_addRepair_50 : decode b_K_addRepair 50 = .ok (.dup, 1) := by decide +kernel
theorem d_K_addRepair_51 : decode b_K_addRepair 51 = .ok (.getfield 54, 3) := by decide +kernel
theorem d_K_addRepair_54 : decode b_K_addRepair 54 = .ok (.iconst 1, 1) := by decide +kernel
theorem d_K_addRepair_55 : decode b_K_addRepair 55 = .ok (.iadd, 1) := by decide +kernel
theorem d_K_addRepair_56 : decode b_K_addRepair 56 = .ok (.putfield 54, 3) := by decide +kernel
theorem d_K_addRepair_59 : decode b_K_addRepair 59 = .ok (.return_, 1) := by decide +kernel
theorem d_K_costUnplaced_0 : decode b_K_costUnplaced 0 = .ok (.aload_n 1, 1) := by decide +kernel
theorem d_K_costUnplaced_1 : decode b_K_costUnplaced 1 = .ok (.getfield 64, 3) := by decide +kernel
theorem d_K_costUnplaced_4 : decode b_K_costUnplaced 4 = .ok (.sipush 168, 3) := by decide +kernel
theorem d_K_costUnplaced_7 : decode b_K_costUnplaced 7 = .ok (.imul, 1) := by decide +kernel
theorem d_K_costUnplaced_8 : decode b_K_costUnplaced 8 = .ok (.aload_n 0, 1) := by decide +kernel
theorem d_K_costUnplaced_9 : decode b_K_costUnplaced 9 = .ok (.getfield 34, 3) := by decide +kernel
theorem d_K_costUnplaced_12 : decode b_K_costUnplaced 12 = .ok (.iadd, 1) := by decide +kernel
theorem d_K_costUnplaced_13 : decode b_K_costUnplaced 13 = .ok (.ireturn, 1) := by decide +kernel
