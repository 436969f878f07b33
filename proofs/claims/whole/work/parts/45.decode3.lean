/-! what each instruction is (printed by program) -/
theorem d_Z_thing_0 : decode b_Z_thing 0 = .ok (.aload_n 3, 1) := by decide +kernel
theorem d_Z_thing_1 : decode b_Z_thing 1 = .ok (.iconst 0, 1) := by decide +kernel
theorem d_Z_thing_2 : decode b_Z_thing 2 = .ok (.aload_n 0, 1) := by decide +kernel
theorem d_Z_thing_3 : decode b_Z_thing 3 = .ok (.iload_n 1, 1) := by decide +kernel
theorem d_Z_thing_4 : decode b_Z_thing 4 = .ok (.iload_n 2, 1) := by decide +kernel
theorem d_Z_thing_5 : decode b_Z_thing 5 = .ok (.invokevirtual 7, 3) := by decide +kernel
theorem d_Z_thing_8 : decode b_Z_thing 8 = .ok (.i2l, 1) := by decide +kernel
theorem d_Z_thing_9 : decode b_Z_thing 9 = .ok (.lastore, 1) := by decide +kernel
theorem d_Z_thing_10 : decode b_Z_thing 10 = .ok (.goto 11, 3) := by decide +kernel
theorem d_Z_thing_13 : decode b_Z_thing 13 = .ok (.astore 4, 2) := by decide +kernel
theorem d_Z_thing_15 : decode b_Z_thing 15 = .ok (.iconst 1, 1) := by decide +kernel
theorem d_Z_thing_16 : decode b_Z_thing 16 = .ok (.ireturn, 1) := by decide +kernel
theorem d_Z_thing_17 : decode b_Z_thing 17 = .ok (.astore 4, 2) := by decide +kernel
theorem d_Z_thing_19 : decode b_Z_thing 19 = .ok (.iconst 2, 1) := by decide +kernel
theorem d_Z_thing_20 : decode b_Z_thing 20 = .ok (.ireturn, 1) := by decide +kernel
theorem d_Z_thing_21 : decode b_Z_thing 21 = .ok (.iconst 0, 1) := by decide +kernel
theorem d_Z_thing_22 : decode b_Z_thing 22 = .ok (.ireturn, 1) := by decide +kernel
theorem d_Z_use_0 : decode b_Z_use 0 = .ok (.aload_n 3, 1) := by decide +kernel
theorem d_Z_use_1 : decode b_Z_use 1 = .ok (.iconst 0, 1) := by decide +kernel
theorem d_Z_use_2 : decode b_Z_use 2 = .ok (.aload_n 0, 1) := by decide +kernel
theorem d_Z_use_3 : decode b_Z_use 3 = .ok (.iload_n 1, 1) := by decide +kernel
theorem d_Z_use_4 : decode b_Z_use 4 = .ok (.iload_n 2, 1) := by decide +kernel
theorem d_Z_use_5 : decode b_Z_use 5 = .ok (.invokevirtual 17, 3) := by decide +kernel
theorem d_Z_use_8 : decode b_Z_use 8 = .ok (.i2l, 1) := by decide +kernel
theorem d_Z_use_9 : decode b_Z_use 9 = .ok (.lastore, 1) := by decide +kernel
theorem d_Z_use_10 : decode b_Z_use 10 = .ok (.goto 15, 3) := by decide +kernel
theorem d_Z_use_13 : decode b_Z_use 13 = .ok (.astore 4, 2) := by decide +kernel
theorem d_Z_use_15 : decode b_Z_use 15 = .ok (.iconst 1, 1) := by decide +kernel
theorem d_Z_use_16 : decode b_Z_use 16 = .ok (.ireturn, 1) := by decide +kernel
theorem d_Z_use_17 : decode b_Z_use 17 = .ok (.astore 4, 2) := by decide +kernel
theorem d_Z_use_19 : decode b_Z_use 19 = .ok (.iconst 2, 1) := by decide +kernel
theorem d_Z_use_20 : decode b_Z_use 20 = .ok (.ireturn, 1) := by decide +kernel
theorem d_Z_use_21 : decode b_Z_use 21 = .ok (.astore 4, 2) := by decide +kernel
theorem d_Z_use_23 : decode b_Z_use 23 = .ok (.iconst 3, 1) := by decide +kernel
theorem d_Z_use_24 : decode b_Z_use 24 = .ok (.ireturn, 1) := by decide +kernel
theorem d_Z_use_25 : decode b_Z_use 25 = .ok (.iconst 0, 1) := by decide +kernel
theorem d_Z_use_26 : decode b_Z_use 26 = .ok (.ireturn, 1) := by decide +kernel
theorem d_Z_told_0 : decode b_Z_told 0 = .ok (.aload_n 3, 1) := by decide +kernel
theorem d_Z_told_1 : decode b_Z_told 1 = .ok (.iconst 0, 1) := by decide +kernel
theorem d_Z_told_2 : decode b_Z_told 2 = .ok (.aload_n 0, 1) := by decide +kernel
theorem d_Z_told_3 : decode b_Z_told 3 = .ok (.iload_n 1, 1) := by decide +kernel
theorem d_Z_told_4 : decode b_Z_told 4 = .ok (.iload_n 2, 1) := by decide +kernel
theorem d_Z_told_5 : decode b_Z_told 5 = .ok (.invokevirtual 24, 3) := by decide +kernel
theorem d_Z_told_8 : decode b_Z_told 8 = .ok (.i2l, 1) := by decide +kernel
theorem d_Z_told_9 : decode b_Z_told 9 = .ok (.lastore, 1) := by decide +kernel
theorem d_Z_told_10 : decode b_Z_told 10 = .ok (.goto 7, 3) := by decide +kernel
theorem d_Z_told_13 : decode b_Z_told 13 = .ok (.astore 4, 2) := by decide +kernel
theorem d_Z_told_15 : decode b_Z_told 15 = .ok (.iconst 1, 1) := by decide +kernel
theorem d_Z_told_16 : decode b_Z_told 16 = .ok (.ireturn, 1) := by decide +kernel
theorem d_Z_told_17 : decode b_Z_told 17 = .ok (.iconst 0, 1) := by decide +kernel
theorem d_Z_told_18 : decode b_Z_told 18 = .ok (.ireturn, 1) := by decide +kernel
theorem d_Z_left_0 : decode b_Z_left 0 = .ok (.aload_n 3, 1) := by decide +kernel
theorem d_Z_left_1 : decode b_Z_left 1 = .ok (.iconst 0, 1) := by decide +kernel
theorem d_Z_left_2 : decode b_Z_left 2 = .ok (.aload_n 0, 1) := by decide +kernel
theorem d_Z_left_3 : decode b_Z_left 3 = .ok (.iload_n 1, 1) := by decide +kernel
theorem d_Z_left_4 : decode b_Z_left 4 = .ok (.iload_n 2, 1) := by decide +kernel
theorem d_Z_left_5 : decode b_Z_left 5 = .ok (.invokevirtual 27, 3) := by decide +kernel
theorem d_Z_left_8 : decode b_Z_left 8 = .ok (.i2l, 1) := by decide +kernel
theorem d_Z_left_9 : decode b_Z_left 9 = .ok (.lastore, 1) := by decide +kernel
theorem d_Z_left_10 : decode b_Z_left 10 = .ok (.goto 11, 3) := by decide +kernel
theorem d_Z_left_13 : decode b_Z_left 13 = .ok (.astore 4, 2) := by decide +kernel
theorem d_Z_left_15 : decode b_Z_left 15 = .ok (.iconst 1, 1) := by decide +kernel
theorem d_Z_left_16 : decode b_Z_left 16 = .ok (.ireturn, 1) := by decide +kernel
theorem d_Z_left_17 : decode b_Z_left 17 = .ok (.astore 4, 2) := by decide +kernel
theorem d_Z_left_19 : decode b_Z_left 19 = .ok (.iconst 2, 1) := by decide +kernel
theorem d_Z_left_20 : decode b_Z_left 20 = .ok (.ireturn, 1) := by decide +kernel
theorem d_Z_left_21 : decode b_Z_left 21 = .ok (.iconst 0, 1) := by decide +kernel
theorem d_Z_left_22 : decode b_Z_left 22 = .ok (.ireturn, 1) := by decide +kernel
theorem d_Z_permit_0 : decode b_Z_permit 0 = .ok (.aload_n 0, 1) := by decide +kernel
theorem d_Z_permit_1 : decode b_Z_permit 1 = .ok (.iload_n 1, 1) := by decide +kernel
theorem d_Z_permit_2 : decode b_Z_permit 2 = .ok (.iload_n 2, 1) := by decide +kernel
theorem d_Z_permit_3 : decode b_Z_permit 3 = .ok (.invokevirtual 30, 3) := by decide +kernel
theorem d_Z_permit_6 : decode b_Z_permit 6 = .ok (.goto 9, 3) := by decide +kernel
theorem d_Z_permit_9 : decode b_Z_permit 9 = .ok (.astore_n 3, 1) := by decide +kernel
theorem d_Z_permit_10 : decode b_Z_permit 10 = .ok (.iconst 1, 1) := by decide +kernel
theorem d_Z_permit_11 : decode b_Z_permit 11 = .ok (.ireturn, 1) := by decide +kernel
theorem d_Z_permit_12 : decode b_Z_permit 12 = .ok (.astore_n 3, 1) := by decide +kernel
theorem d_Z_permit_13 : decode b_Z_permit 13 = .ok (.iconst 2, 1) := by decide +kernel
theorem d_Z_permit_14 : decode b_Z_permit 14 = .ok (.ireturn, 1) := by decide +kernel
theorem d_Z_permit_15 : decode b_Z_permit 15 = .ok (.iconst 0, 1) := by decide +kernel
theorem d_Z_permit_16 : decode b_Z_permit 16 = .ok (.ireturn, 1) := by decide +kernel
theorem d_Z_history_0 : decode b_Z_history 0 = .ok (.aload_n 3, 1) := by decide +kernel
theorem d_Z_history_1 : decode b_Z_history 1 = .ok (.iconst 0, 1) := by decide +kernel
theorem d_Z_history_2 : decode b_Z_history 2 = .ok (.aload_n 0, 1) := by decide +kernel
theorem d_Z_history_3 : decode b_Z_history 3 = .ok (.iload_n 1, 1) := by decide +kernel
theorem d_Z_history_4 : decode b_Z_history 4 = .ok (.iload_n 2, 1) := by decide +kernel
theorem d_Z_history_5 : decode b_Z_history 5 = .ok (.invokevirtual 34, 3) := by decide +kernel
theorem d_Z_history_8 : decode b_Z_history 8 = .ok (.i2l, 1) := by decide +kernel
theorem d_Z_history_9 : decode b_Z_history 9 = .ok (.lastore, 1) := by decide +kernel
theorem d_Z_history_10 : decode b_Z_history 10 = .ok (.goto 7, 3) := by decide +kernel
theorem d_Z_history_13 : decode b_Z_history 13 = .ok (.astore 4, 2) := by decide +kernel
theorem d_Z_history_15 : decode b_Z_history 15 = .ok (.iconst 1, 1) := by decide +kernel
theorem d_Z_history_16 : decode b_Z_history 16 = .ok (.ireturn, 1) := by decide +kernel
theorem d_Z_history_17 : decode b_Z_history 17 = .ok (.iconst 0, 1) := by decide +kernel
theorem d_Z_history_18 : decode b_Z_history 18 = .ok (.ireturn, 1) := by decide +kernel
theorem d_Z_gap_0 : decode b_Z_gap 0 = .ok (.aload_n 3, 1) := by decide +kernel
theorem d_Z_gap_1 : decode b_Z_gap 1 = .ok (.iconst 0, 1) := by decide +kernel
theorem d_Z_gap_2 : decode b_Z_gap 2 = .ok (.aload_n 0, 1) := by decide +kernel
theorem d_Z_gap_3 : decode b_Z_gap 3 = .ok (.iload_n 1, 1) := by decide +kernel
theorem d_Z_gap_4 : decode b_Z_gap 4 = .ok (.iload_n 2, 1) := by decide +kernel
theorem d_Z_gap_5 : decode b_Z_gap 5 = .ok (.invokevirtual 37, 3) := by decide +kernel
theorem d_Z_gap_8 : decode b_Z_gap 8 = .ok (.i2l, 1) := by decide +kernel
theorem d_Z_gap_9 : decode b_Z_gap 9 = .ok (.lastore, 1) := by decide +kernel
theorem d_Z_gap_10 : decode b_Z_gap 10 = .ok (.goto 11, 3) := by decide +kernel
theorem d_Z_gap_13 : decode b_Z_gap 13 = .ok (.astore 4, 2) := by decide +kernel
theorem d_Z_gap_15 : decode b_Z_gap 15 = .ok (.iconst 1, 1) := by decide +kernel
theorem d_Z_gap_16 : decode b_Z_gap 16 = .ok (.ireturn, 1) := by decide +kernel
theorem d_Z_gap_17 : decode b_Z_gap 17 = .ok (.astore 4, 2) := by decide +kernel
theorem d_Z_gap_19 : decode b_Z_gap 19 = .ok (.iconst 2, 1) := by decide +kernel
theorem d_Z_gap_20 : decode b_Z_gap 20 = .ok (.ireturn, 1) := by decide +kernel
theorem d_Z_gap_21 : decode b_Z_gap 21 = .ok (.iconst 0, 1) := by decide +kernel
theorem d_Z_gap_22 : decode b_Z_gap 22 = .ok (.ireturn, 1) := by decide +kernel
theorem d_Z_person_0 : decode b_Z_person 0 = .ok (.aload 4, 2) := by decide +kernel
theorem d_Z_person_2 : decode b_Z_person 2 = .ok (.iconst 0, 1) := by decide +kernel
theorem d_Z_person_3 : decode b_Z_person 3 = .ok (.aload_n 0, 1) := by decide +kernel
theorem d_Z_person_4 : decode b_Z_person 4 = .ok (.iload_n 1, 1) := by decide +kernel
theorem d_Z_person_5 : decode b_Z_person 5 = .ok (.iload_n 2, 1) := by decide +kernel
theorem d_Z_person_6 : decode b_Z_person 6 = .ok (.iload_n 3, 1) := by decide +kernel
theorem d_Z_person_7 : decode b_Z_person 7 = .ok (.invokevirtual 40, 3) := by decide +kernel
theorem d_Z_person_10 : decode b_Z_person 10 = .ok (.i2l, 1) := by decide +kernel
theorem d_Z_person_11 : decode b_Z_person 11 = .ok (.lastore, 1) := by decide +kernel
theorem d_Z_person_12 : decode b_Z_person 12 = .ok (.goto 11, 3) := by decide +kernel
theorem d_Z_person_15 : decode b_Z_person 15 = .ok (.astore 5, 2) := by decide +kernel
theorem d_Z_person_17 : decode b_Z_person 17 = .ok (.iconst 1, 1) := by decide +kernel
theorem d_Z_person_18 : decode b_Z_person 18 = .ok (.ireturn, 1) := by decide +kernel
theorem d_Z_person_19 : decode b_Z_person 19 = .ok (.astore 5, 2) := by decide +kernel
theorem d_Z_person_21 : decode b_Z_person 21 = .ok (.iconst 2, 1) := by decide +kernel
theorem d_Z_person_22 : decode b_Z_person 22 = .ok (.ireturn, 1) := by decide +kernel
theorem d_Z_person_23 : decode b_Z_person 23 = .ok (.iconst 0, 1) := by decide +kernel
theorem d_Z_person_24 : decode b_Z_person 24 = .ok (.ireturn, 1) := by decide +kernel
theorem d_Z_repair_0 : decode b_Z_repair 0 = .ok (.aload 5, 2) := by decide +kernel
theorem d_Z_repair_2 : decode b_Z_repair 2 = .ok (.iconst 0, 1) := by decide +kernel
theorem d_Z_repair_3 : decode b_Z_repair 3 = .ok (.aload_n 0, 1) := by decide +kernel
theorem d_Z_repair_4 : decode b_Z_repair 4 = .ok (.iload_n 1, 1) := by decide +kernel
theorem d_Z_repair_5 : decode b_Z_repair 5 = .ok (.iload_n 2, 1) := by decide +kernel
theorem d_Z_repair_6 : decode b_Z_repair 6 = .ok (.iload_n 3, 1) := by decide +kernel
theorem d_Z_repair_7 : decode b_Z_repair 7 = .ok (.iload 4, 2) := by decide +kernel
theorem d_Z_repair_9 : decode b_Z_repair 9 = .ok (.invokevirtual 44, 3) := by decide +kernel
theorem d_Z_repair_12 : decode b_Z_repair 12 = .ok (.i2l, 1) := by decide +kernel
theorem d_Z_repair_13 : decode b_Z_repair 13 = .ok (.lastore, 1) := by decide +kernel
theorem d_Z_repair_14 : decode b_Z_repair 14 = .ok (.goto 15, 3) := by decide +kernel
theorem d_Z_repair_17 : decode b_Z_repair 17 = .ok (.astore 6, 2) := by decide +kernel
theorem d_Z_repair_19 : decode b_Z_repair 19 = .ok (.iconst 1, 1) := by decide +kernel
theorem d_Z_repair_20 : decode b_Z_repair 20 = .ok (.ireturn, 1) := by decide +kernel
theorem d_Z_repair_21 : decode b_Z_repair 21 = .ok (.astore 6, 2) := by decide +kernel
theorem d_Z_repair_23 : decode b_Z_repair 23 = .ok (.iconst 2, 1) := by decide +kernel
theorem d_Z_repair_24 : decode b_Z_repair 24 = .ok (.ireturn, 1) := by decide +kernel
theorem d_Z_repair_25 : decode b_Z_repair 25 = .ok (.astore 6, 2) := by decide +kernel
theorem d_Z_repair_27 : decode b_Z_repair 27 = .ok (.iconst 3, 1) := by decide +kernel
theorem d_Z_repair_28 : decode b_Z_repair 28 = .ok (.ireturn, 1) := by decide +kernel
theorem d_Z_repair_29 : decode b_Z_repair 29 = .ok (.iconst 0, 1) := by decide +kernel
theorem d_Z_repair_30 : decode b_Z_repair 30 = .ok (.ireturn, 1) := by decide +kernel
theorem d_Z_rules_0 : decode b_Z_rules 0 = .ok (.aload_n 0, 1) := by decide +kernel
theorem d_Z_rules_1 : decode b_Z_rules 1 = .ok (.iload_n 1, 1) := by decide +kernel
theorem d_Z_rules_2 : decode b_Z_rules 2 = .ok (.iload_n 2, 1) := by decide +kernel
theorem d_Z_rules_3 : decode b_Z_rules 3 = .ok (.invokevirtual 48, 3) := by decide +kernel
theorem d_Z_rules_6 : decode b_Z_rules 6 = .ok (.goto 6, 3) := by decide +kernel
theorem d_Z_rules_9 : decode b_Z_rules 9 = .ok (.astore_n 3, 1) := by decide +kernel
theorem d_Z_rules_10 : decode b_Z_rules 10 = .ok (.iconst 1, 1) := by decide +kernel
theorem d_Z_rules_11 : decode b_Z_rules 11 = .ok (.ireturn, 1) := by decide +kernel
theorem d_Z_rules_12 : decode b_Z_rules 12 = .ok (.iconst 0, 1) := by decide +kernel
theorem d_Z_rules_13 : decode b_Z_rules 13 = .ok (.ireturn, 1) := by decide +kernel
theorem d_Z_at_0 : decode b_Z_at 0 = .ok (.aload_n 3, 1) := by decide +kernel
theorem d_Z_at_1 : decode b_Z_at 1 = .ok (.iconst 0, 1) := by decide +kernel
theorem d_Z_at_2 : decode b_Z_at 2 = .ok (.aload_n 0, 1) := by decide +kernel
theorem d_Z_at_3 : decode b_Z_at 3 = .ok (.iload_n 1, 1) := by decide +kernel
theorem d_Z_at_4 : decode b_Z_at 4 = .ok (.iload_n 2, 1) := by decide +kernel
theorem d_Z_at_5 : decode b_Z_at 5 = .ok (.invokevirtual 52, 3) := by decide +kernel
theorem d_Z_at_8 : decode b_Z_at 8 = .ok (.i2l, 1) := by decide +kernel
theorem d_Z_at_9 : decode b_Z_at 9 = .ok (.lastore, 1) := by decide +kernel
theorem d_Z_at_10 : decode b_Z_at 10 = .ok (.goto 11, 3) := by decide +kernel
theorem d_Z_at_13 : decode b_Z_at 13 = .ok (.astore 4, 2) := by decide +kernel
theorem d_Z_at_15 : decode b_Z_at 15 = .ok (.iconst 1, 1) := by decide +kernel
theorem d_Z_at_16 : decode b_Z_at 16 = .ok (.ireturn, 1) := by decide +kernel
theorem d_Z_at_17 : decode b_Z_at 17 = .ok (.astore 4, 2) := by decide +kernel
theorem d_Z_at_19 : decode b_Z_at 19 = .ok (.iconst 2, 1) := by decide +kernel
theorem d_Z_at_20 : decode b_Z_at 20 = .ok (.ireturn, 1) := by decide +kernel
theorem d_Z_at_21 : decode b_Z_at 21 = .ok (.iconst 0, 1) := by decide +kernel
theorem d_Z_at_22 : decode b_Z_at 22 = .ok (.ireturn, 1) := by decide +kernel
theorem d_Z_cost_0 : decode b_Z_cost 0 = .ok (.aload_n 1, 1) := by decide +kernel
theorem d_Z_cost_1 : decode b_Z_cost 1 = .ok (.iconst 0, 1) := by decide +kernel
theorem d_Z_cost_2 : decode b_Z_cost 2 = .ok (.aload_n 0, 1) := by decide +kernel
theorem d_Z_cost_3 : decode b_Z_cost 3 = .ok (.invokevirtual 55, 3) := by decide +kernel
theorem d_Z_cost_6 : decode b_Z_cost 6 = .ok (.i2l, 1) := by decide +kernel
theorem d_Z_cost_7 : decode b_Z_cost 7 = .ok (.lastore, 1) := by decide +kernel
theorem d_Z_cost_8 : decode b_Z_cost 8 = .ok (.goto 6, 3) := by decide +kernel
theorem d_Z_cost_11 : decode b_Z_cost 11 = .ok (.astore_n 2, 1) := by decide +kernel
theorem d_Z_cost_12 : decode b_Z_cost 12 = .ok (.iconst 1, 1) := by decide +kernel
theorem d_Z_cost_13 : decode b_Z_cost 13 = .ok (.ireturn, 1) := by decide +kernel
theorem d_Z_cost_14 : decode b_Z_cost 14 = .ok (.iconst 0, 1) := by decide +kernel
theorem d_Z_cost_15 : decode b_Z_cost 15 = .ok (.ireturn, 1) := by decide +kernel
theorem d_Z_done_0 : decode b_Z_done 0 = .ok (.aload_n 1, 1) := by decide +kernel
theorem d_Z_done_1 : decode b_Z_done 1 = .ok (.iconst 0, 1) := by decide +kernel
theorem d_Z_done_2 : decode b_Z_done 2 = .ok (.aload_n 0, 1) := by decide +kernel
theorem d_Z_done_3 : decode b_Z_done 3 = .ok (.invokevirtual 59, 3) := by decide +kernel
theorem d_Z_done_6 : decode b_Z_done 6 = .ok (.i2l, 1) := by decide +kernel
theorem d_Z_done_7 : decode b_Z_done 7 = .ok (.lastore, 1) := by decide +kernel
theorem d_Z_done_8 : decode b_Z_done 8 = .ok (.goto 6, 3) := by decide +kernel
theorem d_Z_done_11 : decode b_Z_done 11 = .ok (.astore_n 2, 1) := by decide +kernel
theorem d_Z_done_12 : decode b_Z_done 12 = .ok (.iconst 1, 1) := by decide +kernel
theorem d_Z_done_13 : decode b_Z_done 13 = .ok (.ireturn, 1) := by decide +kernel
theorem d_Z_done_14 : decode b_Z_done 14 = .ok (.iconst 0, 1) := by decide +kernel
theorem d_Z_done_15 : decode b_Z_done 15 = .ok (.ireturn, 1) := by decide +kernel
theorem d_Z_spare_0 : decode b_Z_spare 0 = .ok (.aload_n 3, 1) := by decide +kernel
theorem d_Z_spare_1 : decode b_Z_spare 1 = .ok (.iconst 0, 1) := by decide +kernel
theorem d_Z_spare_2 : decode b_Z_spare 2 = .ok (.aload_n 0, 1) := by decide +kernel
theorem d_Z_spare_3 : decode b_Z_spare 3 = .ok (.iload_n 1, 1) := by decide +kernel
theorem d_Z_spare_4 : decode b_Z_spare 4 = .ok (.iload_n 2, 1) := by decide +kernel
theorem d_Z_spare_5 : decode b_Z_spare 5 = .ok (.invokevirtual 62, 3) := by decide +kernel
theorem d_Z_spare_8 : decode b_Z_spare 8 = .ok (.i2l, 1) := by decide +kernel
theorem d_Z_spare_9 : decode b_Z_spare 9 = .ok (.lastore, 1) := by decide +kernel
theorem d_Z_spare_10 : decode b_Z_spare 10 = .ok (.goto 15, 3) := by decide +kernel
theorem d_Z_spare_13 : decode b_Z_spare 13 = .ok (.astore 4, 2) := by decide +kernel
theorem d_Z_spare_15 : decode b_Z_spare 15 = .ok (.iconst 1, 1) := by decide +kernel
theorem d_Z_spare_16 : decode b_Z_spare 16 = .ok (.ireturn, 1) := by decide +kernel
theorem d_Z_spare_17 : decode b_Z_spare 17 = .ok (.astore 4, 2) := by decide +kernel
theorem d_Z_spare_19 : decode b_Z_spare 19 = .ok (.iconst 2, 1) := by decide +kernel
theorem d_Z_spare_20 : decode b_Z_spare 20 = .ok (.ireturn, 1) := by decide +kernel
theorem d_Z_spare_21 : decode b_Z_spare 21 = .ok (.astore 4, 2) := by decide +kernel
theorem d_Z_spare_23 : decode b_Z_spare 23 = .ok (.iconst 3, 1) := by decide +kernel
theorem d_Z_spare_24 : decode b_Z_spare 24 = .ok (.ireturn, 1) := by decide +kernel
theorem d_Z_spare_25 : decode b_Z_spare 25 = .ok (.iconst 0, 1) := by decide +kernel
theorem d_Z_spare_26 : decode b_Z_spare 26 = .ok (.ireturn, 1) := by decide +kernel
