theorem dX8_init_0 : decode cX8_init 0 = .ok (.aload_n 0, 1) := by decide +kernel
theorem dX8_init_1 : decode cX8_init 1 = .ok (.invokespecial 1, 3) := by decide +kernel
theorem dX8_init_4 : decode cX8_init 4 = .ok (.aload_n 0, 1) := by decide +kernel
theorem dX8_init_5 : decode cX8_init 5 = .ok (.new 7, 3) := by decide +kernel
theorem dX8_init_8 : decode cX8_init 8 = .ok (.dup, 1) := by decide +kernel
theorem dX8_init_9 : decode cX8_init 9 = .ok (.invokespecial 9, 3) := by decide +kernel
theorem dX8_init_12 : decode cX8_init 12 = .ok (.putfield 10, 3) := by decide +kernel
theorem dX8_init_15 : decode cX8_init 15 = .ok (.aload_n 0, 1) := by decide +kernel
theorem dX8_init_16 : decode cX8_init 16 = .ok (.new 16, 3) := by decide +kernel
theorem dX8_init_19 : decode cX8_init 19 = .ok (.dup, 1) := by decide +kernel
theorem dX8_init_20 : decode cX8_init 20 = .ok (.invokespecial 18, 3) := by decide +kernel
theorem dX8_init_23 : decode cX8_init 23 = .ok (.putfield 19, 3) := by decide +kernel
theorem dX8_init_26 : decode cX8_init 26 = .ok (.aload_n 0, 1) := by decide +kernel
theorem dX8_init_27 : decode cX8_init 27 = .ok (.new 16, 3) := by decide +kernel
theorem dX8_init_30 : decode cX8_init 30 = .ok (.dup, 1) := by decide +kernel
theorem dX8_init_31 : decode cX8_init 31 = .ok (.invokespecial 18, 3) := by decide +kernel
theorem dX8_init_34 : decode cX8_init 34 = .ok (.putfield 23, 3) := by decide +kernel
theorem dX8_init_37 : decode cX8_init 37 = .ok (.aload_n 0, 1) := by decide +kernel
theorem dX8_init_38 : decode cX8_init 38 = .ok (.new 26, 3) := by decide +kernel
theorem dX8_init_41 : decode cX8_init 41 = .ok (.dup, 1) := by decide +kernel
theorem dX8_init_42 : decode cX8_init 42 = .ok (.invokespecial 28, 3) := by decide +kernel
theorem dX8_init_45 : decode cX8_init 45 = .ok (.putfield 29, 3) := by decide +kernel
theorem dX8_init_48 : decode cX8_init 48 = .ok (.aload_n 0, 1) := by decide +kernel
theorem dX8_init_49 : decode cX8_init 49 = .ok (.new 26, 3) := by decide +kernel
theorem dX8_init_52 : decode cX8_init 52 = .ok (.dup, 1) := by decide +kernel
theorem dX8_init_53 : decode cX8_init 53 = .ok (.invokespecial 28, 3) := by decide +kernel
theorem dX8_init_56 : decode cX8_init 56 = .ok (.putfield 33, 3) := by decide +kernel
theorem dX8_init_59 : decode cX8_init 59 = .ok (.aload_n 0, 1) := by decide +kernel
theorem dX8_init_60 : decode cX8_init 60 = .ok (.new 36, 3) := by decide +kernel
theorem dX8_init_63 : decode cX8_init 63 = .ok (.dup, 1) := by decide +kernel
theorem dX8_init_64 : decode cX8_init 64 = .ok (.invokespecial 38, 3) := by decide +kernel
theorem dX8_init_67 : decode cX8_init 67 = .ok (.putfield 39, 3) := by decide +kernel
theorem dX8_init_70 : decode cX8_init 70 = .ok (.aload_n 0, 1) := by decide +kernel
theorem dX8_init_71 : decode cX8_init 71 = .ok (.new 36, 3) := by decide +kernel
theorem dX8_init_74 : decode cX8_init 74 = .ok (.dup, 1) := by decide +kernel
theorem dX8_init_75 : decode cX8_init 75 = .ok (.invokespecial 38, 3) := by decide +kernel
theorem dX8_init_78 : decode cX8_init 78 = .ok (.putfield 43, 3) := by decide +kernel
theorem dX8_init_81 : decode cX8_init 81 = .ok (.aload_n 0, 1) := by decide +kernel
theorem dX8_init_82 : decode cX8_init 82 = .ok (.new 46, 3) := by decide +kernel
theorem dX8_init_85 : decode cX8_init 85 = .ok (.dup, 1) := by decide +kernel
theorem dX8_init_86 : decode cX8_init 86 = .ok (.invokespecial 48, 3) := by decide +kernel
theorem dX8_init_89 : decode cX8_init 89 = .ok (.putfield 49, 3) := by decide +kernel
theorem dX8_init_92 : decode cX8_init 92 = .ok (.aload_n 0, 1) := by decide +kernel
theorem dX8_init_93 : decode cX8_init 93 = .ok (.new 53, 3) := by decide +kernel
theorem dX8_init_96 : decode cX8_init 96 = .ok (.dup, 1) := by decide +kernel
theorem dX8_init_97 : decode cX8_init 97 = .ok (.invokespecial 55, 3) := by decide +kernel
theorem dX8_init_100 : decode cX8_init 100 = .ok (.putfield 56, 3) := by decide +kernel
theorem dX8_init_103 : decode cX8_init 103 = .ok (.aload_n 0, 1) := by decide +kernel
theorem dX8_init_104 : decode cX8_init 104 = .ok (.iconst 0, 1) := by decide +kernel
theorem dX8_init_105 : decode cX8_init 105 = .ok (.putfield 60, 3) := by decide +kernel
theorem dX8_init_108 : decode cX8_init 108 = .ok (.return_, 1) := by decide +kernel
theorem dX8_code_0 : decode cX8_code 0 = .ok (.iload_n 1, 1) := by decide +kernel
theorem dX8_code_1 : decode cX8_code 1 = .ok (.iload_n 2, 1) := by decide +kernel
theorem dX8_code_2 : decode cX8_code 2 = .ok (.iload_n 3, 1) := by decide +kernel
theorem dX8_code_3 : decode cX8_code 3 = .ok (.iload 4, 2) := by decide +kernel
theorem dX8_code_5 : decode cX8_code 5 = .ok (.invokestatic 64, 3) := by decide +kernel
theorem dX8_code_8 : decode cX8_code 8 = .ok (.ifCond .ne 6, 3) := by decide +kernel
theorem dX8_code_11 : decode cX8_code 11 = .ok (.bipush (-2), 2) := by decide +kernel
theorem dX8_code_13 : decode cX8_code 13 = .ok (.ireturn, 1) := by decide +kernel
theorem dX8_code_14 : decode cX8_code 14 = .ok (.aload_n 0, 1) := by decide +kernel
theorem dX8_code_15 : decode cX8_code 15 = .ok (.getfield 39, 3) := by decide +kernel
theorem dX8_code_18 : decode cX8_code 18 = .ok (.invokevirtual 68, 3) := by decide +kernel
theorem dX8_code_21 : decode cX8_code 21 = .ok (.ifCond .gt 13, 3) := by decide +kernel
theorem dX8_code_24 : decode cX8_code 24 = .ok (.aload_n 0, 1) := by decide +kernel
theorem dX8_code_25 : decode cX8_code 25 = .ok (.getfield 43, 3) := by decide +kernel
theorem dX8_code_28 : decode cX8_code 28 = .ok (.invokevirtual 68, 3) := by decide +kernel
theorem dX8_code_31 : decode cX8_code 31 = .ok (.ifCond .le 6, 3) := by decide +kernel
theorem dX8_code_34 : decode cX8_code 34 = .ok (.bipush (-3), 2) := by decide +kernel
theorem dX8_code_36 : decode cX8_code 36 = .ok (.ireturn, 1) := by decide +kernel
theorem dX8_code_37 : decode cX8_code 37 = .ok (.aload_n 0, 1) := by decide +kernel
theorem dX8_code_38 : decode cX8_code 38 = .ok (.getfield 10, 3) := by decide +kernel
theorem dX8_code_41 : decode cX8_code 41 = .ok (.iload_n 1, 1) := by decide +kernel
theorem dX8_code_42 : decode cX8_code 42 = .ok (.iload_n 2, 1) := by decide +kernel
theorem dX8_code_43 : decode cX8_code 43 = .ok (.iload_n 3, 1) := by decide +kernel
theorem dX8_code_44 : decode cX8_code 44 = .ok (.iload 4, 2) := by decide +kernel
theorem dX8_code_46 : decode cX8_code 46 = .ok (.invokevirtual 72, 3) := by decide +kernel
theorem dX8_code_49 : decode cX8_code 49 = .ok (.ifCond .eq 15, 3) := by decide +kernel
theorem dX8_code_52 : decode cX8_code 52 = .ok (.aload_n 0, 1) := by decide +kernel
theorem dX8_code_53 : decode cX8_code 53 = .ok (.getfield 10, 3) := by decide +kernel
theorem dX8_code_56 : decode cX8_code 56 = .ok (.invokevirtual 75, 3) := by decide +kernel
theorem dX8_code_59 : decode cX8_code 59 = .ok (.iconst 1, 1) := by decide +kernel
theorem dX8_code_60 : decode cX8_code 60 = .ok (.isub, 1) := by decide +kernel
theorem dX8_code_61 : decode cX8_code 61 = .ok (.goto 5, 3) := by decide +kernel
theorem dX8_code_64 : decode cX8_code 64 = .ok (.bipush (-4), 2) := by decide +kernel
theorem dX8_code_66 : decode cX8_code 66 = .ok (.ireturn, 1) := by decide +kernel
theorem dX8_wipe_0 : decode cX8_wipe 0 = .ok (.aload_n 0, 1) := by decide +kernel
theorem dX8_wipe_1 : decode cX8_wipe 1 = .ok (.getfield 10, 3) := by decide +kernel
theorem dX8_wipe_4 : decode cX8_wipe 4 = .ok (.invokevirtual 75, 3) := by decide +kernel
theorem dX8_wipe_7 : decode cX8_wipe 7 = .ok (.istore_n 1, 1) := by decide +kernel
theorem dX8_wipe_8 : decode cX8_wipe 8 = .ok (.aload_n 0, 1) := by decide +kernel
theorem dX8_wipe_9 : decode cX8_wipe 9 = .ok (.getfield 10, 3) := by decide +kernel
theorem dX8_wipe_12 : decode cX8_wipe 12 = .ok (.invokevirtual 78, 3) := by decide +kernel
theorem dX8_wipe_15 : decode cX8_wipe 15 = .ok (.aload_n 0, 1) := by decide +kernel
theorem dX8_wipe_16 : decode cX8_wipe 16 = .ok (.getfield 39, 3) := by decide +kernel
theorem dX8_wipe_19 : decode cX8_wipe 19 = .ok (.invokevirtual 81, 3) := by decide +kernel
theorem dX8_wipe_22 : decode cX8_wipe 22 = .ok (.aload_n 0, 1) := by decide +kernel
theorem dX8_wipe_23 : decode cX8_wipe 23 = .ok (.getfield 43, 3) := by decide +kernel
theorem dX8_wipe_26 : decode cX8_wipe 26 = .ok (.invokevirtual 81, 3) := by decide +kernel
theorem dX8_wipe_29 : decode cX8_wipe 29 = .ok (.iload_n 1, 1) := by decide +kernel
theorem dX8_wipe_30 : decode cX8_wipe 30 = .ok (.ireturn, 1) := by decide +kernel
theorem dX8_instruction_0 : decode cX8_instruction 0 = .ok (.aload_n 0, 1) := by decide +kernel
theorem dX8_instruction_1 : decode cX8_instruction 1 = .ok (.getfield 10, 3) := by decide +kernel
theorem dX8_instruction_4 : decode cX8_instruction 4 = .ok (.iload_n 1, 1) := by decide +kernel
theorem dX8_instruction_5 : decode cX8_instruction 5 = .ok (.invokevirtual 82, 3) := by decide +kernel
theorem dX8_instruction_8 : decode cX8_instruction 8 = .ok (.ifCond .eq 14, 3) := by decide +kernel
theorem dX8_instruction_11 : decode cX8_instruction 11 = .ok (.iload_n 2, 1) := by decide +kernel
theorem dX8_instruction_12 : decode cX8_instruction 12 = .ok (.invokestatic 86, 3) := by decide +kernel
theorem dX8_instruction_15 : decode cX8_instruction 15 = .ok (.ifCond .eq 7, 3) := by decide +kernel
theorem dX8_instruction_18 : decode cX8_instruction 18 = .ok (.iconst 1, 1) := by decide +kernel
theorem dX8_instruction_19 : decode cX8_instruction 19 = .ok (.goto 4, 3) := by decide +kernel
theorem dX8_instruction_22 : decode cX8_instruction 22 = .ok (.iconst 0, 1) := by decide +kernel
theorem dX8_instruction_23 : decode cX8_instruction 23 = .ok (.istore_n 3, 1) := by decide +kernel
theorem dX8_instruction_24 : decode cX8_instruction 24 = .ok (.aload_n 0, 1) := by decide +kernel
theorem dX8_instruction_25 : decode cX8_instruction 25 = .ok (.iload_n 3, 1) := by decide +kernel
theorem dX8_instruction_26 : decode cX8_instruction 26 = .ok (.ifCond .eq 7, 3) := by decide +kernel
theorem dX8_instruction_29 : decode cX8_instruction 29 = .ok (.iconst 0, 1) := by decide +kernel
theorem dX8_instruction_30 : decode cX8_instruction 30 = .ok (.goto 4, 3) := by decide +kernel
theorem dX8_instruction_33 : decode cX8_instruction 33 = .ok (.iconst (-1), 1) := by decide +kernel
theorem dX8_instruction_34 : decode cX8_instruction 34 = .ok (.putfield 60, 3) := by decide +kernel
theorem dX8_instruction_37 : decode cX8_instruction 37 = .ok (.iload_n 3, 1) := by decide +kernel
theorem dX8_instruction_38 : decode cX8_instruction 38 = .ok (.ifCond .eq 15, 3) := by decide +kernel
theorem dX8_instruction_41 : decode cX8_instruction 41 = .ok (.aload_n 0, 1) := by decide +kernel
theorem dX8_instruction_42 : decode cX8_instruction 42 = .ok (.getfield 10, 3) := by decide +kernel
theorem dX8_instruction_45 : decode cX8_instruction 45 = .ok (.iload_n 1, 1) := by decide +kernel
theorem dX8_instruction_46 : decode cX8_instruction 46 = .ok (.iload_n 2, 1) := by decide +kernel
theorem dX8_instruction_47 : decode cX8_instruction 47 = .ok (.invokevirtual 89, 3) := by decide +kernel
theorem dX8_instruction_50 : decode cX8_instruction 50 = .ok (.goto 4, 3) := by decide +kernel
theorem dX8_instruction_53 : decode cX8_instruction 53 = .ok (.iconst (-1), 1) := by decide +kernel
theorem dX8_instruction_54 : decode cX8_instruction 54 = .ok (.ireturn, 1) := by decide +kernel
theorem dX8_status_0 : decode cX8_status 0 = .ok (.aload_n 0, 1) := by decide +kernel
theorem dX8_status_1 : decode cX8_status 1 = .ok (.getfield 60, 3) := by decide +kernel
theorem dX8_status_4 : decode cX8_status 4 = .ok (.ireturn, 1) := by decide +kernel
theorem dX8_feed_0 : decode cX8_feed 0 = .ok (.iload_n 1, 1) := by decide +kernel
theorem dX8_feed_1 : decode cX8_feed 1 = .ok (.invokestatic 93, 3) := by decide +kernel
theorem dX8_feed_4 : decode cX8_feed 4 = .ok (.ifCond .ne 6, 3) := by decide +kernel
theorem dX8_feed_7 : decode cX8_feed 7 = .ok (.bipush (-2), 2) := by decide +kernel
theorem dX8_feed_9 : decode cX8_feed 9 = .ok (.ireturn, 1) := by decide +kernel
theorem dX8_feed_10 : decode cX8_feed 10 = .ok (.aload_n 0, 1) := by decide +kernel
theorem dX8_feed_11 : decode cX8_feed 11 = .ok (.getfield 19, 3) := by decide +kernel
theorem dX8_feed_14 : decode cX8_feed 14 = .ok (.iload_n 1, 1) := by decide +kernel
theorem dX8_feed_15 : decode cX8_feed 15 = .ok (.invokevirtual 96, 3) := by decide +kernel
theorem dX8_feed_18 : decode cX8_feed 18 = .ok (.ifCond .eq 13, 3) := by decide +kernel
theorem dX8_feed_21 : decode cX8_feed 21 = .ok (.aload_n 0, 1) := by decide +kernel
theorem dX8_feed_22 : decode cX8_feed 22 = .ok (.getfield 19, 3) := by decide +kernel
theorem dX8_feed_25 : decode cX8_feed 25 = .ok (.invokevirtual 98, 3) := by decide +kernel
theorem dX8_feed_28 : decode cX8_feed 28 = .ok (.goto 5, 3) := by decide +kernel
theorem dX8_feed_31 : decode cX8_feed 31 = .ok (.bipush (-4), 2) := by decide +kernel
theorem dX8_feed_33 : decode cX8_feed 33 = .ok (.ireturn, 1) := by decide +kernel
theorem dX8_keep_0 : decode cX8_keep 0 = .ok (.iload_n 1, 1) := by decide +kernel
theorem dX8_keep_1 : decode cX8_keep 1 = .ok (.ifCond .lt 14, 3) := by decide +kernel
theorem dX8_keep_4 : decode cX8_keep 4 = .ok (.iload_n 1, 1) := by decide +kernel
theorem dX8_keep_5 : decode cX8_keep 5 = .ok (.aload_n 0, 1) := by decide +kernel
theorem dX8_keep_6 : decode cX8_keep 6 = .ok (.getfield 19, 3) := by decide +kernel
theorem dX8_keep_9 : decode cX8_keep 9 = .ok (.invokevirtual 98, 3) := by decide +kernel
theorem dX8_keep_12 : decode cX8_keep 12 = .ok (.if_icmp .le 6, 3) := by decide +kernel
theorem dX8_keep_15 : decode cX8_keep 15 = .ok (.bipush (-2), 2) := by decide +kernel
theorem dX8_keep_17 : decode cX8_keep 17 = .ok (.ireturn, 1) := by decide +kernel
theorem dX8_keep_18 : decode cX8_keep 18 = .ok (.aload_n 0, 1) := by decide +kernel
theorem dX8_keep_19 : decode cX8_keep 19 = .ok (.getfield 19, 3) := by decide +kernel
theorem dX8_keep_22 : decode cX8_keep 22 = .ok (.iload_n 1, 1) := by decide +kernel
theorem dX8_keep_23 : decode cX8_keep 23 = .ok (.invokevirtual 99, 3) := by decide +kernel
theorem dX8_keep_26 : decode cX8_keep 26 = .ok (.iload_n 1, 1) := by decide +kernel
theorem dX8_keep_27 : decode cX8_keep 27 = .ok (.ireturn, 1) := by decide +kernel
theorem dX8_at_0 : decode cX8_at 0 = .ok (.aload_n 0, 1) := by decide +kernel
theorem dX8_at_1 : decode cX8_at 1 = .ok (.getfield 19, 3) := by decide +kernel
theorem dX8_at_4 : decode cX8_at 4 = .ok (.iload_n 1, 1) := by decide +kernel
theorem dX8_at_5 : decode cX8_at 5 = .ok (.invokevirtual 103, 3) := by decide +kernel
theorem dX8_at_8 : decode cX8_at 8 = .ok (.ifCond .eq 14, 3) := by decide +kernel
theorem dX8_at_11 : decode cX8_at 11 = .ok (.aload_n 0, 1) := by decide +kernel
theorem dX8_at_12 : decode cX8_at 12 = .ok (.getfield 19, 3) := by decide +kernel
theorem dX8_at_15 : decode cX8_at 15 = .ok (.iload_n 1, 1) := by decide +kernel
theorem dX8_at_16 : decode cX8_at 16 = .ok (.invokevirtual 104, 3) := by decide +kernel
theorem dX8_at_19 : decode cX8_at 19 = .ok (.goto 4, 3) := by decide +kernel
theorem dX8_at_22 : decode cX8_at 22 = .ok (.iconst (-1), 1) := by decide +kernel
theorem dX8_at_23 : decode cX8_at 23 = .ok (.ireturn, 1) := by decide +kernel
theorem dX8_change_0 : decode cX8_change 0 = .ok (.aload_n 0, 1) := by decide +kernel
theorem dX8_change_1 : decode cX8_change 1 = .ok (.iload_n 1, 1) := by decide +kernel
theorem dX8_change_2 : decode cX8_change 2 = .ok (.invokevirtual 108, 3) := by decide +kernel
theorem dX8_change_5 : decode cX8_change 5 = .ok (.astore 5, 2) := by decide +kernel
theorem dX8_change_7 : decode cX8_change 7 = .ok (.aload 5, 2) := by decide +kernel
theorem dX8_change_9 : decode cX8_change 9 = .ok (.ifnonnull 5, 3) := by decide +kernel
theorem dX8_change_12 : decode cX8_change 12 = .ok (.iconst (-1), 1) := by decide +kernel
theorem dX8_change_13 : decode cX8_change 13 = .ok (.ireturn, 1) := by decide +kernel
theorem dX8_change_14 : decode cX8_change 14 = .ok (.iload_n 2, 1) := by decide +kernel
theorem dX8_change_15 : decode cX8_change 15 = .ok (.ifCond .lt 24, 3) := by decide +kernel
theorem dX8_change_18 : decode cX8_change 18 = .ok (.iload_n 2, 1) := by decide +kernel
theorem dX8_change_19 : decode cX8_change 19 = .ok (.bipush 7, 2) := by decide +kernel
theorem dX8_change_21 : decode cX8_change 21 = .ok (.if_icmp .ge 18, 3) := by decide +kernel
theorem dX8_change_24 : decode cX8_change 24 = .ok (.iload_n 3, 1) := by decide +kernel
theorem dX8_change_25 : decode cX8_change 25 = .ok (.invokestatic 112, 3) := by decide +kernel
theorem dX8_change_28 : decode cX8_change 28 = .ok (.ifCond .eq 11, 3) := by decide +kernel
theorem dX8_change_31 : decode cX8_change 31 = .ok (.iload 4, 2) := by decide +kernel
theorem dX8_change_33 : decode cX8_change 33 = .ok (.invokestatic 112, 3) := by decide +kernel
theorem dX8_change_36 : decode cX8_change 36 = .ok (.ifCond .ne 6, 3) := by decide +kernel
theorem dX8_change_39 : decode cX8_change 39 = .ok (.bipush (-2), 2) := by decide +kernel
theorem dX8_change_41 : decode cX8_change 41 = .ok (.ireturn, 1) := by decide +kernel
theorem dX8_change_42 : decode cX8_change 42 = .ok (.aload_n 0, 1) := by decide +kernel
theorem dX8_change_43 : decode cX8_change 43 = .ok (.getfield 49, 3) := by decide +kernel
theorem dX8_change_46 : decode cX8_change 46 = .ok (.aload_n 0, 1) := by decide +kernel
theorem dX8_change_47 : decode cX8_change 47 = .ok (.getfield 19, 3) := by decide +kernel
theorem dX8_change_50 : decode cX8_change 50 = .ok (.aload 5, 2) := by decide +kernel
theorem dX8_change_52 : decode cX8_change 52 = .ok (.invokevirtual 115, 3) := by decide +kernel
theorem dX8_change_55 : decode cX8_change 55 = .ok (.iload_n 2, 1) := by decide +kernel
theorem dX8_change_56 : decode cX8_change 56 = .ok (.iload_n 3, 1) := by decide +kernel
theorem dX8_change_57 : decode cX8_change 57 = .ok (.iload 4, 2) := by decide +kernel
theorem dX8_change_59 : decode cX8_change 59 = .ok (.invokevirtual 119, 3) := by decide +kernel
theorem dX8_change_62 : decode cX8_change 62 = .ok (.aload_n 0, 1) := by decide +kernel
theorem dX8_change_63 : decode cX8_change 63 = .ok (.getfield 19, 3) := by decide +kernel
theorem dX8_change_66 : decode cX8_change 66 = .ok (.invokevirtual 98, 3) := by decide +kernel
theorem dX8_change_69 : decode cX8_change 69 = .ok (.ireturn, 1) := by decide +kernel
theorem dX8_run_0 : decode cX8_run 0 = .ok (.aload_n 0, 1) := by decide +kernel
theorem dX8_run_1 : decode cX8_run 1 = .ok (.getfield 29, 3) := by decide +kernel
theorem dX8_run_4 : decode cX8_run 4 = .ok (.aload_n 0, 1) := by decide +kernel
theorem dX8_run_5 : decode cX8_run 5 = .ok (.getfield 10, 3) := by decide +kernel
theorem dX8_run_8 : decode cX8_run 8 = .ok (.aload_n 0, 1) := by decide +kernel
theorem dX8_run_9 : decode cX8_run 9 = .ok (.getfield 19, 3) := by decide +kernel
theorem dX8_run_12 : decode cX8_run 12 = .ok (.invokevirtual 123, 3) := by decide +kernel
theorem dX8_run_15 : decode cX8_run 15 = .ok (.aload_n 0, 1) := by decide +kernel
theorem dX8_run_16 : decode cX8_run 16 = .ok (.getfield 29, 3) := by decide +kernel
theorem dX8_run_19 : decode cX8_run 19 = .ok (.invokevirtual 127, 3) := by decide +kernel
theorem dX8_run_22 : decode cX8_run 22 = .ok (.ireturn, 1) := by decide +kernel
theorem dX8_told_0 : decode cX8_told 0 = .ok (.iload_n 1, 1) := by decide +kernel
theorem dX8_told_1 : decode cX8_told 1 = .ok (.tableswitch 75 0 4 #[35, 43, 51, 59, 67], 35) := by decide +kernel
theorem dX8_told_36 : decode cX8_told 36 = .ok (.aload_n 0, 1) := by decide +kernel
theorem dX8_told_37 : decode cX8_told 37 = .ok (.getfield 29, 3) := by decide +kernel
theorem dX8_told_40 : decode cX8_told 40 = .ok (.invokevirtual 127, 3) := by decide +kernel
theorem dX8_told_43 : decode cX8_told 43 = .ok (.ireturn, 1) := by decide +kernel
theorem dX8_told_44 : decode cX8_told 44 = .ok (.aload_n 0, 1) := by decide +kernel
theorem dX8_told_45 : decode cX8_told 45 = .ok (.getfield 29, 3) := by decide +kernel
theorem dX8_told_48 : decode cX8_told 48 = .ok (.invokevirtual 130, 3) := by decide +kernel
theorem dX8_told_51 : decode cX8_told 51 = .ok (.ireturn, 1) := by decide +kernel
theorem dX8_told_52 : decode cX8_told 52 = .ok (.aload_n 0, 1) := by decide +kernel
theorem dX8_told_53 : decode cX8_told 53 = .ok (.getfield 29, 3) := by decide +kernel
theorem dX8_told_56 : decode cX8_told 56 = .ok (.invokevirtual 133, 3) := by decide +kernel
theorem dX8_told_59 : decode cX8_told 59 = .ok (.ireturn, 1) := by decide +kernel
theorem dX8_told_60 : decode cX8_told 60 = .ok (.aload_n 0, 1) := by decide +kernel
theorem dX8_told_61 : decode cX8_told 61 = .ok (.getfield 29, 3) := by decide +kernel
theorem dX8_told_64 : decode cX8_told 64 = .ok (.invokevirtual 136, 3) := by decide +kernel
theorem dX8_told_67 : decode cX8_told 67 = .ok (.ireturn, 1) := by decide +kernel
theorem dX8_told_68 : decode cX8_told 68 = .ok (.aload_n 0, 1) := by decide +kernel
theorem dX8_told_69 : decode cX8_told 69 = .ok (.getfield 29, 3) := by decide +kernel
theorem dX8_told_72 : decode cX8_told 72 = .ok (.invokevirtual 139, 3) := by decide +kernel
theorem dX8_told_75 : decode cX8_told 75 = .ok (.ireturn, 1) := by decide +kernel
theorem dX8_told_76 : decode cX8_told 76 = .ok (.iconst (-1), 1) := by decide +kernel
theorem dX8_told_77 : decode cX8_told 77 = .ok (.ireturn, 1) := by decide +kernel
theorem dX8_called_0 : decode cX8_called 0 = .ok (.aload_n 0, 1) := by decide +kernel
theorem dX8_called_1 : decode cX8_called 1 = .ok (.getfield 29, 3) := by decide +kernel
theorem dX8_called_4 : decode cX8_called 4 = .ok (.iload_n 1, 1) := by decide +kernel
theorem dX8_called_5 : decode cX8_called 5 = .ok (.invokevirtual 142, 3) := by decide +kernel
theorem dX8_called_8 : decode cX8_called 8 = .ok (.ireturn, 1) := by decide +kernel
theorem dX8_register_0 : decode cX8_register 0 = .ok (.iload_n 1, 1) := by decide +kernel
theorem dX8_register_1 : decode cX8_register 1 = .ok (.invokestatic 145, 3) := by decide +kernel
theorem dX8_register_4 : decode cX8_register 4 = .ok (.istore_n 2, 1) := by decide +kernel
theorem dX8_register_5 : decode cX8_register 5 = .ok (.aload_n 0, 1) := by decide +kernel
theorem dX8_register_6 : decode cX8_register 6 = .ok (.iload_n 2, 1) := by decide +kernel
theorem dX8_register_7 : decode cX8_register 7 = .ok (.ifCond .eq 7, 3) := by decide +kernel
theorem dX8_register_10 : decode cX8_register 10 = .ok (.iconst 0, 1) := by decide +kernel
theorem dX8_register_11 : decode cX8_register 11 = .ok (.goto 4, 3) := by decide +kernel
theorem dX8_register_14 : decode cX8_register 14 = .ok (.iconst (-1), 1) := by decide +kernel
theorem dX8_register_15 : decode cX8_register 15 = .ok (.putfield 60, 3) := by decide +kernel
theorem dX8_register_18 : decode cX8_register 18 = .ok (.iload_n 2, 1) := by decide +kernel
theorem dX8_register_19 : decode cX8_register 19 = .ok (.ifCond .eq 14, 3) := by decide +kernel
theorem dX8_register_22 : decode cX8_register 22 = .ok (.aload_n 0, 1) := by decide +kernel
theorem dX8_register_23 : decode cX8_register 23 = .ok (.getfield 29, 3) := by decide +kernel
theorem dX8_register_26 : decode cX8_register 26 = .ok (.iload_n 1, 1) := by decide +kernel
theorem dX8_register_27 : decode cX8_register 27 = .ok (.invokevirtual 148, 3) := by decide +kernel
theorem dX8_register_30 : decode cX8_register 30 = .ok (.goto 4, 3) := by decide +kernel
theorem dX8_register_33 : decode cX8_register 33 = .ok (.iconst (-1), 1) := by decide +kernel
theorem dX8_register_34 : decode cX8_register 34 = .ok (.ireturn, 1) := by decide +kernel
theorem dX8_turns_0 : decode cX8_turns 0 = .ok (.iload_n 1, 1) := by decide +kernel
theorem dX8_turns_1 : decode cX8_turns 1 = .ok (.invokestatic 151, 3) := by decide +kernel
theorem dX8_turns_4 : decode cX8_turns 4 = .ok (.ifCond .eq 14, 3) := by decide +kernel
theorem dX8_turns_7 : decode cX8_turns 7 = .ok (.aload_n 0, 1) := by decide +kernel
theorem dX8_turns_8 : decode cX8_turns 8 = .ok (.getfield 29, 3) := by decide +kernel
theorem dX8_turns_11 : decode cX8_turns 11 = .ok (.iload_n 1, 1) := by decide +kernel
theorem dX8_turns_12 : decode cX8_turns 12 = .ok (.invokevirtual 154, 3) := by decide +kernel
theorem dX8_turns_15 : decode cX8_turns 15 = .ok (.goto 4, 3) := by decide +kernel
theorem dX8_turns_18 : decode cX8_turns 18 = .ok (.iconst (-1), 1) := by decide +kernel
theorem dX8_turns_19 : decode cX8_turns 19 = .ok (.ireturn, 1) := by decide +kernel
theorem dX8_attempt_0 : decode cX8_attempt 0 = .ok (.aload_n 0, 1) := by decide +kernel
theorem dX8_attempt_1 : decode cX8_attempt 1 = .ok (.iload_n 1, 1) := by decide +kernel
theorem dX8_attempt_2 : decode cX8_attempt 2 = .ok (.invokevirtual 108, 3) := by decide +kernel
theorem dX8_attempt_5 : decode cX8_attempt 5 = .ok (.astore_n 2, 1) := by decide +kernel
theorem dX8_attempt_6 : decode cX8_attempt 6 = .ok (.aload_n 2, 1) := by decide +kernel
theorem dX8_attempt_7 : decode cX8_attempt 7 = .ok (.ifnonnull 5, 3) := by decide +kernel
theorem dX8_attempt_10 : decode cX8_attempt 10 = .ok (.iconst (-1), 1) := by decide +kernel
theorem dX8_attempt_11 : decode cX8_attempt 11 = .ok (.ireturn, 1) := by decide +kernel
theorem dX8_attempt_12 : decode cX8_attempt 12 = .ok (.aload_n 0, 1) := by decide +kernel
theorem dX8_attempt_13 : decode cX8_attempt 13 = .ok (.getfield 29, 3) := by decide +kernel
theorem dX8_attempt_16 : decode cX8_attempt 16 = .ok (.aload_n 0, 1) := by decide +kernel
theorem dX8_attempt_17 : decode cX8_attempt 17 = .ok (.getfield 10, 3) := by decide +kernel
theorem dX8_attempt_20 : decode cX8_attempt 20 = .ok (.aload_n 0, 1) := by decide +kernel
theorem dX8_attempt_21 : decode cX8_attempt 21 = .ok (.getfield 19, 3) := by decide +kernel
theorem dX8_attempt_24 : decode cX8_attempt 24 = .ok (.invokevirtual 123, 3) := by decide +kernel
theorem dX8_attempt_27 : decode cX8_attempt 27 = .ok (.aload_n 2, 1) := by decide +kernel
theorem dX8_attempt_28 : decode cX8_attempt 28 = .ok (.aload_n 0, 1) := by decide +kernel
theorem dX8_attempt_29 : decode cX8_attempt 29 = .ok (.getfield 29, 3) := by decide +kernel
theorem dX8_attempt_32 : decode cX8_attempt 32 = .ok (.aload_n 0, 1) := by decide +kernel
theorem dX8_attempt_33 : decode cX8_attempt 33 = .ok (.getfield 19, 3) := by decide +kernel
theorem dX8_attempt_36 : decode cX8_attempt 36 = .ok (.invokevirtual 157, 3) := by decide +kernel
theorem dX8_attempt_39 : decode cX8_attempt 39 = .ok (.ireturn, 1) := by decide +kernel
theorem dX8_about_0 : decode cX8_about 0 = .ok (.aload_n 0, 1) := by decide +kernel
theorem dX8_about_1 : decode cX8_about 1 = .ok (.iload_n 1, 1) := by decide +kernel
theorem dX8_about_2 : decode cX8_about 2 = .ok (.invokevirtual 108, 3) := by decide +kernel
theorem dX8_about_5 : decode cX8_about 5 = .ok (.astore_n 3, 1) := by decide +kernel
theorem dX8_about_6 : decode cX8_about 6 = .ok (.aload_n 3, 1) := by decide +kernel
theorem dX8_about_7 : decode cX8_about 7 = .ok (.ifnonnull 5, 3) := by decide +kernel
theorem dX8_about_10 : decode cX8_about 10 = .ok (.iconst (-1), 1) := by decide +kernel
theorem dX8_about_11 : decode cX8_about 11 = .ok (.ireturn, 1) := by decide +kernel
theorem dX8_about_12 : decode cX8_about 12 = .ok (.iload_n 2, 1) := by decide +kernel
theorem dX8_about_13 : decode cX8_about 13 = .ok (.tableswitch 66 0 4 #[35, 43, 51, 56, 61], 35) := by decide +kernel
theorem dX8_about_48 : decode cX8_about 48 = .ok (.aload_n 3, 1) := by decide +kernel
theorem dX8_about_49 : decode cX8_about 49 = .ok (.invokevirtual 115, 3) := by decide +kernel
theorem dX8_about_52 : decode cX8_about 52 = .ok (.invokevirtual 161, 3) := by decide +kernel
theorem dX8_about_55 : decode cX8_about 55 = .ok (.ireturn, 1) := by decide +kernel
theorem dX8_about_56 : decode cX8_about 56 = .ok (.aload_n 3, 1) := by decide +kernel
theorem dX8_about_57 : decode cX8_about 57 = .ok (.invokevirtual 164, 3) := by decide +kernel
theorem dX8_about_60 : decode cX8_about 60 = .ok (.invokevirtual 168, 3) := by decide +kernel
theorem dX8_about_63 : decode cX8_about 63 = .ok (.ireturn, 1) := by decide +kernel
theorem dX8_about_64 : decode cX8_about 64 = .ok (.aload_n 3, 1) := by decide +kernel
theorem dX8_about_65 : decode cX8_about 65 = .ok (.invokevirtual 171, 3) := by decide +kernel
theorem dX8_about_68 : decode cX8_about 68 = .ok (.ireturn, 1) := by decide +kernel
theorem dX8_about_69 : decode cX8_about 69 = .ok (.aload_n 3, 1) := by decide +kernel
theorem dX8_about_70 : decode cX8_about 70 = .ok (.invokevirtual 174, 3) := by decide +kernel
theorem dX8_about_73 : decode cX8_about 73 = .ok (.ireturn, 1) := by decide +kernel
theorem dX8_about_74 : decode cX8_about 74 = .ok (.aload_n 3, 1) := by decide +kernel
theorem dX8_about_75 : decode cX8_about 75 = .ok (.invokevirtual 68, 3) := by decide +kernel
theorem dX8_about_78 : decode cX8_about 78 = .ok (.ireturn, 1) := by decide +kernel
theorem dX8_about_79 : decode cX8_about 79 = .ok (.iconst (-1), 1) := by decide +kernel
theorem dX8_about_80 : decode cX8_about 80 = .ok (.ireturn, 1) := by decide +kernel
theorem dX8_covered_0 : decode cX8_covered 0 = .ok (.aload_n 0, 1) := by decide +kernel
theorem dX8_covered_1 : decode cX8_covered 1 = .ok (.iload_n 1, 1) := by decide +kernel
theorem dX8_covered_2 : decode cX8_covered 2 = .ok (.invokevirtual 108, 3) := by decide +kernel
theorem dX8_covered_5 : decode cX8_covered 5 = .ok (.astore 4, 2) := by decide +kernel
theorem dX8_covered_7 : decode cX8_covered 7 = .ok (.aload 4, 2) := by decide +kernel
theorem dX8_covered_9 : decode cX8_covered 9 = .ok (.ifnull 17, 3) := by decide +kernel
theorem dX8_covered_12 : decode cX8_covered 12 = .ok (.iload_n 2, 1) := by decide +kernel
theorem dX8_covered_13 : decode cX8_covered 13 = .ok (.invokestatic 151, 3) := by decide +kernel
theorem dX8_covered_16 : decode cX8_covered 16 = .ok (.ifCond .eq 10, 3) := by decide +kernel
theorem dX8_covered_19 : decode cX8_covered 19 = .ok (.iload_n 3, 1) := by decide +kernel
theorem dX8_covered_20 : decode cX8_covered 20 = .ok (.invokestatic 177, 3) := by decide +kernel
theorem dX8_covered_23 : decode cX8_covered 23 = .ok (.ifCond .ne 5, 3) := by decide +kernel
theorem dX8_covered_26 : decode cX8_covered 26 = .ok (.iconst (-1), 1) := by decide +kernel
theorem dX8_covered_27 : decode cX8_covered 27 = .ok (.ireturn, 1) := by decide +kernel
theorem dX8_covered_28 : decode cX8_covered 28 = .ok (.aload 4, 2) := by decide +kernel
theorem dX8_covered_30 : decode cX8_covered 30 = .ok (.iload_n 2, 1) := by decide +kernel
theorem dX8_covered_31 : decode cX8_covered 31 = .ok (.iload_n 3, 1) := by decide +kernel
theorem dX8_covered_32 : decode cX8_covered 32 = .ok (.invokevirtual 180, 3) := by decide +kernel
theorem dX8_covered_35 : decode cX8_covered 35 = .ok (.ifCond .eq 7, 3) := by decide +kernel
theorem dX8_covered_38 : decode cX8_covered 38 = .ok (.iconst 1, 1) := by decide +kernel
theorem dX8_covered_39 : decode cX8_covered 39 = .ok (.goto 4, 3) := by decide +kernel
theorem dX8_covered_42 : decode cX8_covered 42 = .ok (.iconst 0, 1) := by decide +kernel
theorem dX8_covered_43 : decode cX8_covered 43 = .ok (.ireturn, 1) := by decide +kernel
theorem dX8_pool_0 : decode cX8_pool 0 = .ok (.aload_n 0, 1) := by decide +kernel
theorem dX8_pool_1 : decode cX8_pool 1 = .ok (.iload_n 1, 1) := by decide +kernel
theorem dX8_pool_2 : decode cX8_pool 2 = .ok (.invokevirtual 108, 3) := by decide +kernel
theorem dX8_pool_5 : decode cX8_pool 5 = .ok (.astore_n 3, 1) := by decide +kernel
theorem dX8_pool_6 : decode cX8_pool 6 = .ok (.aload_n 3, 1) := by decide +kernel
theorem dX8_pool_7 : decode cX8_pool 7 = .ok (.ifnull 14, 3) := by decide +kernel
theorem dX8_pool_10 : decode cX8_pool 10 = .ok (.aload_n 3, 1) := by decide +kernel
theorem dX8_pool_11 : decode cX8_pool 11 = .ok (.invokevirtual 115, 3) := by decide +kernel
theorem dX8_pool_14 : decode cX8_pool 14 = .ok (.iload_n 2, 1) := by decide +kernel
theorem dX8_pool_15 : decode cX8_pool 15 = .ok (.invokevirtual 184, 3) := by decide +kernel
theorem dX8_pool_18 : decode cX8_pool 18 = .ok (.ifCond .ne 5, 3) := by decide +kernel
theorem dX8_pool_21 : decode cX8_pool 21 = .ok (.iconst (-1), 1) := by decide +kernel
theorem dX8_pool_22 : decode cX8_pool 22 = .ok (.ireturn, 1) := by decide +kernel
theorem dX8_pool_23 : decode cX8_pool 23 = .ok (.aload_n 3, 1) := by decide +kernel
theorem dX8_pool_24 : decode cX8_pool 24 = .ok (.invokevirtual 115, 3) := by decide +kernel
theorem dX8_pool_27 : decode cX8_pool 27 = .ok (.iload_n 2, 1) := by decide +kernel
theorem dX8_pool_28 : decode cX8_pool 28 = .ok (.aload_n 0, 1) := by decide +kernel
theorem dX8_pool_29 : decode cX8_pool 29 = .ok (.getfield 19, 3) := by decide +kernel
theorem dX8_pool_32 : decode cX8_pool 32 = .ok (.invokevirtual 185, 3) := by decide +kernel
theorem dX8_pool_35 : decode cX8_pool 35 = .ok (.aload_n 0, 1) := by decide +kernel
theorem dX8_pool_36 : decode cX8_pool 36 = .ok (.getfield 19, 3) := by decide +kernel
theorem dX8_pool_39 : decode cX8_pool 39 = .ok (.invokevirtual 98, 3) := by decide +kernel
theorem dX8_pool_42 : decode cX8_pool 42 = .ok (.ireturn, 1) := by decide +kernel
theorem dX8_fault_0 : decode cX8_fault 0 = .ok (.aload_n 0, 1) := by decide +kernel
theorem dX8_fault_1 : decode cX8_fault 1 = .ok (.iload_n 1, 1) := by decide +kernel
theorem dX8_fault_2 : decode cX8_fault 2 = .ok (.invokevirtual 108, 3) := by decide +kernel
theorem dX8_fault_5 : decode cX8_fault 5 = .ok (.astore 4, 2) := by decide +kernel
theorem dX8_fault_7 : decode cX8_fault 7 = .ok (.aload 4, 2) := by decide +kernel
theorem dX8_fault_9 : decode cX8_fault 9 = .ok (.ifnonnull 7, 3) := by decide +kernel
theorem dX8_fault_12 : decode cX8_fault 12 = .ok (.iconst (-1), 1) := by decide +kernel
theorem dX8_fault_13 : decode cX8_fault 13 = .ok (.goto 13, 3) := by decide +kernel
theorem dX8_fault_16 : decode cX8_fault 16 = .ok (.aload 4, 2) := by decide +kernel
theorem dX8_fault_18 : decode cX8_fault 18 = .ok (.invokevirtual 164, 3) := by decide +kernel
theorem dX8_fault_21 : decode cX8_fault 21 = .ok (.iload_n 2, 1) := by decide +kernel
theorem dX8_fault_22 : decode cX8_fault 22 = .ok (.iload_n 3, 1) := by decide +kernel
theorem dX8_fault_23 : decode cX8_fault 23 = .ok (.invokevirtual 189, 3) := by decide +kernel
theorem dX8_fault_26 : decode cX8_fault 26 = .ok (.ireturn, 1) := by decide +kernel
theorem dX8_first_0 : decode cX8_first 0 = .ok (.aload_n 0, 1) := by decide +kernel
theorem dX8_first_1 : decode cX8_first 1 = .ok (.iload_n 1, 1) := by decide +kernel
theorem dX8_first_2 : decode cX8_first 2 = .ok (.iload_n 2, 1) := by decide +kernel
theorem dX8_first_3 : decode cX8_first 3 = .ok (.invokevirtual 190, 3) := by decide +kernel
theorem dX8_first_6 : decode cX8_first 6 = .ok (.astore_n 3, 1) := by decide +kernel
theorem dX8_first_7 : decode cX8_first 7 = .ok (.aload_n 3, 1) := by decide +kernel
theorem dX8_first_8 : decode cX8_first 8 = .ok (.ifnonnull 5, 3) := by decide +kernel
theorem dX8_first_11 : decode cX8_first 11 = .ok (.iconst (-1), 1) := by decide +kernel
theorem dX8_first_12 : decode cX8_first 12 = .ok (.ireturn, 1) := by decide +kernel
theorem dX8_first_13 : decode cX8_first 13 = .ok (.aload_n 3, 1) := by decide +kernel
theorem dX8_first_14 : decode cX8_first 14 = .ok (.invokevirtual 164, 3) := by decide +kernel
theorem dX8_first_17 : decode cX8_first 17 = .ok (.invokevirtual 194, 3) := by decide +kernel
theorem dX8_first_20 : decode cX8_first 20 = .ok (.iload_n 2, 1) := by decide +kernel
theorem dX8_first_21 : decode cX8_first 21 = .ok (.aload_n 0, 1) := by decide +kernel
theorem dX8_first_22 : decode cX8_first 22 = .ok (.getfield 19, 3) := by decide +kernel
theorem dX8_first_25 : decode cX8_first 25 = .ok (.invokevirtual 185, 3) := by decide +kernel
theorem dX8_first_28 : decode cX8_first 28 = .ok (.aload_n 0, 1) := by decide +kernel
theorem dX8_first_29 : decode cX8_first 29 = .ok (.getfield 19, 3) := by decide +kernel
theorem dX8_first_32 : decode cX8_first 32 = .ok (.invokevirtual 98, 3) := by decide +kernel
theorem dX8_first_35 : decode cX8_first 35 = .ok (.ireturn, 1) := by decide +kernel
theorem dX8_cut_0 : decode cX8_cut 0 = .ok (.aload_n 0, 1) := by decide +kernel
theorem dX8_cut_1 : decode cX8_cut 1 = .ok (.iload_n 1, 1) := by decide +kernel
theorem dX8_cut_2 : decode cX8_cut 2 = .ok (.iload_n 2, 1) := by decide +kernel
theorem dX8_cut_3 : decode cX8_cut 3 = .ok (.invokevirtual 190, 3) := by decide +kernel
theorem dX8_cut_6 : decode cX8_cut 6 = .ok (.astore_n 3, 1) := by decide +kernel
theorem dX8_cut_7 : decode cX8_cut 7 = .ok (.aload_n 3, 1) := by decide +kernel
theorem dX8_cut_8 : decode cX8_cut 8 = .ok (.ifnonnull 5, 3) := by decide +kernel
theorem dX8_cut_11 : decode cX8_cut 11 = .ok (.iconst (-1), 1) := by decide +kernel
theorem dX8_cut_12 : decode cX8_cut 12 = .ok (.ireturn, 1) := by decide +kernel
theorem dX8_cut_13 : decode cX8_cut 13 = .ok (.aload_n 0, 1) := by decide +kernel
theorem dX8_cut_14 : decode cX8_cut 14 = .ok (.getfield 56, 3) := by decide +kernel
theorem dX8_cut_17 : decode cX8_cut 17 = .ok (.aload_n 0, 1) := by decide +kernel
theorem dX8_cut_18 : decode cX8_cut 18 = .ok (.getfield 10, 3) := by decide +kernel
theorem dX8_cut_21 : decode cX8_cut 21 = .ok (.aload_n 3, 1) := by decide +kernel
theorem dX8_cut_22 : decode cX8_cut 22 = .ok (.invokevirtual 164, 3) := by decide +kernel
theorem dX8_cut_25 : decode cX8_cut 25 = .ok (.iload_n 2, 1) := by decide +kernel
theorem dX8_cut_26 : decode cX8_cut 26 = .ok (.invokevirtual 197, 3) := by decide +kernel
theorem dX8_cut_29 : decode cX8_cut 29 = .ok (.aload_n 0, 1) := by decide +kernel
theorem dX8_cut_30 : decode cX8_cut 30 = .ok (.getfield 19, 3) := by decide +kernel
theorem dX8_cut_33 : decode cX8_cut 33 = .ok (.aload_n 0, 1) := by decide +kernel
theorem dX8_cut_34 : decode cX8_cut 34 = .ok (.getfield 56, 3) := by decide +kernel
theorem dX8_cut_37 : decode cX8_cut 37 = .ok (.invokevirtual 201, 3) := by decide +kernel
theorem dX8_cut_40 : decode cX8_cut 40 = .ok (.invokevirtual 205, 3) := by decide +kernel
theorem dX8_cut_43 : decode cX8_cut 43 = .ok (.aload_n 0, 1) := by decide +kernel
theorem dX8_cut_44 : decode cX8_cut 44 = .ok (.getfield 19, 3) := by decide +kernel
theorem dX8_cut_47 : decode cX8_cut 47 = .ok (.invokevirtual 98, 3) := by decide +kernel
theorem dX8_cut_50 : decode cX8_cut 50 = .ok (.ireturn, 1) := by decide +kernel
theorem dX8_runs_0 : decode cX8_runs 0 = .ok (.aload_n 0, 1) := by decide +kernel
theorem dX8_runs_1 : decode cX8_runs 1 = .ok (.getfield 56, 3) := by decide +kernel
theorem dX8_runs_4 : decode cX8_runs 4 = .ok (.invokevirtual 209, 3) := by decide +kernel
theorem dX8_runs_7 : decode cX8_runs 7 = .ok (.ireturn, 1) := by decide +kernel
theorem dX8_least_0 : decode cX8_least 0 = .ok (.aload_n 0, 1) := by decide +kernel
theorem dX8_least_1 : decode cX8_least 1 = .ok (.iload_n 1, 1) := by decide +kernel
theorem dX8_least_2 : decode cX8_least 2 = .ok (.iload_n 2, 1) := by decide +kernel
theorem dX8_least_3 : decode cX8_least 3 = .ok (.invokevirtual 190, 3) := by decide +kernel
theorem dX8_least_6 : decode cX8_least 6 = .ok (.astore_n 3, 1) := by decide +kernel
theorem dX8_least_7 : decode cX8_least 7 = .ok (.aload_n 3, 1) := by decide +kernel
theorem dX8_least_8 : decode cX8_least 8 = .ok (.ifnonnull 5, 3) := by decide +kernel
theorem dX8_least_11 : decode cX8_least 11 = .ok (.iconst (-1), 1) := by decide +kernel
theorem dX8_least_12 : decode cX8_least 12 = .ok (.ireturn, 1) := by decide +kernel
theorem dX8_least_13 : decode cX8_least 13 = .ok (.iconst 0, 1) := by decide +kernel
theorem dX8_least_14 : decode cX8_least 14 = .ok (.istore 4, 2) := by decide +kernel
theorem dX8_least_16 : decode cX8_least 16 = .ok (.iload 4, 2) := by decide +kernel
theorem dX8_least_18 : decode cX8_least 18 = .ok (.sipush 257, 3) := by decide +kernel
theorem dX8_least_21 : decode cX8_least 21 = .ok (.if_icmp .ge 49, 3) := by decide +kernel
theorem dX8_least_24 : decode cX8_least 24 = .ok (.aload_n 0, 1) := by decide +kernel
theorem dX8_least_25 : decode cX8_least 25 = .ok (.iload 4, 2) := by decide +kernel
theorem dX8_least_27 : decode cX8_least 27 = .ok (.invokevirtual 212, 3) := by decide +kernel
theorem dX8_least_30 : decode cX8_least 30 = .ok (.aload_n 3, 1) := by decide +kernel
theorem dX8_least_31 : decode cX8_least 31 = .ok (.invokevirtual 164, 3) := by decide +kernel
theorem dX8_least_34 : decode cX8_least 34 = .ok (.iload_n 2, 1) := by decide +kernel
theorem dX8_least_35 : decode cX8_least 35 = .ok (.aload_n 0, 1) := by decide +kernel
theorem dX8_least_36 : decode cX8_least 36 = .ok (.getfield 33, 3) := by decide +kernel
theorem dX8_least_39 : decode cX8_least 39 = .ok (.invokevirtual 215, 3) := by decide +kernel
theorem dX8_least_42 : decode cX8_least 42 = .ok (.ifCond .eq 22, 3) := by decide +kernel
theorem dX8_least_45 : decode cX8_least 45 = .ok (.aload_n 0, 1) := by decide +kernel
theorem dX8_least_46 : decode cX8_least 46 = .ok (.getfield 19, 3) := by decide +kernel
theorem dX8_least_49 : decode cX8_least 49 = .ok (.aload_n 0, 1) := by decide +kernel
theorem dX8_least_50 : decode cX8_least 50 = .ok (.getfield 23, 3) := by decide +kernel
theorem dX8_least_53 : decode cX8_least 53 = .ok (.invokevirtual 205, 3) := by decide +kernel
theorem dX8_least_56 : decode cX8_least 56 = .ok (.aload_n 0, 1) := by decide +kernel
theorem dX8_least_57 : decode cX8_least 57 = .ok (.getfield 19, 3) := by decide +kernel
theorem dX8_least_60 : decode cX8_least 60 = .ok (.invokevirtual 98, 3) := by decide +kernel
theorem dX8_least_63 : decode cX8_least 63 = .ok (.ireturn, 1) := by decide +kernel
theorem dX8_least_64 : decode cX8_least 64 = .ok (.iinc 4 1, 3) := by decide +kernel
theorem dX8_least_67 : decode cX8_least 67 = .ok (.goto (-51), 3) := by decide +kernel
theorem dX8_least_70 : decode cX8_least 70 = .ok (.bipush (-3), 2) := by decide +kernel
theorem dX8_least_72 : decode cX8_least 72 = .ok (.ireturn, 1) := by decide +kernel
theorem dX8_unseen_0 : decode cX8_unseen 0 = .ok (.iload_n 1, 1) := by decide +kernel
theorem dX8_unseen_1 : decode cX8_unseen 1 = .ok (.invokestatic 151, 3) := by decide +kernel
theorem dX8_unseen_4 : decode cX8_unseen 4 = .ok (.ifCond .eq 16, 3) := by decide +kernel
theorem dX8_unseen_7 : decode cX8_unseen 7 = .ok (.aload_n 0, 1) := by decide +kernel
theorem dX8_unseen_8 : decode cX8_unseen 8 = .ok (.getfield 10, 3) := by decide +kernel
theorem dX8_unseen_11 : decode cX8_unseen 11 = .ok (.iload_n 1, 1) := by decide +kernel
theorem dX8_unseen_12 : decode cX8_unseen 12 = .ok (.iconst 2, 1) := by decide +kernel
theorem dX8_unseen_13 : decode cX8_unseen 13 = .ok (.idiv, 1) := by decide +kernel
theorem dX8_unseen_14 : decode cX8_unseen 14 = .ok (.invokevirtual 219, 3) := by decide +kernel
theorem dX8_unseen_17 : decode cX8_unseen 17 = .ok (.ifCond .ne 5, 3) := by decide +kernel
theorem dX8_unseen_20 : decode cX8_unseen 20 = .ok (.iconst (-1), 1) := by decide +kernel
theorem dX8_unseen_21 : decode cX8_unseen 21 = .ok (.ireturn, 1) := by decide +kernel
theorem dX8_unseen_22 : decode cX8_unseen 22 = .ok (.iconst 0, 1) := by decide +kernel
theorem dX8_unseen_23 : decode cX8_unseen 23 = .ok (.istore_n 2, 1) := by decide +kernel
theorem dX8_unseen_24 : decode cX8_unseen 24 = .ok (.iload_n 2, 1) := by decide +kernel
theorem dX8_unseen_25 : decode cX8_unseen 25 = .ok (.sipush 257, 3) := by decide +kernel
theorem dX8_unseen_28 : decode cX8_unseen 28 = .ok (.if_icmp .ge 27, 3) := by decide +kernel
theorem dX8_unseen_31 : decode cX8_unseen 31 = .ok (.aload_n 0, 1) := by decide +kernel
theorem dX8_unseen_32 : decode cX8_unseen 32 = .ok (.iload_n 2, 1) := by decide +kernel
theorem dX8_unseen_33 : decode cX8_unseen 33 = .ok (.invokevirtual 212, 3) := by decide +kernel
theorem dX8_unseen_36 : decode cX8_unseen 36 = .ok (.aload_n 0, 1) := by decide +kernel
theorem dX8_unseen_37 : decode cX8_unseen 37 = .ok (.getfield 33, 3) := by decide +kernel
theorem dX8_unseen_40 : decode cX8_unseen 40 = .ok (.iload_n 1, 1) := by decide +kernel
theorem dX8_unseen_41 : decode cX8_unseen 41 = .ok (.invokevirtual 154, 3) := by decide +kernel
theorem dX8_unseen_44 : decode cX8_unseen 44 = .ok (.ifCond .le 5, 3) := by decide +kernel
theorem dX8_unseen_47 : decode cX8_unseen 47 = .ok (.iconst 0, 1) := by decide +kernel
theorem dX8_unseen_48 : decode cX8_unseen 48 = .ok (.ireturn, 1) := by decide +kernel
theorem dX8_unseen_49 : decode cX8_unseen 49 = .ok (.iinc 2 1, 3) := by decide +kernel
theorem dX8_unseen_52 : decode cX8_unseen 52 = .ok (.goto (-28), 3) := by decide +kernel
theorem dX8_unseen_55 : decode cX8_unseen 55 = .ok (.iconst 1, 1) := by decide +kernel
theorem dX8_unseen_56 : decode cX8_unseen 56 = .ok (.ireturn, 1) := by decide +kernel
theorem dX8_merge_0 : decode cX8_merge 0 = .ok (.aload_n 0, 1) := by decide +kernel
theorem dX8_merge_1 : decode cX8_merge 1 = .ok (.iload_n 1, 1) := by decide +kernel
theorem dX8_merge_2 : decode cX8_merge 2 = .ok (.invokevirtual 108, 3) := by decide +kernel
theorem dX8_merge_5 : decode cX8_merge 5 = .ok (.astore_n 2, 1) := by decide +kernel
theorem dX8_merge_6 : decode cX8_merge 6 = .ok (.aload_n 2, 1) := by decide +kernel
theorem dX8_merge_7 : decode cX8_merge 7 = .ok (.ifnonnull 5, 3) := by decide +kernel
theorem dX8_merge_10 : decode cX8_merge 10 = .ok (.iconst (-1), 1) := by decide +kernel
theorem dX8_merge_11 : decode cX8_merge 11 = .ok (.ireturn, 1) := by decide +kernel
theorem dX8_merge_12 : decode cX8_merge 12 = .ok (.iload_n 1, 1) := by decide +kernel
theorem dX8_merge_13 : decode cX8_merge 13 = .ok (.ifCond .ne 10, 3) := by decide +kernel
theorem dX8_merge_16 : decode cX8_merge 16 = .ok (.aload_n 0, 1) := by decide +kernel
theorem dX8_merge_17 : decode cX8_merge 17 = .ok (.getfield 43, 3) := by decide +kernel
theorem dX8_merge_20 : decode cX8_merge 20 = .ok (.goto 7, 3) := by decide +kernel
theorem dX8_merge_23 : decode cX8_merge 23 = .ok (.aload_n 0, 1) := by decide +kernel
theorem dX8_merge_24 : decode cX8_merge 24 = .ok (.getfield 39, 3) := by decide +kernel
theorem dX8_merge_27 : decode cX8_merge 27 = .ok (.astore_n 3, 1) := by decide +kernel
theorem dX8_merge_28 : decode cX8_merge 28 = .ok (.aload_n 0, 1) := by decide +kernel
theorem dX8_merge_29 : decode cX8_merge 29 = .ok (.aload_n 2, 1) := by decide +kernel
theorem dX8_merge_30 : decode cX8_merge 30 = .ok (.aload_n 3, 1) := by decide +kernel
theorem dX8_merge_31 : decode cX8_merge 31 = .ok (.invokevirtual 115, 3) := by decide +kernel
theorem dX8_merge_34 : decode cX8_merge 34 = .ok (.invokevirtual 222, 3) := by decide +kernel
theorem dX8_merge_37 : decode cX8_merge 37 = .ok (.aload_n 0, 1) := by decide +kernel
theorem dX8_merge_38 : decode cX8_merge 38 = .ok (.aload_n 2, 1) := by decide +kernel
theorem dX8_merge_39 : decode cX8_merge 39 = .ok (.aload_n 3, 1) := by decide +kernel
theorem dX8_merge_40 : decode cX8_merge 40 = .ok (.invokevirtual 164, 3) := by decide +kernel
theorem dX8_merge_43 : decode cX8_merge 43 = .ok (.invokevirtual 194, 3) := by decide +kernel
theorem dX8_merge_46 : decode cX8_merge 46 = .ok (.invokevirtual 222, 3) := by decide +kernel
theorem dX8_merge_49 : decode cX8_merge 49 = .ok (.iadd, 1) := by decide +kernel
theorem dX8_merge_50 : decode cX8_merge 50 = .ok (.ireturn, 1) := by decide +kernel
theorem dX8_benchOf_0 : decode cX8_benchOf 0 = .ok (.iload_n 1, 1) := by decide +kernel
theorem dX8_benchOf_1 : decode cX8_benchOf 1 = .ok (.ifCond .ne 8, 3) := by decide +kernel
theorem dX8_benchOf_4 : decode cX8_benchOf 4 = .ok (.aload_n 0, 1) := by decide +kernel
theorem dX8_benchOf_5 : decode cX8_benchOf 5 = .ok (.getfield 39, 3) := by decide +kernel
theorem dX8_benchOf_8 : decode cX8_benchOf 8 = .ok (.areturn, 1) := by decide +kernel
theorem dX8_benchOf_9 : decode cX8_benchOf 9 = .ok (.iload_n 1, 1) := by decide +kernel
theorem dX8_benchOf_10 : decode cX8_benchOf 10 = .ok (.iconst 1, 1) := by decide +kernel
theorem dX8_benchOf_11 : decode cX8_benchOf 11 = .ok (.if_icmp .ne 10, 3) := by decide +kernel
theorem dX8_benchOf_14 : decode cX8_benchOf 14 = .ok (.aload_n 0, 1) := by decide +kernel
theorem dX8_benchOf_15 : decode cX8_benchOf 15 = .ok (.getfield 43, 3) := by decide +kernel
theorem dX8_benchOf_18 : decode cX8_benchOf 18 = .ok (.goto 4, 3) := by decide +kernel
theorem dX8_benchOf_21 : decode cX8_benchOf 21 = .ok (.aconst_null, 1) := by decide +kernel
theorem dX8_benchOf_22 : decode cX8_benchOf 22 = .ok (.areturn, 1) := by decide +kernel
theorem dX8_benchWithFault_0 : decode cX8_benchWithFault 0 = .ok (.aload_n 0, 1) := by decide +kernel
theorem dX8_benchWithFault_1 : decode cX8_benchWithFault 1 = .ok (.iload_n 1, 1) := by decide +kernel
theorem dX8_benchWithFault_2 : decode cX8_benchWithFault 2 = .ok (.invokevirtual 108, 3) := by decide +kernel
theorem dX8_benchWithFault_5 : decode cX8_benchWithFault 5 = .ok (.astore_n 3, 1) := by decide +kernel
theorem dX8_benchWithFault_6 : decode cX8_benchWithFault 6 = .ok (.aload_n 3, 1) := by decide +kernel
theorem dX8_benchWithFault_7 : decode cX8_benchWithFault 7 = .ok (.ifnull 18, 3) := by decide +kernel
theorem dX8_benchWithFault_10 : decode cX8_benchWithFault 10 = .ok (.aload_n 3, 1) := by decide +kernel
theorem dX8_benchWithFault_11 : decode cX8_benchWithFault 11 = .ok (.invokevirtual 164, 3) := by decide +kernel
theorem dX8_benchWithFault_14 : decode cX8_benchWithFault 14 = .ok (.iload_n 2, 1) := by decide +kernel
theorem dX8_benchWithFault_15 : decode cX8_benchWithFault 15 = .ok (.invokevirtual 226, 3) := by decide +kernel
theorem dX8_benchWithFault_18 : decode cX8_benchWithFault 18 = .ok (.ifCond .eq 7, 3) := by decide +kernel
theorem dX8_benchWithFault_21 : decode cX8_benchWithFault 21 = .ok (.aload_n 3, 1) := by decide +kernel
theorem dX8_benchWithFault_22 : decode cX8_benchWithFault 22 = .ok (.goto 4, 3) := by decide +kernel
theorem dX8_benchWithFault_25 : decode cX8_benchWithFault 25 = .ok (.aconst_null, 1) := by decide +kernel
theorem dX8_benchWithFault_26 : decode cX8_benchWithFault 26 = .ok (.areturn, 1) := by decide +kernel
theorem dX8_isOfAChange_0 : decode cX8_isOfAChange 0 = .ok (.iload_n 0, 1) := by decide +kernel
theorem dX8_isOfAChange_1 : decode cX8_isOfAChange 1 = .ok (.ifCond .lt 13, 3) := by decide +kernel
theorem dX8_isOfAChange_4 : decode cX8_isOfAChange 4 = .ok (.iload_n 0, 1) := by decide +kernel
theorem dX8_isOfAChange_5 : decode cX8_isOfAChange 5 = .ok (.ldc 227, 2) := by decide +kernel
theorem dX8_isOfAChange_7 : decode cX8_isOfAChange 7 = .ok (.if_icmp .gt 7, 3) := by decide +kernel
theorem dX8_isOfAChange_10 : decode cX8_isOfAChange 10 = .ok (.iconst 1, 1) := by decide +kernel
theorem dX8_isOfAChange_11 : decode cX8_isOfAChange 11 = .ok (.goto 4, 3) := by decide +kernel
theorem dX8_isOfAChange_14 : decode cX8_isOfAChange 14 = .ok (.iconst 0, 1) := by decide +kernel
theorem dX8_isOfAChange_15 : decode cX8_isOfAChange 15 = .ok (.ireturn, 1) := by decide +kernel
theorem dX8_probeSmallInput_0 : decode cX8_probeSmallInput 0 = .ok (.aload_n 0, 1) := by decide +kernel
theorem dX8_probeSmallInput_1 : decode cX8_probeSmallInput 1 = .ok (.getfield 23, 3) := by decide +kernel
theorem dX8_probeSmallInput_4 : decode cX8_probeSmallInput 4 = .ok (.iconst 0, 1) := by decide +kernel
theorem dX8_probeSmallInput_5 : decode cX8_probeSmallInput 5 = .ok (.invokevirtual 99, 3) := by decide +kernel
theorem dX8_probeSmallInput_8 : decode cX8_probeSmallInput 8 = .ok (.iload_n 1, 1) := by decide +kernel
theorem dX8_probeSmallInput_9 : decode cX8_probeSmallInput 9 = .ok (.ifCond .le 14, 3) := by decide +kernel
theorem dX8_probeSmallInput_12 : decode cX8_probeSmallInput 12 = .ok (.aload_n 0, 1) := by decide +kernel
theorem dX8_probeSmallInput_13 : decode cX8_probeSmallInput 13 = .ok (.getfield 23, 3) := by decide +kernel
theorem dX8_probeSmallInput_16 : decode cX8_probeSmallInput 16 = .ok (.iload_n 1, 1) := by decide +kernel
theorem dX8_probeSmallInput_17 : decode cX8_probeSmallInput 17 = .ok (.iconst 1, 1) := by decide +kernel
theorem dX8_probeSmallInput_18 : decode cX8_probeSmallInput 18 = .ok (.isub, 1) := by decide +kernel
theorem dX8_probeSmallInput_19 : decode cX8_probeSmallInput 19 = .ok (.invokevirtual 96, 3) := by decide +kernel
theorem dX8_probeSmallInput_22 : decode cX8_probeSmallInput 22 = .ok (.pop, 1) := by decide +kernel
theorem dX8_probeSmallInput_23 : decode cX8_probeSmallInput 23 = .ok (.aload_n 0, 1) := by decide +kernel
theorem dX8_probeSmallInput_24 : decode cX8_probeSmallInput 24 = .ok (.getfield 33, 3) := by decide +kernel
theorem dX8_probeSmallInput_27 : decode cX8_probeSmallInput 27 = .ok (.aload_n 0, 1) := by decide +kernel
theorem dX8_probeSmallInput_28 : decode cX8_probeSmallInput 28 = .ok (.getfield 10, 3) := by decide +kernel
theorem dX8_probeSmallInput_31 : decode cX8_probeSmallInput 31 = .ok (.aload_n 0, 1) := by decide +kernel
theorem dX8_probeSmallInput_32 : decode cX8_probeSmallInput 32 = .ok (.getfield 23, 3) := by decide +kernel
theorem dX8_probeSmallInput_35 : decode cX8_probeSmallInput 35 = .ok (.invokevirtual 123, 3) := by decide +kernel
theorem dX8_probeSmallInput_38 : decode cX8_probeSmallInput 38 = .ok (.return_, 1) := by decide +kernel
theorem dX8_takeAll_0 : decode cX8_takeAll 0 = .ok (.iconst 0, 1) := by decide +kernel
theorem dX8_takeAll_1 : decode cX8_takeAll 1 = .ok (.istore_n 3, 1) := by decide +kernel
theorem dX8_takeAll_2 : decode cX8_takeAll 2 = .ok (.iconst 0, 1) := by decide +kernel
theorem dX8_takeAll_3 : decode cX8_takeAll 3 = .ok (.istore 4, 2) := by decide +kernel
theorem dX8_takeAll_5 : decode cX8_takeAll 5 = .ok (.iload 4, 2) := by decide +kernel
theorem dX8_takeAll_7 : decode cX8_takeAll 7 = .ok (.aload_n 2, 1) := by decide +kernel
theorem dX8_takeAll_8 : decode cX8_takeAll 8 = .ok (.invokevirtual 161, 3) := by decide +kernel
theorem dX8_takeAll_11 : decode cX8_takeAll 11 = .ok (.if_icmp .ge 51, 3) := by decide +kernel
theorem dX8_takeAll_14 : decode cX8_takeAll 14 = .ok (.aload_n 2, 1) := by decide +kernel
theorem dX8_takeAll_15 : decode cX8_takeAll 15 = .ok (.iload 4, 2) := by decide +kernel
theorem dX8_takeAll_17 : decode cX8_takeAll 17 = .ok (.aload_n 0, 1) := by decide +kernel
theorem dX8_takeAll_18 : decode cX8_takeAll 18 = .ok (.getfield 23, 3) := by decide +kernel
theorem dX8_takeAll_21 : decode cX8_takeAll 21 = .ok (.invokevirtual 185, 3) := by decide +kernel
theorem dX8_takeAll_24 : decode cX8_takeAll 24 = .ok (.aload_n 0, 1) := by decide +kernel
theorem dX8_takeAll_25 : decode cX8_takeAll 25 = .ok (.getfield 33, 3) := by decide +kernel
theorem dX8_takeAll_28 : decode cX8_takeAll 28 = .ok (.aload_n 0, 1) := by decide +kernel
theorem dX8_takeAll_29 : decode cX8_takeAll 29 = .ok (.getfield 10, 3) := by decide +kernel
theorem dX8_takeAll_32 : decode cX8_takeAll 32 = .ok (.aload_n 0, 1) := by decide +kernel
theorem dX8_takeAll_33 : decode cX8_takeAll 33 = .ok (.getfield 23, 3) := by decide +kernel
theorem dX8_takeAll_36 : decode cX8_takeAll 36 = .ok (.invokevirtual 123, 3) := by decide +kernel
theorem dX8_takeAll_39 : decode cX8_takeAll 39 = .ok (.iload_n 3, 1) := by decide +kernel
theorem dX8_takeAll_40 : decode cX8_takeAll 40 = .ok (.aload_n 1, 1) := by decide +kernel
theorem dX8_takeAll_41 : decode cX8_takeAll 41 = .ok (.aload_n 0, 1) := by decide +kernel
theorem dX8_takeAll_42 : decode cX8_takeAll 42 = .ok (.getfield 33, 3) := by decide +kernel
theorem dX8_takeAll_45 : decode cX8_takeAll 45 = .ok (.aload_n 0, 1) := by decide +kernel
theorem dX8_takeAll_46 : decode cX8_takeAll 46 = .ok (.getfield 23, 3) := by decide +kernel
theorem dX8_takeAll_49 : decode cX8_takeAll 49 = .ok (.invokevirtual 157, 3) := by decide +kernel
theorem dX8_takeAll_52 : decode cX8_takeAll 52 = .ok (.iconst 1, 1) := by decide +kernel
theorem dX8_takeAll_53 : decode cX8_takeAll 53 = .ok (.iand, 1) := by decide +kernel
theorem dX8_takeAll_54 : decode cX8_takeAll 54 = .ok (.iadd, 1) := by decide +kernel
theorem dX8_takeAll_55 : decode cX8_takeAll 55 = .ok (.istore_n 3, 1) := by decide +kernel
theorem dX8_takeAll_56 : decode cX8_takeAll 56 = .ok (.iinc 4 1, 3) := by decide +kernel
theorem dX8_takeAll_59 : decode cX8_takeAll 59 = .ok (.goto (-54), 3) := by decide +kernel
theorem dX8_takeAll_62 : decode cX8_takeAll 62 = .ok (.iload_n 3, 1) := by decide +kernel
theorem dX8_takeAll_63 : decode cX8_takeAll 63 = .ok (.ireturn, 1) := by decide +kernel
