theorem dX7_init_0 : decode cX7_init 0 = .ok (.aload_n 0, 1) := by decide +kernel
theorem dX7_init_1 : decode cX7_init 1 = .ok (.invokespecial 3, 3) := by decide +kernel
theorem dX7_init_4 : decode cX7_init 4 = .ok (.aload_n 0, 1) := by decide +kernel
theorem dX7_init_5 : decode cX7_init 5 = .ok (.bipush 8, 2) := by decide +kernel
theorem dX7_init_7 : decode cX7_init 7 = .ok (.newarray .int, 2) := by decide +kernel
theorem dX7_init_9 : decode cX7_init 9 = .ok (.putfield 11, 3) := by decide +kernel
theorem dX7_init_12 : decode cX7_init 12 = .ok (.aload_n 0, 1) := by decide +kernel
theorem dX7_init_13 : decode cX7_init 13 = .ok (.bipush 16, 2) := by decide +kernel
theorem dX7_init_15 : decode cX7_init 15 = .ok (.newarray .int, 2) := by decide +kernel
theorem dX7_init_17 : decode cX7_init 17 = .ok (.putfield 15, 3) := by decide +kernel
theorem dX7_init_20 : decode cX7_init 20 = .ok (.aload_n 0, 1) := by decide +kernel
theorem dX7_init_21 : decode cX7_init 21 = .ok (.bipush 8, 2) := by decide +kernel
theorem dX7_init_23 : decode cX7_init 23 = .ok (.newarray .int, 2) := by decide +kernel
theorem dX7_init_25 : decode cX7_init 25 = .ok (.putfield 18, 3) := by decide +kernel
theorem dX7_init_28 : decode cX7_init 28 = .ok (.aload_n 0, 1) := by decide +kernel
theorem dX7_init_29 : decode cX7_init 29 = .ok (.sipush 160, 3) := by decide +kernel
theorem dX7_init_32 : decode cX7_init 32 = .ok (.newarray .int, 2) := by decide +kernel
theorem dX7_init_34 : decode cX7_init 34 = .ok (.putfield 21, 3) := by decide +kernel
theorem dX7_init_37 : decode cX7_init 37 = .ok (.aload_n 0, 1) := by decide +kernel
theorem dX7_init_38 : decode cX7_init 38 = .ok (.iconst 0, 1) := by decide +kernel
theorem dX7_init_39 : decode cX7_init 39 = .ok (.putfield 24, 3) := by decide +kernel
theorem dX7_init_42 : decode cX7_init 42 = .ok (.aload_n 0, 1) := by decide +kernel
theorem dX7_init_43 : decode cX7_init 43 = .ok (.iconst 0, 1) := by decide +kernel
theorem dX7_init_44 : decode cX7_init 44 = .ok (.putfield 28, 3) := by decide +kernel
theorem dX7_init_47 : decode cX7_init 47 = .ok (.aload_n 0, 1) := by decide +kernel
theorem dX7_init_48 : decode cX7_init 48 = .ok (.iconst (-1), 1) := by decide +kernel
theorem dX7_init_49 : decode cX7_init 49 = .ok (.putfield 31, 3) := by decide +kernel
theorem dX7_init_52 : decode cX7_init 52 = .ok (.aload_n 0, 1) := by decide +kernel
theorem dX7_init_53 : decode cX7_init 53 = .ok (.iconst 0, 1) := by decide +kernel
theorem dX7_init_54 : decode cX7_init 54 = .ok (.putfield 34, 3) := by decide +kernel
theorem dX7_init_57 : decode cX7_init 57 = .ok (.aload_n 0, 1) := by decide +kernel
theorem dX7_init_58 : decode cX7_init 58 = .ok (.iconst 0, 1) := by decide +kernel
theorem dX7_init_59 : decode cX7_init 59 = .ok (.putfield 37, 3) := by decide +kernel
theorem dX7_init_62 : decode cX7_init 62 = .ok (.aload_n 0, 1) := by decide +kernel
theorem dX7_init_63 : decode cX7_init 63 = .ok (.iconst 0, 1) := by decide +kernel
theorem dX7_init_64 : decode cX7_init 64 = .ok (.putfield 40, 3) := by decide +kernel
theorem dX7_init_67 : decode cX7_init 67 = .ok (.aload_n 0, 1) := by decide +kernel
theorem dX7_init_68 : decode cX7_init 68 = .ok (.iconst 0, 1) := by decide +kernel
theorem dX7_init_69 : decode cX7_init 69 = .ok (.putfield 43, 3) := by decide +kernel
theorem dX7_init_72 : decode cX7_init 72 = .ok (.aload_n 0, 1) := by decide +kernel
theorem dX7_init_73 : decode cX7_init 73 = .ok (.iconst 0, 1) := by decide +kernel
theorem dX7_init_74 : decode cX7_init 74 = .ok (.putfield 46, 3) := by decide +kernel
theorem dX7_init_77 : decode cX7_init 77 = .ok (.return_, 1) := by decide +kernel
theorem dX7_isRegister_0 : decode cX7_isRegister 0 = .ok (.iload_n 0, 1) := by decide +kernel
theorem dX7_isRegister_1 : decode cX7_isRegister 1 = .ok (.ifCond .lt 13, 3) := by decide +kernel
theorem dX7_isRegister_4 : decode cX7_isRegister 4 = .ok (.iload_n 0, 1) := by decide +kernel
theorem dX7_isRegister_5 : decode cX7_isRegister 5 = .ok (.bipush 8, 2) := by decide +kernel
theorem dX7_isRegister_7 : decode cX7_isRegister 7 = .ok (.if_icmp .ge 7, 3) := by decide +kernel
theorem dX7_isRegister_10 : decode cX7_isRegister 10 = .ok (.iconst 1, 1) := by decide +kernel
theorem dX7_isRegister_11 : decode cX7_isRegister 11 = .ok (.goto 4, 3) := by decide +kernel
theorem dX7_isRegister_14 : decode cX7_isRegister 14 = .ok (.iconst 0, 1) := by decide +kernel
theorem dX7_isRegister_15 : decode cX7_isRegister 15 = .ok (.ireturn, 1) := by decide +kernel
theorem dX7_isBranch_0 : decode cX7_isBranch 0 = .ok (.iload_n 0, 1) := by decide +kernel
theorem dX7_isBranch_1 : decode cX7_isBranch 1 = .ok (.ifCond .lt 14, 3) := by decide +kernel
theorem dX7_isBranch_4 : decode cX7_isBranch 4 = .ok (.iload_n 0, 1) := by decide +kernel
theorem dX7_isBranch_5 : decode cX7_isBranch 5 = .ok (.sipush 160, 3) := by decide +kernel
theorem dX7_isBranch_8 : decode cX7_isBranch 8 = .ok (.if_icmp .ge 7, 3) := by decide +kernel
theorem dX7_isBranch_11 : decode cX7_isBranch 11 = .ok (.iconst 1, 1) := by decide +kernel
theorem dX7_isBranch_12 : decode cX7_isBranch 12 = .ok (.goto 4, 3) := by decide +kernel
theorem dX7_isBranch_15 : decode cX7_isBranch 15 = .ok (.iconst 0, 1) := by decide +kernel
theorem dX7_isBranch_16 : decode cX7_isBranch 16 = .ok (.ireturn, 1) := by decide +kernel
theorem dX7_isInRow_0 : decode cX7_isInRow 0 = .ok (.iload_n 0, 1) := by decide +kernel
theorem dX7_isInRow_1 : decode cX7_isInRow 1 = .ok (.ifCond .lt 13, 3) := by decide +kernel
theorem dX7_isInRow_4 : decode cX7_isInRow 4 = .ok (.iload_n 0, 1) := by decide +kernel
theorem dX7_isInRow_5 : decode cX7_isInRow 5 = .ok (.bipush 16, 2) := by decide +kernel
theorem dX7_isInRow_7 : decode cX7_isInRow 7 = .ok (.if_icmp .ge 7, 3) := by decide +kernel
theorem dX7_isInRow_10 : decode cX7_isInRow 10 = .ok (.iconst 1, 1) := by decide +kernel
theorem dX7_isInRow_11 : decode cX7_isInRow 11 = .ok (.goto 4, 3) := by decide +kernel
theorem dX7_isInRow_14 : decode cX7_isInRow 14 = .ok (.iconst 0, 1) := by decide +kernel
theorem dX7_isInRow_15 : decode cX7_isInRow 15 = .ok (.ireturn, 1) := by decide +kernel
theorem dX7_kind_0 : decode cX7_kind 0 = .ok (.aload_n 0, 1) := by decide +kernel
theorem dX7_kind_1 : decode cX7_kind 1 = .ok (.getfield 28, 3) := by decide +kernel
theorem dX7_kind_4 : decode cX7_kind 4 = .ok (.ireturn, 1) := by decide +kernel
theorem dX7_place_0 : decode cX7_place 0 = .ok (.aload_n 0, 1) := by decide +kernel
theorem dX7_place_1 : decode cX7_place 1 = .ok (.getfield 31, 3) := by decide +kernel
theorem dX7_place_4 : decode cX7_place 4 = .ok (.ireturn, 1) := by decide +kernel
theorem dX7_depth_0 : decode cX7_depth 0 = .ok (.aload_n 0, 1) := by decide +kernel
theorem dX7_depth_1 : decode cX7_depth 1 = .ok (.getfield 24, 3) := by decide +kernel
theorem dX7_depth_4 : decode cX7_depth 4 = .ok (.ireturn, 1) := by decide +kernel
theorem dX7_steps_0 : decode cX7_steps 0 = .ok (.aload_n 0, 1) := by decide +kernel
theorem dX7_steps_1 : decode cX7_steps 1 = .ok (.getfield 34, 3) := by decide +kernel
theorem dX7_steps_4 : decode cX7_steps 4 = .ok (.ireturn, 1) := by decide +kernel
theorem dX7_value_0 : decode cX7_value 0 = .ok (.iload_n 1, 1) := by decide +kernel
theorem dX7_value_1 : decode cX7_value 1 = .ok (.ifCond .lt 18, 3) := by decide +kernel
theorem dX7_value_4 : decode cX7_value 4 = .ok (.iload_n 1, 1) := by decide +kernel
theorem dX7_value_5 : decode cX7_value 5 = .ok (.bipush 8, 2) := by decide +kernel
theorem dX7_value_7 : decode cX7_value 7 = .ok (.if_icmp .ge 12, 3) := by decide +kernel
theorem dX7_value_10 : decode cX7_value 10 = .ok (.aload_n 0, 1) := by decide +kernel
theorem dX7_value_11 : decode cX7_value 11 = .ok (.getfield 11, 3) := by decide +kernel
theorem dX7_value_14 : decode cX7_value 14 = .ok (.iload_n 1, 1) := by decide +kernel
theorem dX7_value_15 : decode cX7_value 15 = .ok (.iaload, 1) := by decide +kernel
theorem dX7_value_16 : decode cX7_value 16 = .ok (.goto 4, 3) := by decide +kernel
theorem dX7_value_19 : decode cX7_value 19 = .ok (.iconst 0, 1) := by decide +kernel
theorem dX7_value_20 : decode cX7_value 20 = .ok (.ireturn, 1) := by decide +kernel
theorem dX7_turnsOf_0 : decode cX7_turnsOf 0 = .ok (.iload_n 1, 1) := by decide +kernel
theorem dX7_turnsOf_1 : decode cX7_turnsOf 1 = .ok (.invokestatic 50, 3) := by decide +kernel
theorem dX7_turnsOf_4 : decode cX7_turnsOf 4 = .ok (.ifCond .eq 12, 3) := by decide +kernel
theorem dX7_turnsOf_7 : decode cX7_turnsOf 7 = .ok (.aload_n 0, 1) := by decide +kernel
theorem dX7_turnsOf_8 : decode cX7_turnsOf 8 = .ok (.getfield 21, 3) := by decide +kernel
theorem dX7_turnsOf_11 : decode cX7_turnsOf 11 = .ok (.iload_n 1, 1) := by decide +kernel
theorem dX7_turnsOf_12 : decode cX7_turnsOf 12 = .ok (.iaload, 1) := by decide +kernel
theorem dX7_turnsOf_13 : decode cX7_turnsOf 13 = .ok (.goto 4, 3) := by decide +kernel
theorem dX7_turnsOf_16 : decode cX7_turnsOf 16 = .ok (.iconst 0, 1) := by decide +kernel
theorem dX7_turnsOf_17 : decode cX7_turnsOf 17 = .ok (.ireturn, 1) := by decide +kernel
theorem dX7_openCall_0 : decode cX7_openCall 0 = .ok (.iload_n 1, 1) := by decide +kernel
theorem dX7_openCall_1 : decode cX7_openCall 1 = .ok (.ifCond .lt 20, 3) := by decide +kernel
theorem dX7_openCall_4 : decode cX7_openCall 4 = .ok (.iload_n 1, 1) := by decide +kernel
theorem dX7_openCall_5 : decode cX7_openCall 5 = .ok (.aload_n 0, 1) := by decide +kernel
theorem dX7_openCall_6 : decode cX7_openCall 6 = .ok (.getfield 24, 3) := by decide +kernel
theorem dX7_openCall_9 : decode cX7_openCall 9 = .ok (.if_icmp .ge 12, 3) := by decide +kernel
theorem dX7_openCall_12 : decode cX7_openCall 12 = .ok (.aload_n 0, 1) := by decide +kernel
theorem dX7_openCall_13 : decode cX7_openCall 13 = .ok (.getfield 24, 3) := by decide +kernel
theorem dX7_openCall_16 : decode cX7_openCall 16 = .ok (.bipush 8, 2) := by decide +kernel
theorem dX7_openCall_18 : decode cX7_openCall 18 = .ok (.if_icmp .le 5, 3) := by decide +kernel
theorem dX7_openCall_21 : decode cX7_openCall 21 = .ok (.iconst (-1), 1) := by decide +kernel
theorem dX7_openCall_22 : decode cX7_openCall 22 = .ok (.ireturn, 1) := by decide +kernel
theorem dX7_openCall_23 : decode cX7_openCall 23 = .ok (.aload_n 0, 1) := by decide +kernel
theorem dX7_openCall_24 : decode cX7_openCall 24 = .ok (.getfield 18, 3) := by decide +kernel
theorem dX7_openCall_27 : decode cX7_openCall 27 = .ok (.aload_n 0, 1) := by decide +kernel
theorem dX7_openCall_28 : decode cX7_openCall 28 = .ok (.getfield 24, 3) := by decide +kernel
theorem dX7_openCall_31 : decode cX7_openCall 31 = .ok (.iconst 1, 1) := by decide +kernel
theorem dX7_openCall_32 : decode cX7_openCall 32 = .ok (.isub, 1) := by decide +kernel
theorem dX7_openCall_33 : decode cX7_openCall 33 = .ok (.iload_n 1, 1) := by decide +kernel
theorem dX7_openCall_34 : decode cX7_openCall 34 = .ok (.isub, 1) := by decide +kernel
theorem dX7_openCall_35 : decode cX7_openCall 35 = .ok (.iaload, 1) := by decide +kernel
theorem dX7_openCall_36 : decode cX7_openCall 36 = .ok (.ireturn, 1) := by decide +kernel
theorem dX7_branchesReached_0 : decode cX7_branchesReached 0 = .ok (.iconst 0, 1) := by decide +kernel
theorem dX7_branchesReached_1 : decode cX7_branchesReached 1 = .ok (.istore_n 1, 1) := by decide +kernel
theorem dX7_branchesReached_2 : decode cX7_branchesReached 2 = .ok (.iconst 0, 1) := by decide +kernel
theorem dX7_branchesReached_3 : decode cX7_branchesReached 3 = .ok (.istore_n 2, 1) := by decide +kernel
theorem dX7_branchesReached_4 : decode cX7_branchesReached 4 = .ok (.iload_n 2, 1) := by decide +kernel
theorem dX7_branchesReached_5 : decode cX7_branchesReached 5 = .ok (.sipush 160, 3) := by decide +kernel
theorem dX7_branchesReached_8 : decode cX7_branchesReached 8 = .ok (.if_icmp .ge 21, 3) := by decide +kernel
theorem dX7_branchesReached_11 : decode cX7_branchesReached 11 = .ok (.aload_n 0, 1) := by decide +kernel
theorem dX7_branchesReached_12 : decode cX7_branchesReached 12 = .ok (.getfield 21, 3) := by decide +kernel
theorem dX7_branchesReached_15 : decode cX7_branchesReached 15 = .ok (.iload_n 2, 1) := by decide +kernel
theorem dX7_branchesReached_16 : decode cX7_branchesReached 16 = .ok (.iaload, 1) := by decide +kernel
theorem dX7_branchesReached_17 : decode cX7_branchesReached 17 = .ok (.ifCond .le 6, 3) := by decide +kernel
theorem dX7_branchesReached_20 : decode cX7_branchesReached 20 = .ok (.iinc 1 1, 3) := by decide +kernel
theorem dX7_branchesReached_23 : decode cX7_branchesReached 23 = .ok (.iinc 2 1, 3) := by decide +kernel
theorem dX7_branchesReached_26 : decode cX7_branchesReached 26 = .ok (.goto (-22), 3) := by decide +kernel
theorem dX7_branchesReached_29 : decode cX7_branchesReached 29 = .ok (.iload_n 1, 1) := by decide +kernel
theorem dX7_branchesReached_30 : decode cX7_branchesReached 30 = .ok (.ireturn, 1) := by decide +kernel
theorem dX7_execute_0 : decode cX7_execute 0 = .ok (.aload_n 0, 1) := by decide +kernel
theorem dX7_execute_1 : decode cX7_execute 1 = .ok (.invokevirtual 54, 3) := by decide +kernel
theorem dX7_execute_4 : decode cX7_execute 4 = .ok (.aload_n 0, 1) := by decide +kernel
theorem dX7_execute_5 : decode cX7_execute 5 = .ok (.iconst 0, 1) := by decide +kernel
theorem dX7_execute_6 : decode cX7_execute 6 = .ok (.putfield 34, 3) := by decide +kernel
theorem dX7_execute_9 : decode cX7_execute 9 = .ok (.aload_n 0, 1) := by decide +kernel
theorem dX7_execute_10 : decode cX7_execute 10 = .ok (.getfield 34, 3) := by decide +kernel
theorem dX7_execute_13 : decode cX7_execute 13 = .ok (.sipush 400, 3) := by decide +kernel
theorem dX7_execute_16 : decode cX7_execute 16 = .ok (.if_icmp .ge 194, 3) := by decide +kernel
theorem dX7_execute_19 : decode cX7_execute 19 = .ok (.aload_n 0, 1) := by decide +kernel
theorem dX7_execute_20 : decode cX7_execute 20 = .ok (.aload_n 1, 1) := by decide +kernel
theorem dX7_execute_21 : decode cX7_execute 21 = .ok (.invokevirtual 57, 3) := by decide +kernel
theorem dX7_execute_24 : decode cX7_execute 24 = .ok (.ifCond .eq 186, 3) := by decide +kernel
theorem dX7_execute_27 : decode cX7_execute 27 = .ok (.aload_n 1, 1) := by decide +kernel
theorem dX7_execute_28 : decode cX7_execute 28 = .ok (.aload_n 0, 1) := by decide +kernel
theorem dX7_execute_29 : decode cX7_execute 29 = .ok (.getfield 40, 3) := by decide +kernel
theorem dX7_execute_32 : decode cX7_execute 32 = .ok (.iconst 0, 1) := by decide +kernel
theorem dX7_execute_33 : decode cX7_execute 33 = .ok (.invokevirtual 63, 3) := by decide +kernel
theorem dX7_execute_36 : decode cX7_execute 36 = .ok (.istore_n 3, 1) := by decide +kernel
theorem dX7_execute_37 : decode cX7_execute 37 = .ok (.aload_n 1, 1) := by decide +kernel
theorem dX7_execute_38 : decode cX7_execute 38 = .ok (.aload_n 0, 1) := by decide +kernel
theorem dX7_execute_39 : decode cX7_execute 39 = .ok (.getfield 40, 3) := by decide +kernel
theorem dX7_execute_42 : decode cX7_execute 42 = .ok (.iconst 1, 1) := by decide +kernel
theorem dX7_execute_43 : decode cX7_execute 43 = .ok (.invokevirtual 63, 3) := by decide +kernel
theorem dX7_execute_46 : decode cX7_execute 46 = .ok (.istore 4, 2) := by decide +kernel
theorem dX7_execute_48 : decode cX7_execute 48 = .ok (.aload_n 1, 1) := by decide +kernel
theorem dX7_execute_49 : decode cX7_execute 49 = .ok (.aload_n 0, 1) := by decide +kernel
theorem dX7_execute_50 : decode cX7_execute 50 = .ok (.getfield 40, 3) := by decide +kernel
theorem dX7_execute_53 : decode cX7_execute 53 = .ok (.iconst 2, 1) := by decide +kernel
theorem dX7_execute_54 : decode cX7_execute 54 = .ok (.invokevirtual 63, 3) := by decide +kernel
theorem dX7_execute_57 : decode cX7_execute 57 = .ok (.istore 5, 2) := by decide +kernel
theorem dX7_execute_59 : decode cX7_execute 59 = .ok (.aload_n 1, 1) := by decide +kernel
theorem dX7_execute_60 : decode cX7_execute 60 = .ok (.aload_n 0, 1) := by decide +kernel
theorem dX7_execute_61 : decode cX7_execute 61 = .ok (.getfield 40, 3) := by decide +kernel
theorem dX7_execute_64 : decode cX7_execute 64 = .ok (.iconst 3, 1) := by decide +kernel
theorem dX7_execute_65 : decode cX7_execute 65 = .ok (.invokevirtual 63, 3) := by decide +kernel
theorem dX7_execute_68 : decode cX7_execute 68 = .ok (.istore 6, 2) := by decide +kernel
theorem dX7_execute_70 : decode cX7_execute 70 = .ok (.aload_n 0, 1) := by decide +kernel
theorem dX7_execute_71 : decode cX7_execute 71 = .ok (.aload_n 0, 1) := by decide +kernel
theorem dX7_execute_72 : decode cX7_execute 72 = .ok (.getfield 40, 3) := by decide +kernel
theorem dX7_execute_75 : decode cX7_execute 75 = .ok (.iconst 1, 1) := by decide +kernel
theorem dX7_execute_76 : decode cX7_execute 76 = .ok (.iadd, 1) := by decide +kernel
theorem dX7_execute_77 : decode cX7_execute 77 = .ok (.putfield 43, 3) := by decide +kernel
theorem dX7_execute_80 : decode cX7_execute 80 = .ok (.iload_n 3, 1) := by decide +kernel
theorem dX7_execute_81 : decode cX7_execute 81 = .ok (.iconst 5, 1) := by decide +kernel
theorem dX7_execute_82 : decode cX7_execute 82 = .ok (.if_icmp .gt 15, 3) := by decide +kernel
theorem dX7_execute_85 : decode cX7_execute 85 = .ok (.aload_n 0, 1) := by decide +kernel
theorem dX7_execute_86 : decode cX7_execute 86 = .ok (.iload_n 3, 1) := by decide +kernel
theorem dX7_execute_87 : decode cX7_execute 87 = .ok (.iload 4, 2) := by decide +kernel
theorem dX7_execute_89 : decode cX7_execute 89 = .ok (.iload 5, 2) := by decide +kernel
theorem dX7_execute_91 : decode cX7_execute 91 = .ok (.invokevirtual 67, 3) := by decide +kernel
theorem dX7_execute_94 : decode cX7_execute 94 = .ok (.goto 95, 3) := by decide +kernel
theorem dX7_execute_97 : decode cX7_execute 97 = .ok (.iload_n 3, 1) := by decide +kernel
theorem dX7_execute_98 : decode cX7_execute 98 = .ok (.bipush 8, 2) := by decide +kernel
theorem dX7_execute_100 : decode cX7_execute 100 = .ok (.if_icmp .gt 16, 3) := by decide +kernel
theorem dX7_execute_103 : decode cX7_execute 103 = .ok (.aload_n 0, 1) := by decide +kernel
theorem dX7_execute_104 : decode cX7_execute 104 = .ok (.iload_n 3, 1) := by decide +kernel
theorem dX7_execute_105 : decode cX7_execute 105 = .ok (.iload 4, 2) := by decide +kernel
theorem dX7_execute_107 : decode cX7_execute 107 = .ok (.iload 5, 2) := by decide +kernel
theorem dX7_execute_109 : decode cX7_execute 109 = .ok (.aload_n 2, 1) := by decide +kernel
theorem dX7_execute_110 : decode cX7_execute 110 = .ok (.invokevirtual 71, 3) := by decide +kernel
theorem dX7_execute_113 : decode cX7_execute 113 = .ok (.goto 76, 3) := by decide +kernel
theorem dX7_execute_116 : decode cX7_execute 116 = .ok (.iload_n 3, 1) := by decide +kernel
theorem dX7_execute_117 : decode cX7_execute 117 = .ok (.bipush 10, 2) := by decide +kernel
theorem dX7_execute_119 : decode cX7_execute 119 = .ok (.if_icmp .gt 15, 3) := by decide +kernel
theorem dX7_execute_122 : decode cX7_execute 122 = .ok (.aload_n 0, 1) := by decide +kernel
theorem dX7_execute_123 : decode cX7_execute 123 = .ok (.iload_n 3, 1) := by decide +kernel
theorem dX7_execute_124 : decode cX7_execute 124 = .ok (.iload 4, 2) := by decide +kernel
theorem dX7_execute_126 : decode cX7_execute 126 = .ok (.iload 5, 2) := by decide +kernel
theorem dX7_execute_128 : decode cX7_execute 128 = .ok (.invokevirtual 75, 3) := by decide +kernel
theorem dX7_execute_131 : decode cX7_execute 131 = .ok (.goto 58, 3) := by decide +kernel
theorem dX7_execute_134 : decode cX7_execute 134 = .ok (.iload_n 3, 1) := by decide +kernel
theorem dX7_execute_135 : decode cX7_execute 135 = .ok (.bipush 13, 2) := by decide +kernel
theorem dX7_execute_137 : decode cX7_execute 137 = .ok (.if_icmp .gt 17, 3) := by decide +kernel
theorem dX7_execute_140 : decode cX7_execute 140 = .ok (.aload_n 0, 1) := by decide +kernel
theorem dX7_execute_141 : decode cX7_execute 141 = .ok (.iload_n 3, 1) := by decide +kernel
theorem dX7_execute_142 : decode cX7_execute 142 = .ok (.iload 4, 2) := by decide +kernel
theorem dX7_execute_144 : decode cX7_execute 144 = .ok (.iload 5, 2) := by decide +kernel
theorem dX7_execute_146 : decode cX7_execute 146 = .ok (.iload 6, 2) := by decide +kernel
theorem dX7_execute_148 : decode cX7_execute 148 = .ok (.invokevirtual 78, 3) := by decide +kernel
theorem dX7_execute_151 : decode cX7_execute 151 = .ok (.goto 38, 3) := by decide +kernel
theorem dX7_execute_154 : decode cX7_execute 154 = .ok (.iload_n 3, 1) := by decide +kernel
theorem dX7_execute_155 : decode cX7_execute 155 = .ok (.bipush 14, 2) := by decide +kernel
theorem dX7_execute_157 : decode cX7_execute 157 = .ok (.if_icmp .ne 12, 3) := by decide +kernel
theorem dX7_execute_160 : decode cX7_execute 160 = .ok (.aload_n 0, 1) := by decide +kernel
theorem dX7_execute_161 : decode cX7_execute 161 = .ok (.iload 6, 2) := by decide +kernel
theorem dX7_execute_163 : decode cX7_execute 163 = .ok (.invokevirtual 82, 3) := by decide +kernel
theorem dX7_execute_166 : decode cX7_execute 166 = .ok (.goto 23, 3) := by decide +kernel
theorem dX7_execute_169 : decode cX7_execute 169 = .ok (.iload_n 3, 1) := by decide +kernel
theorem dX7_execute_170 : decode cX7_execute 170 = .ok (.bipush 15, 2) := by decide +kernel
theorem dX7_execute_172 : decode cX7_execute 172 = .ok (.if_icmp .ne 10, 3) := by decide +kernel
theorem dX7_execute_175 : decode cX7_execute 175 = .ok (.aload_n 0, 1) := by decide +kernel
theorem dX7_execute_176 : decode cX7_execute 176 = .ok (.invokevirtual 86, 3) := by decide +kernel
theorem dX7_execute_179 : decode cX7_execute 179 = .ok (.goto 10, 3) := by decide +kernel
theorem dX7_execute_182 : decode cX7_execute 182 = .ok (.aload_n 0, 1) := by decide +kernel
theorem dX7_execute_183 : decode cX7_execute 183 = .ok (.iload_n 3, 1) := by decide +kernel
theorem dX7_execute_184 : decode cX7_execute 184 = .ok (.iload 4, 2) := by decide +kernel
theorem dX7_execute_186 : decode cX7_execute 186 = .ok (.invokevirtual 89, 3) := by decide +kernel
theorem dX7_execute_189 : decode cX7_execute 189 = .ok (.aload_n 0, 1) := by decide +kernel
theorem dX7_execute_190 : decode cX7_execute 190 = .ok (.aload_n 0, 1) := by decide +kernel
theorem dX7_execute_191 : decode cX7_execute 191 = .ok (.getfield 43, 3) := by decide +kernel
theorem dX7_execute_194 : decode cX7_execute 194 = .ok (.putfield 40, 3) := by decide +kernel
theorem dX7_execute_197 : decode cX7_execute 197 = .ok (.aload_n 0, 1) := by decide +kernel
theorem dX7_execute_198 : decode cX7_execute 198 = .ok (.dup, 1) := by decide +kernel
theorem dX7_execute_199 : decode cX7_execute 199 = .ok (.getfield 34, 3) := by decide +kernel
theorem dX7_execute_202 : decode cX7_execute 202 = .ok (.iconst 1, 1) := by decide +kernel
theorem dX7_execute_203 : decode cX7_execute 203 = .ok (.iadd, 1) := by decide +kernel
theorem dX7_execute_204 : decode cX7_execute 204 = .ok (.putfield 34, 3) := by decide +kernel
theorem dX7_execute_207 : decode cX7_execute 207 = .ok (.goto (-198), 3) := by decide +kernel
theorem dX7_execute_210 : decode cX7_execute 210 = .ok (.aload_n 0, 1) := by decide +kernel
theorem dX7_execute_211 : decode cX7_execute 211 = .ok (.aload_n 1, 1) := by decide +kernel
theorem dX7_execute_212 : decode cX7_execute 212 = .ok (.invokevirtual 57, 3) := by decide +kernel
theorem dX7_execute_215 : decode cX7_execute 215 = .ok (.ifCond .eq 8, 3) := by decide +kernel
theorem dX7_execute_218 : decode cX7_execute 218 = .ok (.aload_n 0, 1) := by decide +kernel
theorem dX7_execute_219 : decode cX7_execute 219 = .ok (.iconst 5, 1) := by decide +kernel
theorem dX7_execute_220 : decode cX7_execute 220 = .ok (.invokevirtual 93, 3) := by decide +kernel
theorem dX7_execute_223 : decode cX7_execute 223 = .ok (.aload_n 0, 1) := by decide +kernel
theorem dX7_execute_224 : decode cX7_execute 224 = .ok (.getfield 28, 3) := by decide +kernel
theorem dX7_execute_227 : decode cX7_execute 227 = .ok (.ifCond .ne 8, 3) := by decide +kernel
theorem dX7_execute_230 : decode cX7_execute 230 = .ok (.aload_n 0, 1) := by decide +kernel
theorem dX7_execute_231 : decode cX7_execute 231 = .ok (.iconst 0, 1) := by decide +kernel
theorem dX7_execute_232 : decode cX7_execute 232 = .ok (.putfield 24, 3) := by decide +kernel
theorem dX7_execute_235 : decode cX7_execute 235 = .ok (.return_, 1) := by decide +kernel
theorem dX7_reset_0 : decode cX7_reset 0 = .ok (.aload_n 0, 1) := by decide +kernel
theorem dX7_reset_1 : decode cX7_reset 1 = .ok (.getfield 11, 3) := by decide +kernel
theorem dX7_reset_4 : decode cX7_reset 4 = .ok (.iconst 0, 1) := by decide +kernel
theorem dX7_reset_5 : decode cX7_reset 5 = .ok (.invokestatic 96, 3) := by decide +kernel
theorem dX7_reset_8 : decode cX7_reset 8 = .ok (.aload_n 0, 1) := by decide +kernel
theorem dX7_reset_9 : decode cX7_reset 9 = .ok (.getfield 15, 3) := by decide +kernel
theorem dX7_reset_12 : decode cX7_reset 12 = .ok (.iconst 0, 1) := by decide +kernel
theorem dX7_reset_13 : decode cX7_reset 13 = .ok (.invokestatic 96, 3) := by decide +kernel
theorem dX7_reset_16 : decode cX7_reset 16 = .ok (.aload_n 0, 1) := by decide +kernel
theorem dX7_reset_17 : decode cX7_reset 17 = .ok (.getfield 21, 3) := by decide +kernel
theorem dX7_reset_20 : decode cX7_reset 20 = .ok (.iconst 0, 1) := by decide +kernel
theorem dX7_reset_21 : decode cX7_reset 21 = .ok (.invokestatic 96, 3) := by decide +kernel
theorem dX7_reset_24 : decode cX7_reset 24 = .ok (.aload_n 0, 1) := by decide +kernel
theorem dX7_reset_25 : decode cX7_reset 25 = .ok (.iconst 0, 1) := by decide +kernel
theorem dX7_reset_26 : decode cX7_reset 26 = .ok (.putfield 24, 3) := by decide +kernel
theorem dX7_reset_29 : decode cX7_reset 29 = .ok (.aload_n 0, 1) := by decide +kernel
theorem dX7_reset_30 : decode cX7_reset 30 = .ok (.iconst 0, 1) := by decide +kernel
theorem dX7_reset_31 : decode cX7_reset 31 = .ok (.putfield 28, 3) := by decide +kernel
theorem dX7_reset_34 : decode cX7_reset 34 = .ok (.aload_n 0, 1) := by decide +kernel
theorem dX7_reset_35 : decode cX7_reset 35 = .ok (.iconst (-1), 1) := by decide +kernel
theorem dX7_reset_36 : decode cX7_reset 36 = .ok (.putfield 31, 3) := by decide +kernel
theorem dX7_reset_39 : decode cX7_reset 39 = .ok (.aload_n 0, 1) := by decide +kernel
theorem dX7_reset_40 : decode cX7_reset 40 = .ok (.iconst 0, 1) := by decide +kernel
theorem dX7_reset_41 : decode cX7_reset 41 = .ok (.putfield 37, 3) := by decide +kernel
theorem dX7_reset_44 : decode cX7_reset 44 = .ok (.aload_n 0, 1) := by decide +kernel
theorem dX7_reset_45 : decode cX7_reset 45 = .ok (.iconst 0, 1) := by decide +kernel
theorem dX7_reset_46 : decode cX7_reset 46 = .ok (.putfield 40, 3) := by decide +kernel
theorem dX7_reset_49 : decode cX7_reset 49 = .ok (.aload_n 0, 1) := by decide +kernel
theorem dX7_reset_50 : decode cX7_reset 50 = .ok (.iconst 1, 1) := by decide +kernel
theorem dX7_reset_51 : decode cX7_reset 51 = .ok (.putfield 46, 3) := by decide +kernel
theorem dX7_reset_54 : decode cX7_reset 54 = .ok (.return_, 1) := by decide +kernel
theorem dX7_isOn_0 : decode cX7_isOn 0 = .ok (.aload_n 0, 1) := by decide +kernel
theorem dX7_isOn_1 : decode cX7_isOn 1 = .ok (.getfield 46, 3) := by decide +kernel
theorem dX7_isOn_4 : decode cX7_isOn 4 = .ok (.ifCond .eq 18, 3) := by decide +kernel
theorem dX7_isOn_7 : decode cX7_isOn 7 = .ok (.aload_n 1, 1) := by decide +kernel
theorem dX7_isOn_8 : decode cX7_isOn 8 = .ok (.aload_n 0, 1) := by decide +kernel
theorem dX7_isOn_9 : decode cX7_isOn 9 = .ok (.getfield 40, 3) := by decide +kernel
theorem dX7_isOn_12 : decode cX7_isOn 12 = .ok (.invokevirtual 102, 3) := by decide +kernel
theorem dX7_isOn_15 : decode cX7_isOn 15 = .ok (.ifCond .eq 7, 3) := by decide +kernel
theorem dX7_isOn_18 : decode cX7_isOn 18 = .ok (.iconst 1, 1) := by decide +kernel
theorem dX7_isOn_19 : decode cX7_isOn 19 = .ok (.goto 4, 3) := by decide +kernel
theorem dX7_isOn_22 : decode cX7_isOn 22 = .ok (.iconst 0, 1) := by decide +kernel
theorem dX7_isOn_23 : decode cX7_isOn 23 = .ok (.ireturn, 1) := by decide +kernel
theorem dX7_fail_0 : decode cX7_fail 0 = .ok (.aload_n 0, 1) := by decide +kernel
theorem dX7_fail_1 : decode cX7_fail 1 = .ok (.iload_n 1, 1) := by decide +kernel
theorem dX7_fail_2 : decode cX7_fail 2 = .ok (.putfield 28, 3) := by decide +kernel
theorem dX7_fail_5 : decode cX7_fail 5 = .ok (.aload_n 0, 1) := by decide +kernel
theorem dX7_fail_6 : decode cX7_fail 6 = .ok (.aload_n 0, 1) := by decide +kernel
theorem dX7_fail_7 : decode cX7_fail 7 = .ok (.getfield 40, 3) := by decide +kernel
theorem dX7_fail_10 : decode cX7_fail 10 = .ok (.putfield 31, 3) := by decide +kernel
theorem dX7_fail_13 : decode cX7_fail 13 = .ok (.aload_n 0, 1) := by decide +kernel
theorem dX7_fail_14 : decode cX7_fail 14 = .ok (.iconst 0, 1) := by decide +kernel
theorem dX7_fail_15 : decode cX7_fail 15 = .ok (.putfield 46, 3) := by decide +kernel
theorem dX7_fail_18 : decode cX7_fail 18 = .ok (.return_, 1) := by decide +kernel
theorem dX7_put_0 : decode cX7_put 0 = .ok (.iload_n 1, 1) := by decide +kernel
theorem dX7_put_1 : decode cX7_put 1 = .ok (.ifCond .lt 16, 3) := by decide +kernel
theorem dX7_put_4 : decode cX7_put 4 = .ok (.iload_n 1, 1) := by decide +kernel
theorem dX7_put_5 : decode cX7_put 5 = .ok (.bipush 8, 2) := by decide +kernel
theorem dX7_put_7 : decode cX7_put 7 = .ok (.if_icmp .ge 10, 3) := by decide +kernel
theorem dX7_put_10 : decode cX7_put 10 = .ok (.aload_n 0, 1) := by decide +kernel
theorem dX7_put_11 : decode cX7_put 11 = .ok (.getfield 11, 3) := by decide +kernel
theorem dX7_put_14 : decode cX7_put 14 = .ok (.iload_n 1, 1) := by decide +kernel
theorem dX7_put_15 : decode cX7_put 15 = .ok (.iload_n 2, 1) := by decide +kernel
theorem dX7_put_16 : decode cX7_put 16 = .ok (.iastore, 1) := by decide +kernel
theorem dX7_put_17 : decode cX7_put 17 = .ok (.return_, 1) := by decide +kernel
theorem dX7_reckon_0 : decode cX7_reckon 0 = .ok (.aload_n 0, 1) := by decide +kernel
theorem dX7_reckon_1 : decode cX7_reckon 1 = .ok (.iload_n 2, 1) := by decide +kernel
theorem dX7_reckon_2 : decode cX7_reckon 2 = .ok (.invokevirtual 105, 3) := by decide +kernel
theorem dX7_reckon_5 : decode cX7_reckon 5 = .ok (.istore 4, 2) := by decide +kernel
theorem dX7_reckon_7 : decode cX7_reckon 7 = .ok (.aload_n 0, 1) := by decide +kernel
theorem dX7_reckon_8 : decode cX7_reckon 8 = .ok (.iload_n 3, 1) := by decide +kernel
theorem dX7_reckon_9 : decode cX7_reckon 9 = .ok (.invokevirtual 105, 3) := by decide +kernel
theorem dX7_reckon_12 : decode cX7_reckon 12 = .ok (.istore 5, 2) := by decide +kernel
theorem dX7_reckon_14 : decode cX7_reckon 14 = .ok (.iload_n 1, 1) := by decide +kernel
theorem dX7_reckon_15 : decode cX7_reckon 15 = .ok (.tableswitch 91 0 4 #[33, 42, 52, 65, 78], 33) := by decide +kernel
theorem dX7_reckon_48 : decode cX7_reckon 48 = .ok (.aload_n 0, 1) := by decide +kernel
theorem dX7_reckon_49 : decode cX7_reckon 49 = .ok (.iload_n 2, 1) := by decide +kernel
theorem dX7_reckon_50 : decode cX7_reckon 50 = .ok (.iload_n 3, 1) := by decide +kernel
theorem dX7_reckon_51 : decode cX7_reckon 51 = .ok (.invokevirtual 109, 3) := by decide +kernel
theorem dX7_reckon_54 : decode cX7_reckon 54 = .ok (.goto 75, 3) := by decide +kernel
theorem dX7_reckon_57 : decode cX7_reckon 57 = .ok (.aload_n 0, 1) := by decide +kernel
theorem dX7_reckon_58 : decode cX7_reckon 58 = .ok (.iload_n 2, 1) := by decide +kernel
theorem dX7_reckon_59 : decode cX7_reckon 59 = .ok (.iload 5, 2) := by decide +kernel
theorem dX7_reckon_61 : decode cX7_reckon 61 = .ok (.invokevirtual 109, 3) := by decide +kernel
theorem dX7_reckon_64 : decode cX7_reckon 64 = .ok (.goto 65, 3) := by decide +kernel
theorem dX7_reckon_67 : decode cX7_reckon 67 = .ok (.aload_n 0, 1) := by decide +kernel
theorem dX7_reckon_68 : decode cX7_reckon 68 = .ok (.iload_n 2, 1) := by decide +kernel
theorem dX7_reckon_69 : decode cX7_reckon 69 = .ok (.iload 4, 2) := by decide +kernel
theorem dX7_reckon_71 : decode cX7_reckon 71 = .ok (.iload 5, 2) := by decide +kernel
theorem dX7_reckon_73 : decode cX7_reckon 73 = .ok (.iadd, 1) := by decide +kernel
theorem dX7_reckon_74 : decode cX7_reckon 74 = .ok (.invokevirtual 109, 3) := by decide +kernel
theorem dX7_reckon_77 : decode cX7_reckon 77 = .ok (.goto 52, 3) := by decide +kernel
theorem dX7_reckon_80 : decode cX7_reckon 80 = .ok (.aload_n 0, 1) := by decide +kernel
theorem dX7_reckon_81 : decode cX7_reckon 81 = .ok (.iload_n 2, 1) := by decide +kernel
theorem dX7_reckon_82 : decode cX7_reckon 82 = .ok (.iload 4, 2) := by decide +kernel
theorem dX7_reckon_84 : decode cX7_reckon 84 = .ok (.iload 5, 2) := by decide +kernel
theorem dX7_reckon_86 : decode cX7_reckon 86 = .ok (.isub, 1) := by decide +kernel
theorem dX7_reckon_87 : decode cX7_reckon 87 = .ok (.invokevirtual 109, 3) := by decide +kernel
theorem dX7_reckon_90 : decode cX7_reckon 90 = .ok (.goto 39, 3) := by decide +kernel
theorem dX7_reckon_93 : decode cX7_reckon 93 = .ok (.aload_n 0, 1) := by decide +kernel
theorem dX7_reckon_94 : decode cX7_reckon 94 = .ok (.iload_n 2, 1) := by decide +kernel
theorem dX7_reckon_95 : decode cX7_reckon 95 = .ok (.iload 4, 2) := by decide +kernel
theorem dX7_reckon_97 : decode cX7_reckon 97 = .ok (.iload 5, 2) := by decide +kernel
theorem dX7_reckon_99 : decode cX7_reckon 99 = .ok (.imul, 1) := by decide +kernel
theorem dX7_reckon_100 : decode cX7_reckon 100 = .ok (.invokevirtual 109, 3) := by decide +kernel
theorem dX7_reckon_103 : decode cX7_reckon 103 = .ok (.goto 26, 3) := by decide +kernel
theorem dX7_reckon_106 : decode cX7_reckon 106 = .ok (.iload 5, 2) := by decide +kernel
theorem dX7_reckon_108 : decode cX7_reckon 108 = .ok (.ifCond .ne 11, 3) := by decide +kernel
theorem dX7_reckon_111 : decode cX7_reckon 111 = .ok (.aload_n 0, 1) := by decide +kernel
theorem dX7_reckon_112 : decode cX7_reckon 112 = .ok (.iconst 1, 1) := by decide +kernel
theorem dX7_reckon_113 : decode cX7_reckon 113 = .ok (.invokevirtual 93, 3) := by decide +kernel
theorem dX7_reckon_116 : decode cX7_reckon 116 = .ok (.goto 13, 3) := by decide +kernel
theorem dX7_reckon_119 : decode cX7_reckon 119 = .ok (.aload_n 0, 1) := by decide +kernel
theorem dX7_reckon_120 : decode cX7_reckon 120 = .ok (.iload_n 2, 1) := by decide +kernel
theorem dX7_reckon_121 : decode cX7_reckon 121 = .ok (.iload 4, 2) := by decide +kernel
theorem dX7_reckon_123 : decode cX7_reckon 123 = .ok (.iload 5, 2) := by decide +kernel
theorem dX7_reckon_125 : decode cX7_reckon 125 = .ok (.idiv, 1) := by decide +kernel
theorem dX7_reckon_126 : decode cX7_reckon 126 = .ok (.invokevirtual 109, 3) := by decide +kernel
theorem dX7_reckon_129 : decode cX7_reckon 129 = .ok (.return_, 1) := by decide +kernel
theorem dX7_readInput_0 : decode cX7_readInput 0 = .ok (.iload_n 1, 1) := by decide +kernel
theorem dX7_readInput_1 : decode cX7_readInput 1 = .ok (.bipush 6, 2) := by decide +kernel
theorem dX7_readInput_3 : decode cX7_readInput 3 = .ok (.if_icmp .ne 46, 3) := by decide +kernel
theorem dX7_readInput_6 : decode cX7_readInput 6 = .ok (.aload_n 0, 1) := by decide +kernel
theorem dX7_readInput_7 : decode cX7_readInput 7 = .ok (.iload_n 2, 1) := by decide +kernel
theorem dX7_readInput_8 : decode cX7_readInput 8 = .ok (.aload 4, 2) := by decide +kernel
theorem dX7_readInput_10 : decode cX7_readInput 10 = .ok (.aload_n 0, 1) := by decide +kernel
theorem dX7_readInput_11 : decode cX7_readInput 11 = .ok (.getfield 37, 3) := by decide +kernel
theorem dX7_readInput_14 : decode cX7_readInput 14 = .ok (.invokevirtual 112, 3) := by decide +kernel
theorem dX7_readInput_17 : decode cX7_readInput 17 = .ok (.ifCond .eq 15, 3) := by decide +kernel
theorem dX7_readInput_20 : decode cX7_readInput 20 = .ok (.aload 4, 2) := by decide +kernel
theorem dX7_readInput_22 : decode cX7_readInput 22 = .ok (.aload_n 0, 1) := by decide +kernel
theorem dX7_readInput_23 : decode cX7_readInput 23 = .ok (.getfield 37, 3) := by decide +kernel
theorem dX7_readInput_26 : decode cX7_readInput 26 = .ok (.invokevirtual 115, 3) := by decide +kernel
theorem dX7_readInput_29 : decode cX7_readInput 29 = .ok (.goto 4, 3) := by decide +kernel
theorem dX7_readInput_32 : decode cX7_readInput 32 = .ok (.iconst (-1), 1) := by decide +kernel
theorem dX7_readInput_33 : decode cX7_readInput 33 = .ok (.invokevirtual 109, 3) := by decide +kernel
theorem dX7_readInput_36 : decode cX7_readInput 36 = .ok (.aload_n 0, 1) := by decide +kernel
theorem dX7_readInput_37 : decode cX7_readInput 37 = .ok (.dup, 1) := by decide +kernel
theorem dX7_readInput_38 : decode cX7_readInput 38 = .ok (.getfield 37, 3) := by decide +kernel
theorem dX7_readInput_41 : decode cX7_readInput 41 = .ok (.iconst 1, 1) := by decide +kernel
theorem dX7_readInput_42 : decode cX7_readInput 42 = .ok (.iadd, 1) := by decide +kernel
theorem dX7_readInput_43 : decode cX7_readInput 43 = .ok (.putfield 37, 3) := by decide +kernel
theorem dX7_readInput_46 : decode cX7_readInput 46 = .ok (.goto 58, 3) := by decide +kernel
theorem dX7_readInput_49 : decode cX7_readInput 49 = .ok (.iload_n 1, 1) := by decide +kernel
theorem dX7_readInput_50 : decode cX7_readInput 50 = .ok (.bipush 8, 2) := by decide +kernel
theorem dX7_readInput_52 : decode cX7_readInput 52 = .ok (.if_icmp .ne 16, 3) := by decide +kernel
theorem dX7_readInput_55 : decode cX7_readInput 55 = .ok (.aload_n 0, 1) := by decide +kernel
theorem dX7_readInput_56 : decode cX7_readInput 56 = .ok (.iload_n 2, 1) := by decide +kernel
theorem dX7_readInput_57 : decode cX7_readInput 57 = .ok (.aload 4, 2) := by decide +kernel
theorem dX7_readInput_59 : decode cX7_readInput 59 = .ok (.invokevirtual 118, 3) := by decide +kernel
theorem dX7_readInput_62 : decode cX7_readInput 62 = .ok (.invokevirtual 109, 3) := by decide +kernel
theorem dX7_readInput_65 : decode cX7_readInput 65 = .ok (.goto 39, 3) := by decide +kernel
theorem dX7_readInput_68 : decode cX7_readInput 68 = .ok (.aload 4, 2) := by decide +kernel
theorem dX7_readInput_70 : decode cX7_readInput 70 = .ok (.aload_n 0, 1) := by decide +kernel
theorem dX7_readInput_71 : decode cX7_readInput 71 = .ok (.iload_n 3, 1) := by decide +kernel
theorem dX7_readInput_72 : decode cX7_readInput 72 = .ok (.invokevirtual 105, 3) := by decide +kernel
theorem dX7_readInput_75 : decode cX7_readInput 75 = .ok (.invokevirtual 112, 3) := by decide +kernel
theorem dX7_readInput_78 : decode cX7_readInput 78 = .ok (.ifCond .eq 21, 3) := by decide +kernel
theorem dX7_readInput_81 : decode cX7_readInput 81 = .ok (.aload_n 0, 1) := by decide +kernel
theorem dX7_readInput_82 : decode cX7_readInput 82 = .ok (.iload_n 2, 1) := by decide +kernel
theorem dX7_readInput_83 : decode cX7_readInput 83 = .ok (.aload 4, 2) := by decide +kernel
theorem dX7_readInput_85 : decode cX7_readInput 85 = .ok (.aload_n 0, 1) := by decide +kernel
theorem dX7_readInput_86 : decode cX7_readInput 86 = .ok (.iload_n 3, 1) := by decide +kernel
theorem dX7_readInput_87 : decode cX7_readInput 87 = .ok (.invokevirtual 105, 3) := by decide +kernel
theorem dX7_readInput_90 : decode cX7_readInput 90 = .ok (.invokevirtual 115, 3) := by decide +kernel
theorem dX7_readInput_93 : decode cX7_readInput 93 = .ok (.invokevirtual 109, 3) := by decide +kernel
theorem dX7_readInput_96 : decode cX7_readInput 96 = .ok (.goto 8, 3) := by decide +kernel
theorem dX7_readInput_99 : decode cX7_readInput 99 = .ok (.aload_n 0, 1) := by decide +kernel
theorem dX7_readInput_100 : decode cX7_readInput 100 = .ok (.iconst 2, 1) := by decide +kernel
theorem dX7_readInput_101 : decode cX7_readInput 101 = .ok (.invokevirtual 93, 3) := by decide +kernel
theorem dX7_readInput_104 : decode cX7_readInput 104 = .ok (.return_, 1) := by decide +kernel
theorem dX7_useRow_0 : decode cX7_useRow 0 = .ok (.iload_n 1, 1) := by decide +kernel
theorem dX7_useRow_1 : decode cX7_useRow 1 = .ok (.bipush 9, 2) := by decide +kernel
theorem dX7_useRow_3 : decode cX7_useRow 3 = .ok (.if_icmp .ne 11, 3) := by decide +kernel
theorem dX7_useRow_6 : decode cX7_useRow 6 = .ok (.aload_n 0, 1) := by decide +kernel
theorem dX7_useRow_7 : decode cX7_useRow 7 = .ok (.iload_n 2, 1) := by decide +kernel
theorem dX7_useRow_8 : decode cX7_useRow 8 = .ok (.invokevirtual 105, 3) := by decide +kernel
theorem dX7_useRow_11 : decode cX7_useRow 11 = .ok (.goto 8, 3) := by decide +kernel
theorem dX7_useRow_14 : decode cX7_useRow 14 = .ok (.aload_n 0, 1) := by decide +kernel
theorem dX7_useRow_15 : decode cX7_useRow 15 = .ok (.iload_n 3, 1) := by decide +kernel
theorem dX7_useRow_16 : decode cX7_useRow 16 = .ok (.invokevirtual 105, 3) := by decide +kernel
theorem dX7_useRow_19 : decode cX7_useRow 19 = .ok (.istore 4, 2) := by decide +kernel
theorem dX7_useRow_21 : decode cX7_useRow 21 = .ok (.iload 4, 2) := by decide +kernel
theorem dX7_useRow_23 : decode cX7_useRow 23 = .ok (.invokestatic 122, 3) := by decide +kernel
theorem dX7_useRow_26 : decode cX7_useRow 26 = .ok (.ifCond .ne 11, 3) := by decide +kernel
theorem dX7_useRow_29 : decode cX7_useRow 29 = .ok (.aload_n 0, 1) := by decide +kernel
theorem dX7_useRow_30 : decode cX7_useRow 30 = .ok (.iconst 2, 1) := by decide +kernel
theorem dX7_useRow_31 : decode cX7_useRow 31 = .ok (.invokevirtual 93, 3) := by decide +kernel
theorem dX7_useRow_34 : decode cX7_useRow 34 = .ok (.goto 36, 3) := by decide +kernel
theorem dX7_useRow_37 : decode cX7_useRow 37 = .ok (.iload_n 1, 1) := by decide +kernel
theorem dX7_useRow_38 : decode cX7_useRow 38 = .ok (.bipush 9, 2) := by decide +kernel
theorem dX7_useRow_40 : decode cX7_useRow 40 = .ok (.if_icmp .ne 18, 3) := by decide +kernel
theorem dX7_useRow_43 : decode cX7_useRow 43 = .ok (.aload_n 0, 1) := by decide +kernel
theorem dX7_useRow_44 : decode cX7_useRow 44 = .ok (.getfield 15, 3) := by decide +kernel
theorem dX7_useRow_47 : decode cX7_useRow 47 = .ok (.iload 4, 2) := by decide +kernel
theorem dX7_useRow_49 : decode cX7_useRow 49 = .ok (.aload_n 0, 1) := by decide +kernel
theorem dX7_useRow_50 : decode cX7_useRow 50 = .ok (.iload_n 3, 1) := by decide +kernel
theorem dX7_useRow_51 : decode cX7_useRow 51 = .ok (.invokevirtual 105, 3) := by decide +kernel
theorem dX7_useRow_54 : decode cX7_useRow 54 = .ok (.iastore, 1) := by decide +kernel
theorem dX7_useRow_55 : decode cX7_useRow 55 = .ok (.goto 15, 3) := by decide +kernel
theorem dX7_useRow_58 : decode cX7_useRow 58 = .ok (.aload_n 0, 1) := by decide +kernel
theorem dX7_useRow_59 : decode cX7_useRow 59 = .ok (.iload_n 2, 1) := by decide +kernel
theorem dX7_useRow_60 : decode cX7_useRow 60 = .ok (.aload_n 0, 1) := by decide +kernel
theorem dX7_useRow_61 : decode cX7_useRow 61 = .ok (.getfield 15, 3) := by decide +kernel
theorem dX7_useRow_64 : decode cX7_useRow 64 = .ok (.iload 4, 2) := by decide +kernel
theorem dX7_useRow_66 : decode cX7_useRow 66 = .ok (.iaload, 1) := by decide +kernel
theorem dX7_useRow_67 : decode cX7_useRow 67 = .ok (.invokevirtual 109, 3) := by decide +kernel
theorem dX7_useRow_70 : decode cX7_useRow 70 = .ok (.return_, 1) := by decide +kernel
theorem dX7_jump_0 : decode cX7_jump 0 = .ok (.iload_n 1, 1) := by decide +kernel
theorem dX7_jump_1 : decode cX7_jump 1 = .ok (.bipush 13, 2) := by decide +kernel
theorem dX7_jump_3 : decode cX7_jump 3 = .ok (.if_icmp .ne 10, 3) := by decide +kernel
theorem dX7_jump_6 : decode cX7_jump 6 = .ok (.aload_n 0, 1) := by decide +kernel
theorem dX7_jump_7 : decode cX7_jump 7 = .ok (.iload 4, 2) := by decide +kernel
theorem dX7_jump_9 : decode cX7_jump 9 = .ok (.putfield 43, 3) := by decide +kernel
theorem dX7_jump_12 : decode cX7_jump 12 = .ok (.return_, 1) := by decide +kernel
theorem dX7_jump_13 : decode cX7_jump 13 = .ok (.iload_n 1, 1) := by decide +kernel
theorem dX7_jump_14 : decode cX7_jump 14 = .ok (.bipush 11, 2) := by decide +kernel
theorem dX7_jump_16 : decode cX7_jump 16 = .ok (.if_icmp .ne 24, 3) := by decide +kernel
theorem dX7_jump_19 : decode cX7_jump 19 = .ok (.aload_n 0, 1) := by decide +kernel
theorem dX7_jump_20 : decode cX7_jump 20 = .ok (.iload_n 2, 1) := by decide +kernel
theorem dX7_jump_21 : decode cX7_jump 21 = .ok (.invokevirtual 105, 3) := by decide +kernel
theorem dX7_jump_24 : decode cX7_jump 24 = .ok (.aload_n 0, 1) := by decide +kernel
theorem dX7_jump_25 : decode cX7_jump 25 = .ok (.iload_n 3, 1) := by decide +kernel
theorem dX7_jump_26 : decode cX7_jump 26 = .ok (.invokevirtual 105, 3) := by decide +kernel
theorem dX7_jump_29 : decode cX7_jump 29 = .ok (.if_icmp .ge 7, 3) := by decide +kernel
theorem dX7_jump_32 : decode cX7_jump 32 = .ok (.iconst 1, 1) := by decide +kernel
theorem dX7_jump_33 : decode cX7_jump 33 = .ok (.goto 25, 3) := by decide +kernel
theorem dX7_jump_36 : decode cX7_jump 36 = .ok (.iconst 0, 1) := by decide +kernel
theorem dX7_jump_37 : decode cX7_jump 37 = .ok (.goto 21, 3) := by decide +kernel
theorem dX7_jump_40 : decode cX7_jump 40 = .ok (.aload_n 0, 1) := by decide +kernel
theorem dX7_jump_41 : decode cX7_jump 41 = .ok (.iload_n 2, 1) := by decide +kernel
theorem dX7_jump_42 : decode cX7_jump 42 = .ok (.invokevirtual 105, 3) := by decide +kernel
theorem dX7_jump_45 : decode cX7_jump 45 = .ok (.aload_n 0, 1) := by decide +kernel
theorem dX7_jump_46 : decode cX7_jump 46 = .ok (.iload_n 3, 1) := by decide +kernel
theorem dX7_jump_47 : decode cX7_jump 47 = .ok (.invokevirtual 105, 3) := by decide +kernel
theorem dX7_jump_50 : decode cX7_jump 50 = .ok (.if_icmp .ne 7, 3) := by decide +kernel
theorem dX7_jump_53 : decode cX7_jump 53 = .ok (.iconst 1, 1) := by decide +kernel
theorem dX7_jump_54 : decode cX7_jump 54 = .ok (.goto 4, 3) := by decide +kernel
theorem dX7_jump_57 : decode cX7_jump 57 = .ok (.iconst 0, 1) := by decide +kernel
theorem dX7_jump_58 : decode cX7_jump 58 = .ok (.istore 5, 2) := by decide +kernel
theorem dX7_jump_60 : decode cX7_jump 60 = .ok (.iconst 2, 1) := by decide +kernel
theorem dX7_jump_61 : decode cX7_jump 61 = .ok (.aload_n 0, 1) := by decide +kernel
theorem dX7_jump_62 : decode cX7_jump 62 = .ok (.getfield 40, 3) := by decide +kernel
theorem dX7_jump_65 : decode cX7_jump 65 = .ok (.imul, 1) := by decide +kernel
theorem dX7_jump_66 : decode cX7_jump 66 = .ok (.iload 5, 2) := by decide +kernel
theorem dX7_jump_68 : decode cX7_jump 68 = .ok (.ifCond .eq 7, 3) := by decide +kernel
theorem dX7_jump_71 : decode cX7_jump 71 = .ok (.iconst 1, 1) := by decide +kernel
theorem dX7_jump_72 : decode cX7_jump 72 = .ok (.goto 4, 3) := by decide +kernel
theorem dX7_jump_75 : decode cX7_jump 75 = .ok (.iconst 0, 1) := by decide +kernel
theorem dX7_jump_76 : decode cX7_jump 76 = .ok (.iadd, 1) := by decide +kernel
theorem dX7_jump_77 : decode cX7_jump 77 = .ok (.istore 6, 2) := by decide +kernel
theorem dX7_jump_79 : decode cX7_jump 79 = .ok (.iload 6, 2) := by decide +kernel
theorem dX7_jump_81 : decode cX7_jump 81 = .ok (.invokestatic 50, 3) := by decide +kernel
theorem dX7_jump_84 : decode cX7_jump 84 = .ok (.ifCond .eq 14, 3) := by decide +kernel
theorem dX7_jump_87 : decode cX7_jump 87 = .ok (.aload_n 0, 1) := by decide +kernel
theorem dX7_jump_88 : decode cX7_jump 88 = .ok (.getfield 21, 3) := by decide +kernel
theorem dX7_jump_91 : decode cX7_jump 91 = .ok (.iload 6, 2) := by decide +kernel
theorem dX7_jump_93 : decode cX7_jump 93 = .ok (.dup2, 1) := by decide +kernel
theorem dX7_jump_94 : decode cX7_jump 94 = .ok (.iaload, 1) := by decide +kernel
theorem dX7_jump_95 : decode cX7_jump 95 = .ok (.iconst 1, 1) := by decide +kernel
theorem dX7_jump_96 : decode cX7_jump 96 = .ok (.iadd, 1) := by decide +kernel
theorem dX7_jump_97 : decode cX7_jump 97 = .ok (.iastore, 1) := by decide +kernel
theorem dX7_jump_98 : decode cX7_jump 98 = .ok (.iload 5, 2) := by decide +kernel
theorem dX7_jump_100 : decode cX7_jump 100 = .ok (.ifCond .eq 9, 3) := by decide +kernel
theorem dX7_jump_103 : decode cX7_jump 103 = .ok (.aload_n 0, 1) := by decide +kernel
theorem dX7_jump_104 : decode cX7_jump 104 = .ok (.iload 4, 2) := by decide +kernel
theorem dX7_jump_106 : decode cX7_jump 106 = .ok (.putfield 43, 3) := by decide +kernel
theorem dX7_jump_109 : decode cX7_jump 109 = .ok (.return_, 1) := by decide +kernel
theorem dX7_openCallTo_0 : decode cX7_openCallTo 0 = .ok (.aload_n 0, 1) := by decide +kernel
theorem dX7_openCallTo_1 : decode cX7_openCallTo 1 = .ok (.getfield 24, 3) := by decide +kernel
theorem dX7_openCallTo_4 : decode cX7_openCallTo 4 = .ok (.ifCond .lt 12, 3) := by decide +kernel
theorem dX7_openCallTo_7 : decode cX7_openCallTo 7 = .ok (.aload_n 0, 1) := by decide +kernel
theorem dX7_openCallTo_8 : decode cX7_openCallTo 8 = .ok (.getfield 24, 3) := by decide +kernel
theorem dX7_openCallTo_11 : decode cX7_openCallTo 11 = .ok (.bipush 8, 2) := by decide +kernel
theorem dX7_openCallTo_13 : decode cX7_openCallTo 13 = .ok (.if_icmp .lt 9, 3) := by decide +kernel
theorem dX7_openCallTo_16 : decode cX7_openCallTo 16 = .ok (.aload_n 0, 1) := by decide +kernel
theorem dX7_openCallTo_17 : decode cX7_openCallTo 17 = .ok (.iconst 3, 1) := by decide +kernel
theorem dX7_openCallTo_18 : decode cX7_openCallTo 18 = .ok (.invokevirtual 93, 3) := by decide +kernel
theorem dX7_openCallTo_21 : decode cX7_openCallTo 21 = .ok (.return_, 1) := by decide +kernel
theorem dX7_openCallTo_22 : decode cX7_openCallTo 22 = .ok (.aload_n 0, 1) := by decide +kernel
theorem dX7_openCallTo_23 : decode cX7_openCallTo 23 = .ok (.getfield 18, 3) := by decide +kernel
theorem dX7_openCallTo_26 : decode cX7_openCallTo 26 = .ok (.aload_n 0, 1) := by decide +kernel
theorem dX7_openCallTo_27 : decode cX7_openCallTo 27 = .ok (.getfield 24, 3) := by decide +kernel
theorem dX7_openCallTo_30 : decode cX7_openCallTo 30 = .ok (.aload_n 0, 1) := by decide +kernel
theorem dX7_openCallTo_31 : decode cX7_openCallTo 31 = .ok (.getfield 40, 3) := by decide +kernel
theorem dX7_openCallTo_34 : decode cX7_openCallTo 34 = .ok (.iastore, 1) := by decide +kernel
theorem dX7_openCallTo_35 : decode cX7_openCallTo 35 = .ok (.aload_n 0, 1) := by decide +kernel
theorem dX7_openCallTo_36 : decode cX7_openCallTo 36 = .ok (.dup, 1) := by decide +kernel
theorem dX7_openCallTo_37 : decode cX7_openCallTo 37 = .ok (.getfield 24, 3) := by decide +kernel
theorem dX7_openCallTo_40 : decode cX7_openCallTo 40 = .ok (.iconst 1, 1) := by decide +kernel
theorem dX7_openCallTo_41 : decode cX7_openCallTo 41 = .ok (.iadd, 1) := by decide +kernel
theorem dX7_openCallTo_42 : decode cX7_openCallTo 42 = .ok (.putfield 24, 3) := by decide +kernel
theorem dX7_openCallTo_45 : decode cX7_openCallTo 45 = .ok (.aload_n 0, 1) := by decide +kernel
theorem dX7_openCallTo_46 : decode cX7_openCallTo 46 = .ok (.iload_n 1, 1) := by decide +kernel
theorem dX7_openCallTo_47 : decode cX7_openCallTo 47 = .ok (.putfield 43, 3) := by decide +kernel
theorem dX7_openCallTo_50 : decode cX7_openCallTo 50 = .ok (.return_, 1) := by decide +kernel
theorem dX7_goBack_0 : decode cX7_goBack 0 = .ok (.aload_n 0, 1) := by decide +kernel
theorem dX7_goBack_1 : decode cX7_goBack 1 = .ok (.iconst 0, 1) := by decide +kernel
theorem dX7_goBack_2 : decode cX7_goBack 2 = .ok (.invokevirtual 125, 3) := by decide +kernel
theorem dX7_goBack_5 : decode cX7_goBack 5 = .ok (.istore_n 1, 1) := by decide +kernel
theorem dX7_goBack_6 : decode cX7_goBack 6 = .ok (.iload_n 1, 1) := by decide +kernel
theorem dX7_goBack_7 : decode cX7_goBack 7 = .ok (.iconst (-1), 1) := by decide +kernel
theorem dX7_goBack_8 : decode cX7_goBack 8 = .ok (.if_icmp .ne 9, 3) := by decide +kernel
theorem dX7_goBack_11 : decode cX7_goBack 11 = .ok (.aload_n 0, 1) := by decide +kernel
theorem dX7_goBack_12 : decode cX7_goBack 12 = .ok (.iconst 0, 1) := by decide +kernel
theorem dX7_goBack_13 : decode cX7_goBack 13 = .ok (.putfield 46, 3) := by decide +kernel
theorem dX7_goBack_16 : decode cX7_goBack 16 = .ok (.return_, 1) := by decide +kernel
theorem dX7_goBack_17 : decode cX7_goBack 17 = .ok (.aload_n 0, 1) := by decide +kernel
theorem dX7_goBack_18 : decode cX7_goBack 18 = .ok (.dup, 1) := by decide +kernel
theorem dX7_goBack_19 : decode cX7_goBack 19 = .ok (.getfield 24, 3) := by decide +kernel
theorem dX7_goBack_22 : decode cX7_goBack 22 = .ok (.iconst 1, 1) := by decide +kernel
theorem dX7_goBack_23 : decode cX7_goBack 23 = .ok (.isub, 1) := by decide +kernel
theorem dX7_goBack_24 : decode cX7_goBack 24 = .ok (.putfield 24, 3) := by decide +kernel
theorem dX7_goBack_27 : decode cX7_goBack 27 = .ok (.aload_n 0, 1) := by decide +kernel
theorem dX7_goBack_28 : decode cX7_goBack 28 = .ok (.iload_n 1, 1) := by decide +kernel
theorem dX7_goBack_29 : decode cX7_goBack 29 = .ok (.iconst 1, 1) := by decide +kernel
theorem dX7_goBack_30 : decode cX7_goBack 30 = .ok (.iadd, 1) := by decide +kernel
theorem dX7_goBack_31 : decode cX7_goBack 31 = .ok (.putfield 43, 3) := by decide +kernel
theorem dX7_goBack_34 : decode cX7_goBack 34 = .ok (.return_, 1) := by decide +kernel
theorem dX7_checkOrEnd_0 : decode cX7_checkOrEnd 0 = .ok (.iload_n 1, 1) := by decide +kernel
theorem dX7_checkOrEnd_1 : decode cX7_checkOrEnd 1 = .ok (.bipush 16, 2) := by decide +kernel
theorem dX7_checkOrEnd_3 : decode cX7_checkOrEnd 3 = .ok (.if_icmp .eq 11, 3) := by decide +kernel
theorem dX7_checkOrEnd_6 : decode cX7_checkOrEnd 6 = .ok (.aload_n 0, 1) := by decide +kernel
theorem dX7_checkOrEnd_7 : decode cX7_checkOrEnd 7 = .ok (.iconst 0, 1) := by decide +kernel
theorem dX7_checkOrEnd_8 : decode cX7_checkOrEnd 8 = .ok (.putfield 46, 3) := by decide +kernel
theorem dX7_checkOrEnd_11 : decode cX7_checkOrEnd 11 = .ok (.goto 16, 3) := by decide +kernel
theorem dX7_checkOrEnd_14 : decode cX7_checkOrEnd 14 = .ok (.aload_n 0, 1) := by decide +kernel
theorem dX7_checkOrEnd_15 : decode cX7_checkOrEnd 15 = .ok (.iload_n 2, 1) := by decide +kernel
theorem dX7_checkOrEnd_16 : decode cX7_checkOrEnd 16 = .ok (.invokevirtual 105, 3) := by decide +kernel
theorem dX7_checkOrEnd_19 : decode cX7_checkOrEnd 19 = .ok (.ifCond .ne 8, 3) := by decide +kernel
theorem dX7_checkOrEnd_22 : decode cX7_checkOrEnd 22 = .ok (.aload_n 0, 1) := by decide +kernel
theorem dX7_checkOrEnd_23 : decode cX7_checkOrEnd 23 = .ok (.iconst 4, 1) := by decide +kernel
theorem dX7_checkOrEnd_24 : decode cX7_checkOrEnd 24 = .ok (.invokevirtual 93, 3) := by decide +kernel
theorem dX7_checkOrEnd_27 : decode cX7_checkOrEnd 27 = .ok (.return_, 1) := by decide +kernel
