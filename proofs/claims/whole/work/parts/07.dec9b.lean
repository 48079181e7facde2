theorem dX9_openAt_0 : decode cX9_openAt 0 = .ok (.aload_n 0, 1) := by decide +kernel
theorem dX9_openAt_1 : decode cX9_openAt 1 = .ok (.getfield 131, 3) := by decide +kernel
theorem dX9_openAt_4 : decode cX9_openAt 4 = .ok (.ifCond .eq 33, 3) := by decide +kernel
theorem dX9_openAt_7 : decode cX9_openAt 7 = .ok (.iload_n 1, 1) := by decide +kernel
theorem dX9_openAt_8 : decode cX9_openAt 8 = .ok (.iconst 0, 1) := by decide +kernel
theorem dX9_openAt_9 : decode cX9_openAt 9 = .ok (.aload_n 0, 1) := by decide +kernel
theorem dX9_openAt_10 : decode cX9_openAt 10 = .ok (.getfield 128, 3) := by decide +kernel
theorem dX9_openAt_13 : decode cX9_openAt 13 = .ok (.iconst 1, 1) := by decide +kernel
theorem dX9_openAt_14 : decode cX9_openAt 14 = .ok (.isub, 1) := by decide +kernel
theorem dX9_openAt_15 : decode cX9_openAt 15 = .ok (.invokestatic 87, 3) := by decide +kernel
theorem dX9_openAt_18 : decode cX9_openAt 18 = .ok (.ifCond .eq 19, 3) := by decide +kernel
theorem dX9_openAt_21 : decode cX9_openAt 21 = .ok (.aload_n 0, 1) := by decide +kernel
theorem dX9_openAt_22 : decode cX9_openAt 22 = .ok (.getfield 34, 3) := by decide +kernel
theorem dX9_openAt_25 : decode cX9_openAt 25 = .ok (.aload_n 0, 1) := by decide +kernel
theorem dX9_openAt_26 : decode cX9_openAt 26 = .ok (.getfield 128, 3) := by decide +kernel
theorem dX9_openAt_29 : decode cX9_openAt 29 = .ok (.iconst 1, 1) := by decide +kernel
theorem dX9_openAt_30 : decode cX9_openAt 30 = .ok (.isub, 1) := by decide +kernel
theorem dX9_openAt_31 : decode cX9_openAt 31 = .ok (.iload_n 1, 1) := by decide +kernel
theorem dX9_openAt_32 : decode cX9_openAt 32 = .ok (.isub, 1) := by decide +kernel
theorem dX9_openAt_33 : decode cX9_openAt 33 = .ok (.iaload, 1) := by decide +kernel
theorem dX9_openAt_34 : decode cX9_openAt 34 = .ok (.goto 4, 3) := by decide +kernel
theorem dX9_openAt_37 : decode cX9_openAt 37 = .ok (.iconst (-1), 1) := by decide +kernel
theorem dX9_openAt_38 : decode cX9_openAt 38 = .ok (.ireturn, 1) := by decide +kernel
theorem dX9_keeps_0 : decode cX9_keeps 0 = .ok (.aload_n 0, 1) := by decide +kernel
theorem dX9_keeps_1 : decode cX9_keeps 1 = .ok (.aload_n 0, 1) := by decide +kernel
theorem dX9_keeps_2 : decode cX9_keeps 2 = .ok (.getfield 131, 3) := by decide +kernel
theorem dX9_keeps_5 : decode cX9_keeps 5 = .ok (.putfield 157, 3) := by decide +kernel
theorem dX9_keeps_8 : decode cX9_keeps 8 = .ok (.aload_n 0, 1) := by decide +kernel
theorem dX9_keeps_9 : decode cX9_keeps 9 = .ok (.aload_n 0, 1) := by decide +kernel
theorem dX9_keeps_10 : decode cX9_keeps 10 = .ok (.getfield 131, 3) := by decide +kernel
theorem dX9_keeps_13 : decode cX9_keeps 13 = .ok (.ifCond .ne 7, 3) := by decide +kernel
theorem dX9_keeps_16 : decode cX9_keeps 16 = .ok (.iconst (-1), 1) := by decide +kernel
theorem dX9_keeps_17 : decode cX9_keeps 17 = .ok (.goto 7, 3) := by decide +kernel
theorem dX9_keeps_20 : decode cX9_keeps 20 = .ok (.aload_n 0, 1) := by decide +kernel
theorem dX9_keeps_21 : decode cX9_keeps 21 = .ok (.getfield 134, 3) := by decide +kernel
theorem dX9_keeps_24 : decode cX9_keeps 24 = .ok (.putfield 40, 3) := by decide +kernel
theorem dX9_keeps_27 : decode cX9_keeps 27 = .ok (.aload_n 0, 1) := by decide +kernel
theorem dX9_keeps_28 : decode cX9_keeps 28 = .ok (.aload_n 0, 1) := by decide +kernel
theorem dX9_keeps_29 : decode cX9_keeps 29 = .ok (.getfield 137, 3) := by decide +kernel
theorem dX9_keeps_32 : decode cX9_keeps 32 = .ok (.putfield 160, 3) := by decide +kernel
theorem dX9_keeps_35 : decode cX9_keeps 35 = .ok (.aload_n 0, 1) := by decide +kernel
theorem dX9_keeps_36 : decode cX9_keeps 36 = .ok (.aload_n 0, 1) := by decide +kernel
theorem dX9_keeps_37 : decode cX9_keeps 37 = .ok (.getfield 131, 3) := by decide +kernel
theorem dX9_keeps_40 : decode cX9_keeps 40 = .ok (.ifCond .ne 7, 3) := by decide +kernel
theorem dX9_keeps_43 : decode cX9_keeps 43 = .ok (.iconst 0, 1) := by decide +kernel
theorem dX9_keeps_44 : decode cX9_keeps 44 = .ok (.goto 7, 3) := by decide +kernel
theorem dX9_keeps_47 : decode cX9_keeps 47 = .ok (.aload_n 0, 1) := by decide +kernel
theorem dX9_keeps_48 : decode cX9_keeps 48 = .ok (.getfield 128, 3) := by decide +kernel
theorem dX9_keeps_51 : decode cX9_keeps 51 = .ok (.putfield 163, 3) := by decide +kernel
theorem dX9_keeps_54 : decode cX9_keeps 54 = .ok (.aload_n 0, 1) := by decide +kernel
theorem dX9_keeps_55 : decode cX9_keeps 55 = .ok (.iconst 0, 1) := by decide +kernel
theorem dX9_keeps_56 : decode cX9_keeps 56 = .ok (.putfield 166, 3) := by decide +kernel
theorem dX9_keeps_59 : decode cX9_keeps 59 = .ok (.iconst 0, 1) := by decide +kernel
theorem dX9_keeps_60 : decode cX9_keeps 60 = .ok (.istore_n 1, 1) := by decide +kernel
theorem dX9_keeps_61 : decode cX9_keeps 61 = .ok (.iload_n 1, 1) := by decide +kernel
theorem dX9_keeps_62 : decode cX9_keeps 62 = .ok (.bipush 8, 2) := by decide +kernel
theorem dX9_keeps_64 : decode cX9_keeps 64 = .ok (.if_icmp .ge 20, 3) := by decide +kernel
theorem dX9_keeps_67 : decode cX9_keeps 67 = .ok (.aload_n 0, 1) := by decide +kernel
theorem dX9_keeps_68 : decode cX9_keeps 68 = .ok (.getfield 44, 3) := by decide +kernel
theorem dX9_keeps_71 : decode cX9_keeps 71 = .ok (.iload_n 1, 1) := by decide +kernel
theorem dX9_keeps_72 : decode cX9_keeps 72 = .ok (.aload_n 0, 1) := by decide +kernel
theorem dX9_keeps_73 : decode cX9_keeps 73 = .ok (.iload_n 1, 1) := by decide +kernel
theorem dX9_keeps_74 : decode cX9_keeps 74 = .ok (.invokevirtual 169, 3) := by decide +kernel
theorem dX9_keeps_77 : decode cX9_keeps 77 = .ok (.iastore, 1) := by decide +kernel
theorem dX9_keeps_78 : decode cX9_keeps 78 = .ok (.iinc 1 1, 3) := by decide +kernel
theorem dX9_keeps_81 : decode cX9_keeps 81 = .ok (.goto (-20), 3) := by decide +kernel
theorem dX9_keeps_84 : decode cX9_keeps 84 = .ok (.iconst 0, 1) := by decide +kernel
theorem dX9_keeps_85 : decode cX9_keeps 85 = .ok (.istore_n 1, 1) := by decide +kernel
theorem dX9_keeps_86 : decode cX9_keeps 86 = .ok (.iload_n 1, 1) := by decide +kernel
theorem dX9_keeps_87 : decode cX9_keeps 87 = .ok (.bipush 8, 2) := by decide +kernel
theorem dX9_keeps_89 : decode cX9_keeps 89 = .ok (.if_icmp .ge 21, 3) := by decide +kernel
theorem dX9_keeps_92 : decode cX9_keeps 92 = .ok (.aload_n 0, 1) := by decide +kernel
theorem dX9_keeps_93 : decode cX9_keeps 93 = .ok (.getfield 47, 3) := by decide +kernel
theorem dX9_keeps_96 : decode cX9_keeps 96 = .ok (.iload_n 1, 1) := by decide +kernel
theorem dX9_keeps_97 : decode cX9_keeps 97 = .ok (.aload_n 0, 1) := by decide +kernel
theorem dX9_keeps_98 : decode cX9_keeps 98 = .ok (.getfield 28, 3) := by decide +kernel
theorem dX9_keeps_101 : decode cX9_keeps 101 = .ok (.iload_n 1, 1) := by decide +kernel
theorem dX9_keeps_102 : decode cX9_keeps 102 = .ok (.iaload, 1) := by decide +kernel
theorem dX9_keeps_103 : decode cX9_keeps 103 = .ok (.iastore, 1) := by decide +kernel
theorem dX9_keeps_104 : decode cX9_keeps 104 = .ok (.iinc 1 1, 3) := by decide +kernel
theorem dX9_keeps_107 : decode cX9_keeps 107 = .ok (.goto (-21), 3) := by decide +kernel
theorem dX9_keeps_110 : decode cX9_keeps 110 = .ok (.iconst 0, 1) := by decide +kernel
theorem dX9_keeps_111 : decode cX9_keeps 111 = .ok (.istore_n 1, 1) := by decide +kernel
theorem dX9_keeps_112 : decode cX9_keeps 112 = .ok (.iload_n 1, 1) := by decide +kernel
theorem dX9_keeps_113 : decode cX9_keeps 113 = .ok (.sipush 160, 3) := by decide +kernel
theorem dX9_keeps_116 : decode cX9_keeps 116 = .ok (.if_icmp .ge 44, 3) := by decide +kernel
theorem dX9_keeps_119 : decode cX9_keeps 119 = .ok (.aload_n 0, 1) := by decide +kernel
theorem dX9_keeps_120 : decode cX9_keeps 120 = .ok (.getfield 50, 3) := by decide +kernel
theorem dX9_keeps_123 : decode cX9_keeps 123 = .ok (.iload_n 1, 1) := by decide +kernel
theorem dX9_keeps_124 : decode cX9_keeps 124 = .ok (.aload_n 0, 1) := by decide +kernel
theorem dX9_keeps_125 : decode cX9_keeps 125 = .ok (.getfield 37, 3) := by decide +kernel
theorem dX9_keeps_128 : decode cX9_keeps 128 = .ok (.iload_n 1, 1) := by decide +kernel
theorem dX9_keeps_129 : decode cX9_keeps 129 = .ok (.iaload, 1) := by decide +kernel
theorem dX9_keeps_130 : decode cX9_keeps 130 = .ok (.iastore, 1) := by decide +kernel
theorem dX9_keeps_131 : decode cX9_keeps 131 = .ok (.aload_n 0, 1) := by decide +kernel
theorem dX9_keeps_132 : decode cX9_keeps 132 = .ok (.dup, 1) := by decide +kernel
theorem dX9_keeps_133 : decode cX9_keeps 133 = .ok (.getfield 166, 3) := by decide +kernel
theorem dX9_keeps_136 : decode cX9_keeps 136 = .ok (.aload_n 0, 1) := by decide +kernel
theorem dX9_keeps_137 : decode cX9_keeps 137 = .ok (.getfield 37, 3) := by decide +kernel
theorem dX9_keeps_140 : decode cX9_keeps 140 = .ok (.iload_n 1, 1) := by decide +kernel
theorem dX9_keeps_141 : decode cX9_keeps 141 = .ok (.iaload, 1) := by decide +kernel
theorem dX9_keeps_142 : decode cX9_keeps 142 = .ok (.ifCond .le 7, 3) := by decide +kernel
theorem dX9_keeps_145 : decode cX9_keeps 145 = .ok (.iconst 1, 1) := by decide +kernel
theorem dX9_keeps_146 : decode cX9_keeps 146 = .ok (.goto 4, 3) := by decide +kernel
theorem dX9_keeps_149 : decode cX9_keeps 149 = .ok (.iconst 0, 1) := by decide +kernel
theorem dX9_keeps_150 : decode cX9_keeps 150 = .ok (.iadd, 1) := by decide +kernel
theorem dX9_keeps_151 : decode cX9_keeps 151 = .ok (.putfield 166, 3) := by decide +kernel
theorem dX9_keeps_154 : decode cX9_keeps 154 = .ok (.iinc 1 1, 3) := by decide +kernel
theorem dX9_keeps_157 : decode cX9_keeps 157 = .ok (.goto (-45), 3) := by decide +kernel
theorem dX9_keeps_160 : decode cX9_keeps 160 = .ok (.return_, 1) := by decide +kernel
theorem dX9_run_0 : decode cX9_run 0 = .ok (.aload_n 0, 1) := by decide +kernel
theorem dX9_run_1 : decode cX9_run 1 = .ok (.invokevirtual 114, 3) := by decide +kernel
theorem dX9_run_4 : decode cX9_run 4 = .ok (.aload_n 0, 1) := by decide +kernel
theorem dX9_run_5 : decode cX9_run 5 = .ok (.invokevirtual 173, 3) := by decide +kernel
theorem dX9_run_8 : decode cX9_run 8 = .ok (.aload_n 0, 1) := by decide +kernel
theorem dX9_run_9 : decode cX9_run 9 = .ok (.invokevirtual 176, 3) := by decide +kernel
theorem dX9_run_12 : decode cX9_run 12 = .ok (.aload_n 0, 1) := by decide +kernel
theorem dX9_run_13 : decode cX9_run 13 = .ok (.getfield 131, 3) := by decide +kernel
theorem dX9_run_16 : decode cX9_run 16 = .ok (.ireturn, 1) := by decide +kernel
theorem dX9_told_0 : decode cX9_told 0 = .ok (.iload_n 1, 1) := by decide +kernel
theorem dX9_told_1 : decode cX9_told 1 = .ok (.tableswitch 60 0 4 #[35, 40, 45, 50, 55], 35) := by decide +kernel
theorem dX9_told_36 : decode cX9_told 36 = .ok (.aload_n 0, 1) := by decide +kernel
theorem dX9_told_37 : decode cX9_told 37 = .ok (.getfield 157, 3) := by decide +kernel
theorem dX9_told_40 : decode cX9_told 40 = .ok (.ireturn, 1) := by decide +kernel
theorem dX9_told_41 : decode cX9_told 41 = .ok (.aload_n 0, 1) := by decide +kernel
theorem dX9_told_42 : decode cX9_told 42 = .ok (.getfield 40, 3) := by decide +kernel
theorem dX9_told_45 : decode cX9_told 45 = .ok (.ireturn, 1) := by decide +kernel
theorem dX9_told_46 : decode cX9_told 46 = .ok (.aload_n 0, 1) := by decide +kernel
theorem dX9_told_47 : decode cX9_told 47 = .ok (.getfield 163, 3) := by decide +kernel
theorem dX9_told_50 : decode cX9_told 50 = .ok (.ireturn, 1) := by decide +kernel
theorem dX9_told_51 : decode cX9_told 51 = .ok (.aload_n 0, 1) := by decide +kernel
theorem dX9_told_52 : decode cX9_told 52 = .ok (.getfield 160, 3) := by decide +kernel
theorem dX9_told_55 : decode cX9_told 55 = .ok (.ireturn, 1) := by decide +kernel
theorem dX9_told_56 : decode cX9_told 56 = .ok (.aload_n 0, 1) := by decide +kernel
theorem dX9_told_57 : decode cX9_told 57 = .ok (.getfield 166, 3) := by decide +kernel
theorem dX9_told_60 : decode cX9_told 60 = .ok (.ireturn, 1) := by decide +kernel
theorem dX9_told_61 : decode cX9_told 61 = .ok (.iconst (-1), 1) := by decide +kernel
theorem dX9_told_62 : decode cX9_told 62 = .ok (.ireturn, 1) := by decide +kernel
theorem dX9_called_0 : decode cX9_called 0 = .ok (.iload_n 1, 1) := by decide +kernel
theorem dX9_called_1 : decode cX9_called 1 = .ok (.iconst 0, 1) := by decide +kernel
theorem dX9_called_2 : decode cX9_called 2 = .ok (.aload_n 0, 1) := by decide +kernel
theorem dX9_called_3 : decode cX9_called 3 = .ok (.getfield 163, 3) := by decide +kernel
theorem dX9_called_6 : decode cX9_called 6 = .ok (.iconst 1, 1) := by decide +kernel
theorem dX9_called_7 : decode cX9_called 7 = .ok (.isub, 1) := by decide +kernel
theorem dX9_called_8 : decode cX9_called 8 = .ok (.invokestatic 87, 3) := by decide +kernel
theorem dX9_called_11 : decode cX9_called 11 = .ok (.ifCond .eq 12, 3) := by decide +kernel
theorem dX9_called_14 : decode cX9_called 14 = .ok (.aload_n 0, 1) := by decide +kernel
theorem dX9_called_15 : decode cX9_called 15 = .ok (.getfield 44, 3) := by decide +kernel
theorem dX9_called_18 : decode cX9_called 18 = .ok (.iload_n 1, 1) := by decide +kernel
theorem dX9_called_19 : decode cX9_called 19 = .ok (.iaload, 1) := by decide +kernel
theorem dX9_called_20 : decode cX9_called 20 = .ok (.goto 4, 3) := by decide +kernel
theorem dX9_called_23 : decode cX9_called 23 = .ok (.iconst (-1), 1) := by decide +kernel
theorem dX9_called_24 : decode cX9_called 24 = .ok (.ireturn, 1) := by decide +kernel
theorem dX9_register_0 : decode cX9_register 0 = .ok (.aload_n 0, 1) := by decide +kernel
theorem dX9_register_1 : decode cX9_register 1 = .ok (.iload_n 1, 1) := by decide +kernel
theorem dX9_register_2 : decode cX9_register 2 = .ok (.iconst 0, 1) := by decide +kernel
theorem dX9_register_3 : decode cX9_register 3 = .ok (.bipush 7, 2) := by decide +kernel
theorem dX9_register_5 : decode cX9_register 5 = .ok (.invokestatic 87, 3) := by decide +kernel
theorem dX9_register_8 : decode cX9_register 8 = .ok (.ifCond .eq 7, 3) := by decide +kernel
theorem dX9_register_11 : decode cX9_register 11 = .ok (.iconst 0, 1) := by decide +kernel
theorem dX9_register_12 : decode cX9_register 12 = .ok (.goto 4, 3) := by decide +kernel
theorem dX9_register_15 : decode cX9_register 15 = .ok (.iconst (-1), 1) := by decide +kernel
theorem dX9_register_16 : decode cX9_register 16 = .ok (.putfield 104, 3) := by decide +kernel
theorem dX9_register_19 : decode cX9_register 19 = .ok (.aload_n 0, 1) := by decide +kernel
theorem dX9_register_20 : decode cX9_register 20 = .ok (.getfield 104, 3) := by decide +kernel
theorem dX9_register_23 : decode cX9_register 23 = .ok (.ifCond .ne 12, 3) := by decide +kernel
theorem dX9_register_26 : decode cX9_register 26 = .ok (.aload_n 0, 1) := by decide +kernel
theorem dX9_register_27 : decode cX9_register 27 = .ok (.getfield 47, 3) := by decide +kernel
theorem dX9_register_30 : decode cX9_register 30 = .ok (.iload_n 1, 1) := by decide +kernel
theorem dX9_register_31 : decode cX9_register 31 = .ok (.iaload, 1) := by decide +kernel
theorem dX9_register_32 : decode cX9_register 32 = .ok (.goto 4, 3) := by decide +kernel
theorem dX9_register_35 : decode cX9_register 35 = .ok (.iconst (-1), 1) := by decide +kernel
theorem dX9_register_36 : decode cX9_register 36 = .ok (.ireturn, 1) := by decide +kernel
theorem dX9_turns_0 : decode cX9_turns 0 = .ok (.iload_n 1, 1) := by decide +kernel
theorem dX9_turns_1 : decode cX9_turns 1 = .ok (.iconst 0, 1) := by decide +kernel
theorem dX9_turns_2 : decode cX9_turns 2 = .ok (.sipush 159, 3) := by decide +kernel
theorem dX9_turns_5 : decode cX9_turns 5 = .ok (.invokestatic 87, 3) := by decide +kernel
theorem dX9_turns_8 : decode cX9_turns 8 = .ok (.ifCond .eq 12, 3) := by decide +kernel
theorem dX9_turns_11 : decode cX9_turns 11 = .ok (.aload_n 0, 1) := by decide +kernel
theorem dX9_turns_12 : decode cX9_turns 12 = .ok (.getfield 50, 3) := by decide +kernel
theorem dX9_turns_15 : decode cX9_turns 15 = .ok (.iload_n 1, 1) := by decide +kernel
theorem dX9_turns_16 : decode cX9_turns 16 = .ok (.iaload, 1) := by decide +kernel
theorem dX9_turns_17 : decode cX9_turns 17 = .ok (.goto 4, 3) := by decide +kernel
theorem dX9_turns_20 : decode cX9_turns 20 = .ok (.iconst (-1), 1) := by decide +kernel
theorem dX9_turns_21 : decode cX9_turns 21 = .ok (.ireturn, 1) := by decide +kernel
theorem dX9_shows_0 : decode cX9_shows 0 = .ok (.aload_n 0, 1) := by decide +kernel
theorem dX9_shows_1 : decode cX9_shows 1 = .ok (.getfield 131, 3) := by decide +kernel
theorem dX9_shows_4 : decode cX9_shows 4 = .ok (.aload_n 0, 1) := by decide +kernel
theorem dX9_shows_5 : decode cX9_shows 5 = .ok (.getfield 72, 3) := by decide +kernel
theorem dX9_shows_8 : decode cX9_shows 8 = .ok (.iconst 5, 1) := by decide +kernel
theorem dX9_shows_9 : decode cX9_shows 9 = .ok (.iload_n 1, 1) := by decide +kernel
theorem dX9_shows_10 : decode cX9_shows 10 = .ok (.imul, 1) := by decide +kernel
theorem dX9_shows_11 : decode cX9_shows 11 = .ok (.iaload, 1) := by decide +kernel
theorem dX9_shows_12 : decode cX9_shows 12 = .ok (.if_icmp .ne 60, 3) := by decide +kernel
theorem dX9_shows_15 : decode cX9_shows 15 = .ok (.aload_n 0, 1) := by decide +kernel
theorem dX9_shows_16 : decode cX9_shows 16 = .ok (.getfield 134, 3) := by decide +kernel
theorem dX9_shows_19 : decode cX9_shows 19 = .ok (.aload_n 0, 1) := by decide +kernel
theorem dX9_shows_20 : decode cX9_shows 20 = .ok (.getfield 72, 3) := by decide +kernel
theorem dX9_shows_23 : decode cX9_shows 23 = .ok (.iconst 5, 1) := by decide +kernel
theorem dX9_shows_24 : decode cX9_shows 24 = .ok (.iload_n 1, 1) := by decide +kernel
theorem dX9_shows_25 : decode cX9_shows 25 = .ok (.imul, 1) := by decide +kernel
theorem dX9_shows_26 : decode cX9_shows 26 = .ok (.iconst 1, 1) := by decide +kernel
theorem dX9_shows_27 : decode cX9_shows 27 = .ok (.iadd, 1) := by decide +kernel
theorem dX9_shows_28 : decode cX9_shows 28 = .ok (.iaload, 1) := by decide +kernel
theorem dX9_shows_29 : decode cX9_shows 29 = .ok (.if_icmp .ne 43, 3) := by decide +kernel
theorem dX9_shows_32 : decode cX9_shows 32 = .ok (.aload_n 0, 1) := by decide +kernel
theorem dX9_shows_33 : decode cX9_shows 33 = .ok (.iconst 0, 1) := by decide +kernel
theorem dX9_shows_34 : decode cX9_shows 34 = .ok (.invokevirtual 169, 3) := by decide +kernel
theorem dX9_shows_37 : decode cX9_shows 37 = .ok (.aload_n 0, 1) := by decide +kernel
theorem dX9_shows_38 : decode cX9_shows 38 = .ok (.getfield 72, 3) := by decide +kernel
theorem dX9_shows_41 : decode cX9_shows 41 = .ok (.iconst 5, 1) := by decide +kernel
theorem dX9_shows_42 : decode cX9_shows 42 = .ok (.iload_n 1, 1) := by decide +kernel
theorem dX9_shows_43 : decode cX9_shows 43 = .ok (.imul, 1) := by decide +kernel
theorem dX9_shows_44 : decode cX9_shows 44 = .ok (.iconst 2, 1) := by decide +kernel
theorem dX9_shows_45 : decode cX9_shows 45 = .ok (.iadd, 1) := by decide +kernel
theorem dX9_shows_46 : decode cX9_shows 46 = .ok (.iaload, 1) := by decide +kernel
theorem dX9_shows_47 : decode cX9_shows 47 = .ok (.if_icmp .ne 25, 3) := by decide +kernel
theorem dX9_shows_50 : decode cX9_shows 50 = .ok (.aload_n 0, 1) := by decide +kernel
theorem dX9_shows_51 : decode cX9_shows 51 = .ok (.iconst 1, 1) := by decide +kernel
theorem dX9_shows_52 : decode cX9_shows 52 = .ok (.invokevirtual 169, 3) := by decide +kernel
theorem dX9_shows_55 : decode cX9_shows 55 = .ok (.aload_n 0, 1) := by decide +kernel
theorem dX9_shows_56 : decode cX9_shows 56 = .ok (.getfield 72, 3) := by decide +kernel
theorem dX9_shows_59 : decode cX9_shows 59 = .ok (.iconst 5, 1) := by decide +kernel
theorem dX9_shows_60 : decode cX9_shows 60 = .ok (.iload_n 1, 1) := by decide +kernel
theorem dX9_shows_61 : decode cX9_shows 61 = .ok (.imul, 1) := by decide +kernel
theorem dX9_shows_62 : decode cX9_shows 62 = .ok (.iconst 3, 1) := by decide +kernel
theorem dX9_shows_63 : decode cX9_shows 63 = .ok (.iadd, 1) := by decide +kernel
theorem dX9_shows_64 : decode cX9_shows 64 = .ok (.iaload, 1) := by decide +kernel
theorem dX9_shows_65 : decode cX9_shows 65 = .ok (.if_icmp .ne 7, 3) := by decide +kernel
theorem dX9_shows_68 : decode cX9_shows 68 = .ok (.iconst 1, 1) := by decide +kernel
theorem dX9_shows_69 : decode cX9_shows 69 = .ok (.goto 4, 3) := by decide +kernel
theorem dX9_shows_72 : decode cX9_shows 72 = .ok (.iconst 0, 1) := by decide +kernel
theorem dX9_shows_73 : decode cX9_shows 73 = .ok (.ireturn, 1) := by decide +kernel
theorem dX9_tries_0 : decode cX9_tries 0 = .ok (.aload_n 0, 1) := by decide +kernel
theorem dX9_tries_1 : decode cX9_tries 1 = .ok (.invokevirtual 173, 3) := by decide +kernel
theorem dX9_tries_4 : decode cX9_tries 4 = .ok (.aload_n 0, 1) := by decide +kernel
theorem dX9_tries_5 : decode cX9_tries 5 = .ok (.getfield 66, 3) := by decide +kernel
theorem dX9_tries_8 : decode cX9_tries 8 = .ok (.iload_n 1, 1) := by decide +kernel
theorem dX9_tries_9 : decode cX9_tries 9 = .ok (.dup2, 1) := by decide +kernel
theorem dX9_tries_10 : decode cX9_tries 10 = .ok (.iaload, 1) := by decide +kernel
theorem dX9_tries_11 : decode cX9_tries 11 = .ok (.iconst 1, 1) := by decide +kernel
theorem dX9_tries_12 : decode cX9_tries 12 = .ok (.iadd, 1) := by decide +kernel
theorem dX9_tries_13 : decode cX9_tries 13 = .ok (.iastore, 1) := by decide +kernel
theorem dX9_tries_14 : decode cX9_tries 14 = .ok (.iconst 0, 1) := by decide +kernel
theorem dX9_tries_15 : decode cX9_tries 15 = .ok (.istore_n 2, 1) := by decide +kernel
theorem dX9_tries_16 : decode cX9_tries 16 = .ok (.iconst 0, 1) := by decide +kernel
theorem dX9_tries_17 : decode cX9_tries 17 = .ok (.istore_n 3, 1) := by decide +kernel
theorem dX9_tries_18 : decode cX9_tries 18 = .ok (.iload_n 3, 1) := by decide +kernel
theorem dX9_tries_19 : decode cX9_tries 19 = .ok (.sipush 160, 3) := by decide +kernel
theorem dX9_tries_22 : decode cX9_tries 22 = .ok (.if_icmp .ge 63, 3) := by decide +kernel
theorem dX9_tries_25 : decode cX9_tries 25 = .ok (.sipush 1600, 3) := by decide +kernel
theorem dX9_tries_28 : decode cX9_tries 28 = .ok (.iload_n 1, 1) := by decide +kernel
theorem dX9_tries_29 : decode cX9_tries 29 = .ok (.imul, 1) := by decide +kernel
theorem dX9_tries_30 : decode cX9_tries 30 = .ok (.bipush 10, 2) := by decide +kernel
theorem dX9_tries_32 : decode cX9_tries 32 = .ok (.iload_n 3, 1) := by decide +kernel
theorem dX9_tries_33 : decode cX9_tries 33 = .ok (.imul, 1) := by decide +kernel
theorem dX9_tries_34 : decode cX9_tries 34 = .ok (.iadd, 1) := by decide +kernel
theorem dX9_tries_35 : decode cX9_tries 35 = .ok (.aload_n 0, 1) := by decide +kernel
theorem dX9_tries_36 : decode cX9_tries 36 = .ok (.getfield 37, 3) := by decide +kernel
theorem dX9_tries_39 : decode cX9_tries 39 = .ok (.iload_n 3, 1) := by decide +kernel
theorem dX9_tries_40 : decode cX9_tries 40 = .ok (.iaload, 1) := by decide +kernel
theorem dX9_tries_41 : decode cX9_tries 41 = .ok (.invokestatic 179, 3) := by decide +kernel
theorem dX9_tries_44 : decode cX9_tries 44 = .ok (.iadd, 1) := by decide +kernel
theorem dX9_tries_45 : decode cX9_tries 45 = .ok (.istore 4, 2) := by decide +kernel
theorem dX9_tries_47 : decode cX9_tries 47 = .ok (.aload_n 0, 1) := by decide +kernel
theorem dX9_tries_48 : decode cX9_tries 48 = .ok (.getfield 37, 3) := by decide +kernel
theorem dX9_tries_51 : decode cX9_tries 51 = .ok (.iload_n 3, 1) := by decide +kernel
theorem dX9_tries_52 : decode cX9_tries 52 = .ok (.iaload, 1) := by decide +kernel
theorem dX9_tries_53 : decode cX9_tries 53 = .ok (.ifCond .eq 26, 3) := by decide +kernel
theorem dX9_tries_56 : decode cX9_tries 56 = .ok (.aload_n 0, 1) := by decide +kernel
theorem dX9_tries_57 : decode cX9_tries 57 = .ok (.getfield 62, 3) := by decide +kernel
theorem dX9_tries_60 : decode cX9_tries 60 = .ok (.iload 4, 2) := by decide +kernel
theorem dX9_tries_62 : decode cX9_tries 62 = .ok (.baload, 1) := by decide +kernel
theorem dX9_tries_63 : decode cX9_tries 63 = .ok (.ifCond .eq 6, 3) := by decide +kernel
theorem dX9_tries_66 : decode cX9_tries 66 = .ok (.goto 13, 3) := by decide +kernel
theorem dX9_tries_69 : decode cX9_tries 69 = .ok (.aload_n 0, 1) := by decide +kernel
theorem dX9_tries_70 : decode cX9_tries 70 = .ok (.getfield 62, 3) := by decide +kernel
theorem dX9_tries_73 : decode cX9_tries 73 = .ok (.iload 4, 2) := by decide +kernel
theorem dX9_tries_75 : decode cX9_tries 75 = .ok (.iconst 1, 1) := by decide +kernel
theorem dX9_tries_76 : decode cX9_tries 76 = .ok (.bastore, 1) := by decide +kernel
theorem dX9_tries_77 : decode cX9_tries 77 = .ok (.iconst 1, 1) := by decide +kernel
theorem dX9_tries_78 : decode cX9_tries 78 = .ok (.istore_n 2, 1) := by decide +kernel
theorem dX9_tries_79 : decode cX9_tries 79 = .ok (.iinc 3 1, 3) := by decide +kernel
theorem dX9_tries_82 : decode cX9_tries 82 = .ok (.goto (-64), 3) := by decide +kernel
theorem dX9_tries_85 : decode cX9_tries 85 = .ok (.iconst 0, 1) := by decide +kernel
theorem dX9_tries_86 : decode cX9_tries 86 = .ok (.istore_n 3, 1) := by decide +kernel
theorem dX9_tries_87 : decode cX9_tries 87 = .ok (.iload_n 2, 1) := by decide +kernel
theorem dX9_tries_88 : decode cX9_tries 88 = .ok (.ifCond .eq 88, 3) := by decide +kernel
theorem dX9_tries_91 : decode cX9_tries 91 = .ok (.aload_n 0, 1) := by decide +kernel
theorem dX9_tries_92 : decode cX9_tries 92 = .ok (.getfield 59, 3) := by decide +kernel
theorem dX9_tries_95 : decode cX9_tries 95 = .ok (.iload_n 1, 1) := by decide +kernel
theorem dX9_tries_96 : decode cX9_tries 96 = .ok (.iaload, 1) := by decide +kernel
theorem dX9_tries_97 : decode cX9_tries 97 = .ok (.bipush 40, 2) := by decide +kernel
theorem dX9_tries_99 : decode cX9_tries 99 = .ok (.if_icmp .ge 77, 3) := by decide +kernel
theorem dX9_tries_102 : decode cX9_tries 102 = .ok (.bipush 40, 2) := by decide +kernel
theorem dX9_tries_104 : decode cX9_tries 104 = .ok (.iload_n 1, 1) := by decide +kernel
theorem dX9_tries_105 : decode cX9_tries 105 = .ok (.imul, 1) := by decide +kernel
theorem dX9_tries_106 : decode cX9_tries 106 = .ok (.aload_n 0, 1) := by decide +kernel
theorem dX9_tries_107 : decode cX9_tries 107 = .ok (.getfield 59, 3) := by decide +kernel
theorem dX9_tries_110 : decode cX9_tries 110 = .ok (.iload_n 1, 1) := by decide +kernel
theorem dX9_tries_111 : decode cX9_tries 111 = .ok (.iaload, 1) := by decide +kernel
theorem dX9_tries_112 : decode cX9_tries 112 = .ok (.iadd, 1) := by decide +kernel
theorem dX9_tries_113 : decode cX9_tries 113 = .ok (.istore 4, 2) := by decide +kernel
theorem dX9_tries_115 : decode cX9_tries 115 = .ok (.aload_n 0, 1) := by decide +kernel
theorem dX9_tries_116 : decode cX9_tries 116 = .ok (.getfield 56, 3) := by decide +kernel
theorem dX9_tries_119 : decode cX9_tries 119 = .ok (.iload 4, 2) := by decide +kernel
theorem dX9_tries_121 : decode cX9_tries 121 = .ok (.aload_n 0, 1) := by decide +kernel
theorem dX9_tries_122 : decode cX9_tries 122 = .ok (.getfield 110, 3) := by decide +kernel
theorem dX9_tries_125 : decode cX9_tries 125 = .ok (.iastore, 1) := by decide +kernel
theorem dX9_tries_126 : decode cX9_tries 126 = .ok (.iconst 0, 1) := by decide +kernel
theorem dX9_tries_127 : decode cX9_tries 127 = .ok (.istore 5, 2) := by decide +kernel
theorem dX9_tries_129 : decode cX9_tries 129 = .ok (.iload 5, 2) := by decide +kernel
theorem dX9_tries_131 : decode cX9_tries 131 = .ok (.aload_n 0, 1) := by decide +kernel
theorem dX9_tries_132 : decode cX9_tries 132 = .ok (.getfield 110, 3) := by decide +kernel
theorem dX9_tries_135 : decode cX9_tries 135 = .ok (.if_icmp .ge 29, 3) := by decide +kernel
theorem dX9_tries_138 : decode cX9_tries 138 = .ok (.aload_n 0, 1) := by decide +kernel
theorem dX9_tries_139 : decode cX9_tries 139 = .ok (.getfield 53, 3) := by decide +kernel
theorem dX9_tries_142 : decode cX9_tries 142 = .ok (.bipush 24, 2) := by decide +kernel
theorem dX9_tries_144 : decode cX9_tries 144 = .ok (.iload 4, 2) := by decide +kernel
theorem dX9_tries_146 : decode cX9_tries 146 = .ok (.imul, 1) := by decide +kernel
theorem dX9_tries_147 : decode cX9_tries 147 = .ok (.iload 5, 2) := by decide +kernel
theorem dX9_tries_149 : decode cX9_tries 149 = .ok (.iadd, 1) := by decide +kernel
theorem dX9_tries_150 : decode cX9_tries 150 = .ok (.aload_n 0, 1) := by decide +kernel
theorem dX9_tries_151 : decode cX9_tries 151 = .ok (.getfield 25, 3) := by decide +kernel
theorem dX9_tries_154 : decode cX9_tries 154 = .ok (.iload 5, 2) := by decide +kernel
theorem dX9_tries_156 : decode cX9_tries 156 = .ok (.iaload, 1) := by decide +kernel
theorem dX9_tries_157 : decode cX9_tries 157 = .ok (.iastore, 1) := by decide +kernel
theorem dX9_tries_158 : decode cX9_tries 158 = .ok (.iinc 5 1, 3) := by decide +kernel
theorem dX9_tries_161 : decode cX9_tries 161 = .ok (.goto (-32), 3) := by decide +kernel
theorem dX9_tries_164 : decode cX9_tries 164 = .ok (.aload_n 0, 1) := by decide +kernel
theorem dX9_tries_165 : decode cX9_tries 165 = .ok (.getfield 59, 3) := by decide +kernel
theorem dX9_tries_168 : decode cX9_tries 168 = .ok (.iload_n 1, 1) := by decide +kernel
theorem dX9_tries_169 : decode cX9_tries 169 = .ok (.dup2, 1) := by decide +kernel
theorem dX9_tries_170 : decode cX9_tries 170 = .ok (.iaload, 1) := by decide +kernel
theorem dX9_tries_171 : decode cX9_tries 171 = .ok (.iconst 1, 1) := by decide +kernel
theorem dX9_tries_172 : decode cX9_tries 172 = .ok (.iadd, 1) := by decide +kernel
theorem dX9_tries_173 : decode cX9_tries 173 = .ok (.iastore, 1) := by decide +kernel
theorem dX9_tries_174 : decode cX9_tries 174 = .ok (.iconst 1, 1) := by decide +kernel
theorem dX9_tries_175 : decode cX9_tries 175 = .ok (.istore_n 3, 1) := by decide +kernel
theorem dX9_tries_176 : decode cX9_tries 176 = .ok (.aload_n 0, 1) := by decide +kernel
theorem dX9_tries_177 : decode cX9_tries 177 = .ok (.getfield 131, 3) := by decide +kernel
theorem dX9_tries_180 : decode cX9_tries 180 = .ok (.ifCond .ne 7, 3) := by decide +kernel
theorem dX9_tries_183 : decode cX9_tries 183 = .ok (.iload_n 3, 1) := by decide +kernel
theorem dX9_tries_184 : decode cX9_tries 184 = .ok (.goto 10, 3) := by decide +kernel
theorem dX9_tries_187 : decode cX9_tries 187 = .ok (.iload_n 3, 1) := by decide +kernel
theorem dX9_tries_188 : decode cX9_tries 188 = .ok (.aload_n 0, 1) := by decide +kernel
theorem dX9_tries_189 : decode cX9_tries 189 = .ok (.iload_n 1, 1) := by decide +kernel
theorem dX9_tries_190 : decode cX9_tries 190 = .ok (.invokevirtual 182, 3) := by decide +kernel
theorem dX9_tries_193 : decode cX9_tries 193 = .ok (.iadd, 1) := by decide +kernel
theorem dX9_tries_194 : decode cX9_tries 194 = .ok (.ireturn, 1) := by decide +kernel
theorem dX9_comes__0 : decode cX9_comes_ 0 = .ok (.bipush 20, 2) := by decide +kernel
theorem dX9_comes__2 : decode cX9_comes_ 2 = .ok (.iload_n 1, 1) := by decide +kernel
theorem dX9_comes__3 : decode cX9_comes_ 3 = .ok (.imul, 1) := by decide +kernel
theorem dX9_comes__4 : decode cX9_comes_ 4 = .ok (.istore_n 2, 1) := by decide +kernel
theorem dX9_comes__5 : decode cX9_comes_ 5 = .ok (.iload_n 2, 1) := by decide +kernel
theorem dX9_comes__6 : decode cX9_comes_ 6 = .ok (.bipush 20, 2) := by decide +kernel
theorem dX9_comes__8 : decode cX9_comes_ 8 = .ok (.iload_n 1, 1) := by decide +kernel
theorem dX9_comes__9 : decode cX9_comes_ 9 = .ok (.imul, 1) := by decide +kernel
theorem dX9_comes__10 : decode cX9_comes_ 10 = .ok (.aload_n 0, 1) := by decide +kernel
theorem dX9_comes__11 : decode cX9_comes_ 11 = .ok (.getfield 69, 3) := by decide +kernel
theorem dX9_comes__14 : decode cX9_comes_ 14 = .ok (.iload_n 1, 1) := by decide +kernel
theorem dX9_comes__15 : decode cX9_comes_ 15 = .ok (.iaload, 1) := by decide +kernel
theorem dX9_comes__16 : decode cX9_comes_ 16 = .ok (.iadd, 1) := by decide +kernel
theorem dX9_comes__17 : decode cX9_comes_ 17 = .ok (.if_icmp .ge 36, 3) := by decide +kernel
theorem dX9_comes__20 : decode cX9_comes_ 20 = .ok (.aload_n 0, 1) := by decide +kernel
theorem dX9_comes__21 : decode cX9_comes_ 21 = .ok (.iload_n 2, 1) := by decide +kernel
theorem dX9_comes__22 : decode cX9_comes_ 22 = .ok (.invokevirtual 184, 3) := by decide +kernel
theorem dX9_comes__25 : decode cX9_comes_ 25 = .ok (.ifCond .ne 6, 3) := by decide +kernel
theorem dX9_comes__28 : decode cX9_comes_ 28 = .ok (.goto 19, 3) := by decide +kernel
theorem dX9_comes__31 : decode cX9_comes_ 31 = .ok (.aload_n 0, 1) := by decide +kernel
theorem dX9_comes__32 : decode cX9_comes_ 32 = .ok (.getfield 72, 3) := by decide +kernel
theorem dX9_comes__35 : decode cX9_comes_ 35 = .ok (.iconst 5, 1) := by decide +kernel
theorem dX9_comes__36 : decode cX9_comes_ 36 = .ok (.iload_n 2, 1) := by decide +kernel
theorem dX9_comes__37 : decode cX9_comes_ 37 = .ok (.imul, 1) := by decide +kernel
theorem dX9_comes__38 : decode cX9_comes_ 38 = .ok (.iconst 4, 1) := by decide +kernel
theorem dX9_comes__39 : decode cX9_comes_ 39 = .ok (.iadd, 1) := by decide +kernel
theorem dX9_comes__40 : decode cX9_comes_ 40 = .ok (.dup2, 1) := by decide +kernel
theorem dX9_comes__41 : decode cX9_comes_ 41 = .ok (.iaload, 1) := by decide +kernel
theorem dX9_comes__42 : decode cX9_comes_ 42 = .ok (.iconst 1, 1) := by decide +kernel
theorem dX9_comes__43 : decode cX9_comes_ 43 = .ok (.iadd, 1) := by decide +kernel
theorem dX9_comes__44 : decode cX9_comes_ 44 = .ok (.iastore, 1) := by decide +kernel
theorem dX9_comes__45 : decode cX9_comes_ 45 = .ok (.iconst 0, 1) := by decide +kernel
theorem dX9_comes__46 : decode cX9_comes_ 46 = .ok (.ireturn, 1) := by decide +kernel
theorem dX9_comes__47 : decode cX9_comes_ 47 = .ok (.iinc 2 1, 3) := by decide +kernel
theorem dX9_comes__50 : decode cX9_comes_ 50 = .ok (.goto (-45), 3) := by decide +kernel
theorem dX9_comes__53 : decode cX9_comes_ 53 = .ok (.aload_n 0, 1) := by decide +kernel
theorem dX9_comes__54 : decode cX9_comes_ 54 = .ok (.getfield 69, 3) := by decide +kernel
theorem dX9_comes__57 : decode cX9_comes_ 57 = .ok (.iload_n 1, 1) := by decide +kernel
theorem dX9_comes__58 : decode cX9_comes_ 58 = .ok (.iaload, 1) := by decide +kernel
theorem dX9_comes__59 : decode cX9_comes_ 59 = .ok (.bipush 20, 2) := by decide +kernel
theorem dX9_comes__61 : decode cX9_comes_ 61 = .ok (.if_icmp .ne 5, 3) := by decide +kernel
theorem dX9_comes__64 : decode cX9_comes_ 64 = .ok (.iconst 0, 1) := by decide +kernel
theorem dX9_comes__65 : decode cX9_comes_ 65 = .ok (.ireturn, 1) := by decide +kernel
theorem dX9_comes__66 : decode cX9_comes_ 66 = .ok (.bipush 20, 2) := by decide +kernel
theorem dX9_comes__68 : decode cX9_comes_ 68 = .ok (.iload_n 1, 1) := by decide +kernel
theorem dX9_comes__69 : decode cX9_comes_ 69 = .ok (.imul, 1) := by decide +kernel
theorem dX9_comes__70 : decode cX9_comes_ 70 = .ok (.aload_n 0, 1) := by decide +kernel
theorem dX9_comes__71 : decode cX9_comes_ 71 = .ok (.getfield 69, 3) := by decide +kernel
theorem dX9_comes__74 : decode cX9_comes_ 74 = .ok (.iload_n 1, 1) := by decide +kernel
theorem dX9_comes__75 : decode cX9_comes_ 75 = .ok (.iaload, 1) := by decide +kernel
theorem dX9_comes__76 : decode cX9_comes_ 76 = .ok (.iadd, 1) := by decide +kernel
theorem dX9_comes__77 : decode cX9_comes_ 77 = .ok (.istore_n 2, 1) := by decide +kernel
theorem dX9_comes__78 : decode cX9_comes_ 78 = .ok (.aload_n 0, 1) := by decide +kernel
theorem dX9_comes__79 : decode cX9_comes_ 79 = .ok (.getfield 72, 3) := by decide +kernel
theorem dX9_comes__82 : decode cX9_comes_ 82 = .ok (.iconst 5, 1) := by decide +kernel
theorem dX9_comes__83 : decode cX9_comes_ 83 = .ok (.iload_n 2, 1) := by decide +kernel
theorem dX9_comes__84 : decode cX9_comes_ 84 = .ok (.imul, 1) := by decide +kernel
theorem dX9_comes__85 : decode cX9_comes_ 85 = .ok (.aload_n 0, 1) := by decide +kernel
theorem dX9_comes__86 : decode cX9_comes_ 86 = .ok (.getfield 131, 3) := by decide +kernel
theorem dX9_comes__89 : decode cX9_comes_ 89 = .ok (.iastore, 1) := by decide +kernel
theorem dX9_comes__90 : decode cX9_comes_ 90 = .ok (.aload_n 0, 1) := by decide +kernel
theorem dX9_comes__91 : decode cX9_comes_ 91 = .ok (.getfield 72, 3) := by decide +kernel
theorem dX9_comes__94 : decode cX9_comes_ 94 = .ok (.iconst 5, 1) := by decide +kernel
theorem dX9_comes__95 : decode cX9_comes_ 95 = .ok (.iload_n 2, 1) := by decide +kernel
theorem dX9_comes__96 : decode cX9_comes_ 96 = .ok (.imul, 1) := by decide +kernel
theorem dX9_comes__97 : decode cX9_comes_ 97 = .ok (.iconst 1, 1) := by decide +kernel
theorem dX9_comes__98 : decode cX9_comes_ 98 = .ok (.iadd, 1) := by decide +kernel
theorem dX9_comes__99 : decode cX9_comes_ 99 = .ok (.aload_n 0, 1) := by decide +kernel
theorem dX9_comes__100 : decode cX9_comes_ 100 = .ok (.getfield 134, 3) := by decide +kernel
theorem dX9_comes__103 : decode cX9_comes_ 103 = .ok (.iastore, 1) := by decide +kernel
theorem dX9_comes__104 : decode cX9_comes_ 104 = .ok (.aload_n 0, 1) := by decide +kernel
theorem dX9_comes__105 : decode cX9_comes_ 105 = .ok (.getfield 72, 3) := by decide +kernel
theorem dX9_comes__108 : decode cX9_comes_ 108 = .ok (.iconst 5, 1) := by decide +kernel
theorem dX9_comes__109 : decode cX9_comes_ 109 = .ok (.iload_n 2, 1) := by decide +kernel
theorem dX9_comes__110 : decode cX9_comes_ 110 = .ok (.imul, 1) := by decide +kernel
theorem dX9_comes__111 : decode cX9_comes_ 111 = .ok (.iconst 2, 1) := by decide +kernel
theorem dX9_comes__112 : decode cX9_comes_ 112 = .ok (.iadd, 1) := by decide +kernel
theorem dX9_comes__113 : decode cX9_comes_ 113 = .ok (.aload_n 0, 1) := by decide +kernel
theorem dX9_comes__114 : decode cX9_comes_ 114 = .ok (.iconst 0, 1) := by decide +kernel
theorem dX9_comes__115 : decode cX9_comes_ 115 = .ok (.invokevirtual 169, 3) := by decide +kernel
theorem dX9_comes__118 : decode cX9_comes_ 118 = .ok (.iastore, 1) := by decide +kernel
theorem dX9_comes__119 : decode cX9_comes_ 119 = .ok (.aload_n 0, 1) := by decide +kernel
theorem dX9_comes__120 : decode cX9_comes_ 120 = .ok (.getfield 72, 3) := by decide +kernel
theorem dX9_comes__123 : decode cX9_comes_ 123 = .ok (.iconst 5, 1) := by decide +kernel
theorem dX9_comes__124 : decode cX9_comes_ 124 = .ok (.iload_n 2, 1) := by decide +kernel
theorem dX9_comes__125 : decode cX9_comes_ 125 = .ok (.imul, 1) := by decide +kernel
theorem dX9_comes__126 : decode cX9_comes_ 126 = .ok (.iconst 3, 1) := by decide +kernel
theorem dX9_comes__127 : decode cX9_comes_ 127 = .ok (.iadd, 1) := by decide +kernel
theorem dX9_comes__128 : decode cX9_comes_ 128 = .ok (.aload_n 0, 1) := by decide +kernel
theorem dX9_comes__129 : decode cX9_comes_ 129 = .ok (.iconst 1, 1) := by decide +kernel
theorem dX9_comes__130 : decode cX9_comes_ 130 = .ok (.invokevirtual 169, 3) := by decide +kernel
theorem dX9_comes__133 : decode cX9_comes_ 133 = .ok (.iastore, 1) := by decide +kernel
theorem dX9_comes__134 : decode cX9_comes_ 134 = .ok (.aload_n 0, 1) := by decide +kernel
theorem dX9_comes__135 : decode cX9_comes_ 135 = .ok (.getfield 72, 3) := by decide +kernel
theorem dX9_comes__138 : decode cX9_comes_ 138 = .ok (.iconst 5, 1) := by decide +kernel
theorem dX9_comes__139 : decode cX9_comes_ 139 = .ok (.iload_n 2, 1) := by decide +kernel
theorem dX9_comes__140 : decode cX9_comes_ 140 = .ok (.imul, 1) := by decide +kernel
theorem dX9_comes__141 : decode cX9_comes_ 141 = .ok (.iconst 4, 1) := by decide +kernel
theorem dX9_comes__142 : decode cX9_comes_ 142 = .ok (.iadd, 1) := by decide +kernel
theorem dX9_comes__143 : decode cX9_comes_ 143 = .ok (.iconst 1, 1) := by decide +kernel
theorem dX9_comes__144 : decode cX9_comes_ 144 = .ok (.iastore, 1) := by decide +kernel
theorem dX9_comes__145 : decode cX9_comes_ 145 = .ok (.aload_n 0, 1) := by decide +kernel
theorem dX9_comes__146 : decode cX9_comes_ 146 = .ok (.getfield 78, 3) := by decide +kernel
theorem dX9_comes__149 : decode cX9_comes_ 149 = .ok (.iload_n 2, 1) := by decide +kernel
theorem dX9_comes__150 : decode cX9_comes_ 150 = .ok (.aload_n 0, 1) := by decide +kernel
theorem dX9_comes__151 : decode cX9_comes_ 151 = .ok (.getfield 110, 3) := by decide +kernel
theorem dX9_comes__154 : decode cX9_comes_ 154 = .ok (.iastore, 1) := by decide +kernel
theorem dX9_comes__155 : decode cX9_comes_ 155 = .ok (.iconst 0, 1) := by decide +kernel
theorem dX9_comes__156 : decode cX9_comes_ 156 = .ok (.istore_n 3, 1) := by decide +kernel
theorem dX9_comes__157 : decode cX9_comes_ 157 = .ok (.iload_n 3, 1) := by decide +kernel
theorem dX9_comes__158 : decode cX9_comes_ 158 = .ok (.aload_n 0, 1) := by decide +kernel
theorem dX9_comes__159 : decode cX9_comes_ 159 = .ok (.getfield 110, 3) := by decide +kernel
theorem dX9_comes__162 : decode cX9_comes_ 162 = .ok (.if_icmp .ge 26, 3) := by decide +kernel
theorem dX9_comes__165 : decode cX9_comes_ 165 = .ok (.aload_n 0, 1) := by decide +kernel
theorem dX9_comes__166 : decode cX9_comes_ 166 = .ok (.getfield 75, 3) := by decide +kernel
theorem dX9_comes__169 : decode cX9_comes_ 169 = .ok (.bipush 24, 2) := by decide +kernel
theorem dX9_comes__171 : decode cX9_comes_ 171 = .ok (.iload_n 2, 1) := by decide +kernel
theorem dX9_comes__172 : decode cX9_comes_ 172 = .ok (.imul, 1) := by decide +kernel
theorem dX9_comes__173 : decode cX9_comes_ 173 = .ok (.iload_n 3, 1) := by decide +kernel
theorem dX9_comes__174 : decode cX9_comes_ 174 = .ok (.iadd, 1) := by decide +kernel
theorem dX9_comes__175 : decode cX9_comes_ 175 = .ok (.aload_n 0, 1) := by decide +kernel
theorem dX9_comes__176 : decode cX9_comes_ 176 = .ok (.getfield 25, 3) := by decide +kernel
theorem dX9_comes__179 : decode cX9_comes_ 179 = .ok (.iload_n 3, 1) := by decide +kernel
theorem dX9_comes__180 : decode cX9_comes_ 180 = .ok (.iaload, 1) := by decide +kernel
theorem dX9_comes__181 : decode cX9_comes_ 181 = .ok (.iastore, 1) := by decide +kernel
theorem dX9_comes__182 : decode cX9_comes_ 182 = .ok (.iinc 3 1, 3) := by decide +kernel
theorem dX9_comes__185 : decode cX9_comes_ 185 = .ok (.goto (-28), 3) := by decide +kernel
theorem dX9_comes__188 : decode cX9_comes_ 188 = .ok (.aload_n 0, 1) := by decide +kernel
theorem dX9_comes__189 : decode cX9_comes_ 189 = .ok (.getfield 69, 3) := by decide +kernel
theorem dX9_comes__192 : decode cX9_comes_ 192 = .ok (.iload_n 1, 1) := by decide +kernel
theorem dX9_comes__193 : decode cX9_comes_ 193 = .ok (.dup2, 1) := by decide +kernel
theorem dX9_comes__194 : decode cX9_comes_ 194 = .ok (.iaload, 1) := by decide +kernel
theorem dX9_comes__195 : decode cX9_comes_ 195 = .ok (.iconst 1, 1) := by decide +kernel
theorem dX9_comes__196 : decode cX9_comes_ 196 = .ok (.iadd, 1) := by decide +kernel
theorem dX9_comes__197 : decode cX9_comes_ 197 = .ok (.iastore, 1) := by decide +kernel
theorem dX9_comes__198 : decode cX9_comes_ 198 = .ok (.iconst 2, 1) := by decide +kernel
theorem dX9_comes__199 : decode cX9_comes_ 199 = .ok (.ireturn, 1) := by decide +kernel
theorem dX9_attempt_0 : decode cX9_attempt 0 = .ok (.iload_n 1, 1) := by decide +kernel
theorem dX9_attempt_1 : decode cX9_attempt 1 = .ok (.iconst 0, 1) := by decide +kernel
theorem dX9_attempt_2 : decode cX9_attempt 2 = .ok (.iconst 1, 1) := by decide +kernel
theorem dX9_attempt_3 : decode cX9_attempt 3 = .ok (.invokestatic 87, 3) := by decide +kernel
theorem dX9_attempt_6 : decode cX9_attempt 6 = .ok (.ifCond .ne 5, 3) := by decide +kernel
theorem dX9_attempt_9 : decode cX9_attempt 9 = .ok (.iconst (-1), 1) := by decide +kernel
theorem dX9_attempt_10 : decode cX9_attempt 10 = .ok (.ireturn, 1) := by decide +kernel
theorem dX9_attempt_11 : decode cX9_attempt 11 = .ok (.aload_n 0, 1) := by decide +kernel
theorem dX9_attempt_12 : decode cX9_attempt 12 = .ok (.invokevirtual 114, 3) := by decide +kernel
theorem dX9_attempt_15 : decode cX9_attempt 15 = .ok (.aload_n 0, 1) := by decide +kernel
theorem dX9_attempt_16 : decode cX9_attempt 16 = .ok (.iload_n 1, 1) := by decide +kernel
theorem dX9_attempt_17 : decode cX9_attempt 17 = .ok (.invokevirtual 187, 3) := by decide +kernel
theorem dX9_attempt_20 : decode cX9_attempt 20 = .ok (.istore_n 2, 1) := by decide +kernel
theorem dX9_attempt_21 : decode cX9_attempt 21 = .ok (.aload_n 0, 1) := by decide +kernel
theorem dX9_attempt_22 : decode cX9_attempt 22 = .ok (.invokevirtual 176, 3) := by decide +kernel
theorem dX9_attempt_25 : decode cX9_attempt 25 = .ok (.iload_n 2, 1) := by decide +kernel
theorem dX9_attempt_26 : decode cX9_attempt 26 = .ok (.ireturn, 1) := by decide +kernel
theorem dX9_about_0 : decode cX9_about 0 = .ok (.iload_n 1, 1) := by decide +kernel
theorem dX9_about_1 : decode cX9_about 1 = .ok (.iconst 0, 1) := by decide +kernel
theorem dX9_about_2 : decode cX9_about 2 = .ok (.iconst 1, 1) := by decide +kernel
theorem dX9_about_3 : decode cX9_about 3 = .ok (.invokestatic 87, 3) := by decide +kernel
theorem dX9_about_6 : decode cX9_about 6 = .ok (.ifCond .ne 5, 3) := by decide +kernel
theorem dX9_about_9 : decode cX9_about 9 = .ok (.iconst (-1), 1) := by decide +kernel
theorem dX9_about_10 : decode cX9_about 10 = .ok (.ireturn, 1) := by decide +kernel
theorem dX9_about_11 : decode cX9_about 11 = .ok (.iconst 0, 1) := by decide +kernel
theorem dX9_about_12 : decode cX9_about 12 = .ok (.istore_n 3, 1) := by decide +kernel
theorem dX9_about_13 : decode cX9_about 13 = .ok (.iload_n 2, 1) := by decide +kernel
theorem dX9_about_14 : decode cX9_about 14 = .ok (.tableswitch 183 0 4 #[34, 41, 48, 91, 176], 34) := by decide +kernel
theorem dX9_about_48 : decode cX9_about 48 = .ok (.aload_n 0, 1) := by decide +kernel
theorem dX9_about_49 : decode cX9_about 49 = .ok (.getfield 59, 3) := by decide +kernel
theorem dX9_about_52 : decode cX9_about 52 = .ok (.iload_n 1, 1) := by decide +kernel
theorem dX9_about_53 : decode cX9_about 53 = .ok (.iaload, 1) := by decide +kernel
theorem dX9_about_54 : decode cX9_about 54 = .ok (.ireturn, 1) := by decide +kernel
theorem dX9_about_55 : decode cX9_about 55 = .ok (.aload_n 0, 1) := by decide +kernel
theorem dX9_about_56 : decode cX9_about 56 = .ok (.getfield 69, 3) := by decide +kernel
theorem dX9_about_59 : decode cX9_about 59 = .ok (.iload_n 1, 1) := by decide +kernel
theorem dX9_about_60 : decode cX9_about 60 = .ok (.iaload, 1) := by decide +kernel
theorem dX9_about_61 : decode cX9_about 61 = .ok (.ireturn, 1) := by decide +kernel
theorem dX9_about_62 : decode cX9_about 62 = .ok (.iconst 0, 1) := by decide +kernel
theorem dX9_about_63 : decode cX9_about 63 = .ok (.istore 4, 2) := by decide +kernel
theorem dX9_about_65 : decode cX9_about 65 = .ok (.iload 4, 2) := by decide +kernel
theorem dX9_about_67 : decode cX9_about 67 = .ok (.sipush 1600, 3) := by decide +kernel
theorem dX9_about_70 : decode cX9_about 70 = .ok (.if_icmp .ge 33, 3) := by decide +kernel
theorem dX9_about_73 : decode cX9_about 73 = .ok (.iload_n 3, 1) := by decide +kernel
theorem dX9_about_74 : decode cX9_about 74 = .ok (.aload_n 0, 1) := by decide +kernel
theorem dX9_about_75 : decode cX9_about 75 = .ok (.getfield 62, 3) := by decide +kernel
theorem dX9_about_78 : decode cX9_about 78 = .ok (.sipush 1600, 3) := by decide +kernel
theorem dX9_about_81 : decode cX9_about 81 = .ok (.iload_n 1, 1) := by decide +kernel
theorem dX9_about_82 : decode cX9_about 82 = .ok (.imul, 1) := by decide +kernel
theorem dX9_about_83 : decode cX9_about 83 = .ok (.iload 4, 2) := by decide +kernel
theorem dX9_about_85 : decode cX9_about 85 = .ok (.iadd, 1) := by decide +kernel
theorem dX9_about_86 : decode cX9_about 86 = .ok (.baload, 1) := by decide +kernel
theorem dX9_about_87 : decode cX9_about 87 = .ok (.ifCond .eq 7, 3) := by decide +kernel
theorem dX9_about_90 : decode cX9_about 90 = .ok (.iconst 1, 1) := by decide +kernel
theorem dX9_about_91 : decode cX9_about 91 = .ok (.goto 4, 3) := by decide +kernel
theorem dX9_about_94 : decode cX9_about 94 = .ok (.iconst 0, 1) := by decide +kernel
theorem dX9_about_95 : decode cX9_about 95 = .ok (.iadd, 1) := by decide +kernel
theorem dX9_about_96 : decode cX9_about 96 = .ok (.istore_n 3, 1) := by decide +kernel
theorem dX9_about_97 : decode cX9_about 97 = .ok (.iinc 4 1, 3) := by decide +kernel
theorem dX9_about_100 : decode cX9_about 100 = .ok (.goto (-35), 3) := by decide +kernel
theorem dX9_about_103 : decode cX9_about 103 = .ok (.iload_n 3, 1) := by decide +kernel
theorem dX9_about_104 : decode cX9_about 104 = .ok (.ireturn, 1) := by decide +kernel
theorem dX9_about_105 : decode cX9_about 105 = .ok (.iconst 0, 1) := by decide +kernel
theorem dX9_about_106 : decode cX9_about 106 = .ok (.istore 4, 2) := by decide +kernel
theorem dX9_about_108 : decode cX9_about 108 = .ok (.iload 4, 2) := by decide +kernel
theorem dX9_about_110 : decode cX9_about 110 = .ok (.sipush 160, 3) := by decide +kernel
theorem dX9_about_113 : decode cX9_about 113 = .ok (.if_icmp .ge 75, 3) := by decide +kernel
theorem dX9_about_116 : decode cX9_about 116 = .ok (.iconst 0, 1) := by decide +kernel
theorem dX9_about_117 : decode cX9_about 117 = .ok (.istore 5, 2) := by decide +kernel
theorem dX9_about_119 : decode cX9_about 119 = .ok (.iconst 0, 1) := by decide +kernel
theorem dX9_about_120 : decode cX9_about 120 = .ok (.istore 6, 2) := by decide +kernel
theorem dX9_about_122 : decode cX9_about 122 = .ok (.iload 6, 2) := by decide +kernel
theorem dX9_about_124 : decode cX9_about 124 = .ok (.bipush 10, 2) := by decide +kernel
theorem dX9_about_126 : decode cX9_about 126 = .ok (.if_icmp .ge 43, 3) := by decide +kernel
theorem dX9_about_129 : decode cX9_about 129 = .ok (.iload 5, 2) := by decide +kernel
theorem dX9_about_131 : decode cX9_about 131 = .ok (.ifCond .ne 25, 3) := by decide +kernel
theorem dX9_about_134 : decode cX9_about 134 = .ok (.aload_n 0, 1) := by decide +kernel
theorem dX9_about_135 : decode cX9_about 135 = .ok (.getfield 62, 3) := by decide +kernel
theorem dX9_about_138 : decode cX9_about 138 = .ok (.sipush 1600, 3) := by decide +kernel
theorem dX9_about_141 : decode cX9_about 141 = .ok (.iload_n 1, 1) := by decide +kernel
theorem dX9_about_142 : decode cX9_about 142 = .ok (.imul, 1) := by decide +kernel
theorem dX9_about_143 : decode cX9_about 143 = .ok (.bipush 10, 2) := by decide +kernel
theorem dX9_about_145 : decode cX9_about 145 = .ok (.iload 4, 2) := by decide +kernel
theorem dX9_about_147 : decode cX9_about 147 = .ok (.imul, 1) := by decide +kernel
theorem dX9_about_148 : decode cX9_about 148 = .ok (.iadd, 1) := by decide +kernel
theorem dX9_about_149 : decode cX9_about 149 = .ok (.iload 6, 2) := by decide +kernel
theorem dX9_about_151 : decode cX9_about 151 = .ok (.iadd, 1) := by decide +kernel
theorem dX9_about_152 : decode cX9_about 152 = .ok (.baload, 1) := by decide +kernel
theorem dX9_about_153 : decode cX9_about 153 = .ok (.ifCond .eq 7, 3) := by decide +kernel
theorem dX9_about_156 : decode cX9_about 156 = .ok (.iconst 1, 1) := by decide +kernel
theorem dX9_about_157 : decode cX9_about 157 = .ok (.goto 4, 3) := by decide +kernel
theorem dX9_about_160 : decode cX9_about 160 = .ok (.iconst 0, 1) := by decide +kernel
theorem dX9_about_161 : decode cX9_about 161 = .ok (.istore 5, 2) := by decide +kernel
theorem dX9_about_163 : decode cX9_about 163 = .ok (.iinc 6 1, 3) := by decide +kernel
theorem dX9_about_166 : decode cX9_about 166 = .ok (.goto (-44), 3) := by decide +kernel
theorem dX9_about_169 : decode cX9_about 169 = .ok (.iload_n 3, 1) := by decide +kernel
theorem dX9_about_170 : decode cX9_about 170 = .ok (.iload 5, 2) := by decide +kernel
theorem dX9_about_172 : decode cX9_about 172 = .ok (.ifCond .eq 7, 3) := by decide +kernel
theorem dX9_about_175 : decode cX9_about 175 = .ok (.iconst 1, 1) := by decide +kernel
theorem dX9_about_176 : decode cX9_about 176 = .ok (.goto 4, 3) := by decide +kernel
theorem dX9_about_179 : decode cX9_about 179 = .ok (.iconst 0, 1) := by decide +kernel
theorem dX9_about_180 : decode cX9_about 180 = .ok (.iadd, 1) := by decide +kernel
theorem dX9_about_181 : decode cX9_about 181 = .ok (.istore_n 3, 1) := by decide +kernel
theorem dX9_about_182 : decode cX9_about 182 = .ok (.iinc 4 1, 3) := by decide +kernel
theorem dX9_about_185 : decode cX9_about 185 = .ok (.goto (-77), 3) := by decide +kernel
theorem dX9_about_188 : decode cX9_about 188 = .ok (.iload_n 3, 1) := by decide +kernel
theorem dX9_about_189 : decode cX9_about 189 = .ok (.ireturn, 1) := by decide +kernel
theorem dX9_about_190 : decode cX9_about 190 = .ok (.aload_n 0, 1) := by decide +kernel
theorem dX9_about_191 : decode cX9_about 191 = .ok (.getfield 66, 3) := by decide +kernel
theorem dX9_about_194 : decode cX9_about 194 = .ok (.iload_n 1, 1) := by decide +kernel
theorem dX9_about_195 : decode cX9_about 195 = .ok (.iaload, 1) := by decide +kernel
theorem dX9_about_196 : decode cX9_about 196 = .ok (.ireturn, 1) := by decide +kernel
theorem dX9_about_197 : decode cX9_about 197 = .ok (.iconst (-1), 1) := by decide +kernel
theorem dX9_about_198 : decode cX9_about 198 = .ok (.ireturn, 1) := by decide +kernel
theorem dX9_covered_0 : decode cX9_covered 0 = .ok (.iload_n 1, 1) := by decide +kernel
theorem dX9_covered_1 : decode cX9_covered 1 = .ok (.iconst 0, 1) := by decide +kernel
theorem dX9_covered_2 : decode cX9_covered 2 = .ok (.iconst 1, 1) := by decide +kernel
theorem dX9_covered_3 : decode cX9_covered 3 = .ok (.invokestatic 87, 3) := by decide +kernel
theorem dX9_covered_6 : decode cX9_covered 6 = .ok (.ifCond .eq 24, 3) := by decide +kernel
theorem dX9_covered_9 : decode cX9_covered 9 = .ok (.iload_n 2, 1) := by decide +kernel
theorem dX9_covered_10 : decode cX9_covered 10 = .ok (.iconst 0, 1) := by decide +kernel
theorem dX9_covered_11 : decode cX9_covered 11 = .ok (.sipush 159, 3) := by decide +kernel
theorem dX9_covered_14 : decode cX9_covered 14 = .ok (.invokestatic 87, 3) := by decide +kernel
theorem dX9_covered_17 : decode cX9_covered 17 = .ok (.ifCond .eq 13, 3) := by decide +kernel
theorem dX9_covered_20 : decode cX9_covered 20 = .ok (.iload_n 3, 1) := by decide +kernel
theorem dX9_covered_21 : decode cX9_covered 21 = .ok (.iconst 1, 1) := by decide +kernel
theorem dX9_covered_22 : decode cX9_covered 22 = .ok (.bipush 9, 2) := by decide +kernel
theorem dX9_covered_24 : decode cX9_covered 24 = .ok (.invokestatic 87, 3) := by decide +kernel
theorem dX9_covered_27 : decode cX9_covered 27 = .ok (.ifCond .ne 5, 3) := by decide +kernel
theorem dX9_covered_30 : decode cX9_covered 30 = .ok (.iconst (-1), 1) := by decide +kernel
theorem dX9_covered_31 : decode cX9_covered 31 = .ok (.ireturn, 1) := by decide +kernel
theorem dX9_covered_32 : decode cX9_covered 32 = .ok (.aload_n 0, 1) := by decide +kernel
theorem dX9_covered_33 : decode cX9_covered 33 = .ok (.getfield 62, 3) := by decide +kernel
theorem dX9_covered_36 : decode cX9_covered 36 = .ok (.sipush 1600, 3) := by decide +kernel
theorem dX9_covered_39 : decode cX9_covered 39 = .ok (.iload_n 1, 1) := by decide +kernel
theorem dX9_covered_40 : decode cX9_covered 40 = .ok (.imul, 1) := by decide +kernel
theorem dX9_covered_41 : decode cX9_covered 41 = .ok (.bipush 10, 2) := by decide +kernel
theorem dX9_covered_43 : decode cX9_covered 43 = .ok (.iload_n 2, 1) := by decide +kernel
theorem dX9_covered_44 : decode cX9_covered 44 = .ok (.imul, 1) := by decide +kernel
theorem dX9_covered_45 : decode cX9_covered 45 = .ok (.iadd, 1) := by decide +kernel
theorem dX9_covered_46 : decode cX9_covered 46 = .ok (.iload_n 3, 1) := by decide +kernel
theorem dX9_covered_47 : decode cX9_covered 47 = .ok (.iadd, 1) := by decide +kernel
theorem dX9_covered_48 : decode cX9_covered 48 = .ok (.baload, 1) := by decide +kernel
theorem dX9_covered_49 : decode cX9_covered 49 = .ok (.ifCond .eq 7, 3) := by decide +kernel
theorem dX9_covered_52 : decode cX9_covered 52 = .ok (.iconst 1, 1) := by decide +kernel
theorem dX9_covered_53 : decode cX9_covered 53 = .ok (.goto 4, 3) := by decide +kernel
theorem dX9_covered_56 : decode cX9_covered 56 = .ok (.iconst 0, 1) := by decide +kernel
theorem dX9_covered_57 : decode cX9_covered 57 = .ok (.ireturn, 1) := by decide +kernel
theorem dX9_fromPool_0 : decode cX9_fromPool 0 = .ok (.aload_n 0, 1) := by decide +kernel
theorem dX9_fromPool_1 : decode cX9_fromPool 1 = .ok (.aload_n 0, 1) := by decide +kernel
theorem dX9_fromPool_2 : decode cX9_fromPool 2 = .ok (.getfield 56, 3) := by decide +kernel
theorem dX9_fromPool_5 : decode cX9_fromPool 5 = .ok (.iload_n 1, 1) := by decide +kernel
theorem dX9_fromPool_6 : decode cX9_fromPool 6 = .ok (.iaload, 1) := by decide +kernel
theorem dX9_fromPool_7 : decode cX9_fromPool 7 = .ok (.putfield 110, 3) := by decide +kernel
theorem dX9_fromPool_10 : decode cX9_fromPool 10 = .ok (.iconst 0, 1) := by decide +kernel
theorem dX9_fromPool_11 : decode cX9_fromPool 11 = .ok (.istore_n 2, 1) := by decide +kernel
theorem dX9_fromPool_12 : decode cX9_fromPool 12 = .ok (.iload_n 2, 1) := by decide +kernel
theorem dX9_fromPool_13 : decode cX9_fromPool 13 = .ok (.aload_n 0, 1) := by decide +kernel
theorem dX9_fromPool_14 : decode cX9_fromPool 14 = .ok (.getfield 110, 3) := by decide +kernel
theorem dX9_fromPool_17 : decode cX9_fromPool 17 = .ok (.if_icmp .ge 26, 3) := by decide +kernel
theorem dX9_fromPool_20 : decode cX9_fromPool 20 = .ok (.aload_n 0, 1) := by decide +kernel
theorem dX9_fromPool_21 : decode cX9_fromPool 21 = .ok (.getfield 25, 3) := by decide +kernel
theorem dX9_fromPool_24 : decode cX9_fromPool 24 = .ok (.iload_n 2, 1) := by decide +kernel
theorem dX9_fromPool_25 : decode cX9_fromPool 25 = .ok (.aload_n 0, 1) := by decide +kernel
theorem dX9_fromPool_26 : decode cX9_fromPool 26 = .ok (.getfield 53, 3) := by decide +kernel
theorem dX9_fromPool_29 : decode cX9_fromPool 29 = .ok (.bipush 24, 2) := by decide +kernel
theorem dX9_fromPool_31 : decode cX9_fromPool 31 = .ok (.iload_n 1, 1) := by decide +kernel
theorem dX9_fromPool_32 : decode cX9_fromPool 32 = .ok (.imul, 1) := by decide +kernel
theorem dX9_fromPool_33 : decode cX9_fromPool 33 = .ok (.iload_n 2, 1) := by decide +kernel
theorem dX9_fromPool_34 : decode cX9_fromPool 34 = .ok (.iadd, 1) := by decide +kernel
theorem dX9_fromPool_35 : decode cX9_fromPool 35 = .ok (.iaload, 1) := by decide +kernel
theorem dX9_fromPool_36 : decode cX9_fromPool 36 = .ok (.iastore, 1) := by decide +kernel
theorem dX9_fromPool_37 : decode cX9_fromPool 37 = .ok (.iinc 2 1, 3) := by decide +kernel
theorem dX9_fromPool_40 : decode cX9_fromPool 40 = .ok (.goto (-28), 3) := by decide +kernel
theorem dX9_fromPool_43 : decode cX9_fromPool 43 = .ok (.return_, 1) := by decide +kernel
theorem dX9_fromFirst_0 : decode cX9_fromFirst 0 = .ok (.aload_n 0, 1) := by decide +kernel
theorem dX9_fromFirst_1 : decode cX9_fromFirst 1 = .ok (.aload_n 0, 1) := by decide +kernel
theorem dX9_fromFirst_2 : decode cX9_fromFirst 2 = .ok (.getfield 78, 3) := by decide +kernel
theorem dX9_fromFirst_5 : decode cX9_fromFirst 5 = .ok (.iload_n 1, 1) := by decide +kernel
theorem dX9_fromFirst_6 : decode cX9_fromFirst 6 = .ok (.iaload, 1) := by decide +kernel
theorem dX9_fromFirst_7 : decode cX9_fromFirst 7 = .ok (.putfield 110, 3) := by decide +kernel
theorem dX9_fromFirst_10 : decode cX9_fromFirst 10 = .ok (.iconst 0, 1) := by decide +kernel
theorem dX9_fromFirst_11 : decode cX9_fromFirst 11 = .ok (.istore_n 2, 1) := by decide +kernel
theorem dX9_fromFirst_12 : decode cX9_fromFirst 12 = .ok (.iload_n 2, 1) := by decide +kernel
theorem dX9_fromFirst_13 : decode cX9_fromFirst 13 = .ok (.aload_n 0, 1) := by decide +kernel
theorem dX9_fromFirst_14 : decode cX9_fromFirst 14 = .ok (.getfield 110, 3) := by decide +kernel
theorem dX9_fromFirst_17 : decode cX9_fromFirst 17 = .ok (.if_icmp .ge 26, 3) := by decide +kernel
theorem dX9_fromFirst_20 : decode cX9_fromFirst 20 = .ok (.aload_n 0, 1) := by decide +kernel
theorem dX9_fromFirst_21 : decode cX9_fromFirst 21 = .ok (.getfield 25, 3) := by decide +kernel
theorem dX9_fromFirst_24 : decode cX9_fromFirst 24 = .ok (.iload_n 2, 1) := by decide +kernel
theorem dX9_fromFirst_25 : decode cX9_fromFirst 25 = .ok (.aload_n 0, 1) := by decide +kernel
theorem dX9_fromFirst_26 : decode cX9_fromFirst 26 = .ok (.getfield 75, 3) := by decide +kernel
theorem dX9_fromFirst_29 : decode cX9_fromFirst 29 = .ok (.bipush 24, 2) := by decide +kernel
theorem dX9_fromFirst_31 : decode cX9_fromFirst 31 = .ok (.iload_n 1, 1) := by decide +kernel
theorem dX9_fromFirst_32 : decode cX9_fromFirst 32 = .ok (.imul, 1) := by decide +kernel
theorem dX9_fromFirst_33 : decode cX9_fromFirst 33 = .ok (.iload_n 2, 1) := by decide +kernel
theorem dX9_fromFirst_34 : decode cX9_fromFirst 34 = .ok (.iadd, 1) := by decide +kernel
theorem dX9_fromFirst_35 : decode cX9_fromFirst 35 = .ok (.iaload, 1) := by decide +kernel
theorem dX9_fromFirst_36 : decode cX9_fromFirst 36 = .ok (.iastore, 1) := by decide +kernel
theorem dX9_fromFirst_37 : decode cX9_fromFirst 37 = .ok (.iinc 2 1, 3) := by decide +kernel
theorem dX9_fromFirst_40 : decode cX9_fromFirst 40 = .ok (.goto (-28), 3) := by decide +kernel
theorem dX9_fromFirst_43 : decode cX9_fromFirst 43 = .ok (.return_, 1) := by decide +kernel
theorem dX9_pool_0 : decode cX9_pool 0 = .ok (.iload_n 1, 1) := by decide +kernel
theorem dX9_pool_1 : decode cX9_pool 1 = .ok (.iconst 0, 1) := by decide +kernel
theorem dX9_pool_2 : decode cX9_pool 2 = .ok (.iconst 1, 1) := by decide +kernel
theorem dX9_pool_3 : decode cX9_pool 3 = .ok (.invokestatic 87, 3) := by decide +kernel
theorem dX9_pool_6 : decode cX9_pool 6 = .ok (.ifCond .eq 19, 3) := by decide +kernel
theorem dX9_pool_9 : decode cX9_pool 9 = .ok (.iload_n 2, 1) := by decide +kernel
theorem dX9_pool_10 : decode cX9_pool 10 = .ok (.iconst 0, 1) := by decide +kernel
theorem dX9_pool_11 : decode cX9_pool 11 = .ok (.aload_n 0, 1) := by decide +kernel
theorem dX9_pool_12 : decode cX9_pool 12 = .ok (.getfield 59, 3) := by decide +kernel
theorem dX9_pool_15 : decode cX9_pool 15 = .ok (.iload_n 1, 1) := by decide +kernel
theorem dX9_pool_16 : decode cX9_pool 16 = .ok (.iaload, 1) := by decide +kernel
theorem dX9_pool_17 : decode cX9_pool 17 = .ok (.iconst 1, 1) := by decide +kernel
theorem dX9_pool_18 : decode cX9_pool 18 = .ok (.isub, 1) := by decide +kernel
theorem dX9_pool_19 : decode cX9_pool 19 = .ok (.invokestatic 87, 3) := by decide +kernel
theorem dX9_pool_22 : decode cX9_pool 22 = .ok (.ifCond .ne 5, 3) := by decide +kernel
theorem dX9_pool_25 : decode cX9_pool 25 = .ok (.iconst (-1), 1) := by decide +kernel
theorem dX9_pool_26 : decode cX9_pool 26 = .ok (.ireturn, 1) := by decide +kernel
theorem dX9_pool_27 : decode cX9_pool 27 = .ok (.aload_n 0, 1) := by decide +kernel
theorem dX9_pool_28 : decode cX9_pool 28 = .ok (.bipush 40, 2) := by decide +kernel
theorem dX9_pool_30 : decode cX9_pool 30 = .ok (.iload_n 1, 1) := by decide +kernel
theorem dX9_pool_31 : decode cX9_pool 31 = .ok (.imul, 1) := by decide +kernel
theorem dX9_pool_32 : decode cX9_pool 32 = .ok (.iload_n 2, 1) := by decide +kernel
theorem dX9_pool_33 : decode cX9_pool 33 = .ok (.iadd, 1) := by decide +kernel
theorem dX9_pool_34 : decode cX9_pool 34 = .ok (.invokevirtual 190, 3) := by decide +kernel
theorem dX9_pool_37 : decode cX9_pool 37 = .ok (.aload_n 0, 1) := by decide +kernel
theorem dX9_pool_38 : decode cX9_pool 38 = .ok (.invokevirtual 124, 3) := by decide +kernel
theorem dX9_pool_41 : decode cX9_pool 41 = .ok (.ireturn, 1) := by decide +kernel
theorem dX9_isFault_0 : decode cX9_isFault 0 = .ok (.iload_n 1, 1) := by decide +kernel
theorem dX9_isFault_1 : decode cX9_isFault 1 = .ok (.iconst 0, 1) := by decide +kernel
theorem dX9_isFault_2 : decode cX9_isFault 2 = .ok (.iconst 1, 1) := by decide +kernel
theorem dX9_isFault_3 : decode cX9_isFault 3 = .ok (.invokestatic 87, 3) := by decide +kernel
theorem dX9_isFault_6 : decode cX9_isFault 6 = .ok (.ifCond .eq 23, 3) := by decide +kernel
theorem dX9_isFault_9 : decode cX9_isFault 9 = .ok (.iload_n 2, 1) := by decide +kernel
theorem dX9_isFault_10 : decode cX9_isFault 10 = .ok (.iconst 0, 1) := by decide +kernel
theorem dX9_isFault_11 : decode cX9_isFault 11 = .ok (.aload_n 0, 1) := by decide +kernel
theorem dX9_isFault_12 : decode cX9_isFault 12 = .ok (.getfield 69, 3) := by decide +kernel
theorem dX9_isFault_15 : decode cX9_isFault 15 = .ok (.iload_n 1, 1) := by decide +kernel
theorem dX9_isFault_16 : decode cX9_isFault 16 = .ok (.iaload, 1) := by decide +kernel
theorem dX9_isFault_17 : decode cX9_isFault 17 = .ok (.iconst 1, 1) := by decide +kernel
theorem dX9_isFault_18 : decode cX9_isFault 18 = .ok (.isub, 1) := by decide +kernel
theorem dX9_isFault_19 : decode cX9_isFault 19 = .ok (.invokestatic 87, 3) := by decide +kernel
theorem dX9_isFault_22 : decode cX9_isFault 22 = .ok (.ifCond .eq 7, 3) := by decide +kernel
theorem dX9_isFault_25 : decode cX9_isFault 25 = .ok (.iconst 1, 1) := by decide +kernel
theorem dX9_isFault_26 : decode cX9_isFault 26 = .ok (.goto 4, 3) := by decide +kernel
theorem dX9_isFault_29 : decode cX9_isFault 29 = .ok (.iconst 0, 1) := by decide +kernel
theorem dX9_isFault_30 : decode cX9_isFault 30 = .ok (.ireturn, 1) := by decide +kernel
theorem dX9_fault_0 : decode cX9_fault 0 = .ok (.aload_n 0, 1) := by decide +kernel
theorem dX9_fault_1 : decode cX9_fault 1 = .ok (.iload_n 1, 1) := by decide +kernel
theorem dX9_fault_2 : decode cX9_fault 2 = .ok (.iload_n 2, 1) := by decide +kernel
theorem dX9_fault_3 : decode cX9_fault 3 = .ok (.invokevirtual 194, 3) := by decide +kernel
theorem dX9_fault_6 : decode cX9_fault 6 = .ok (.ifCond .eq 12, 3) := by decide +kernel
theorem dX9_fault_9 : decode cX9_fault 9 = .ok (.iload_n 3, 1) := by decide +kernel
theorem dX9_fault_10 : decode cX9_fault 10 = .ok (.iconst 0, 1) := by decide +kernel
theorem dX9_fault_11 : decode cX9_fault 11 = .ok (.iconst 4, 1) := by decide +kernel
theorem dX9_fault_12 : decode cX9_fault 12 = .ok (.invokestatic 87, 3) := by decide +kernel
theorem dX9_fault_15 : decode cX9_fault 15 = .ok (.ifCond .ne 5, 3) := by decide +kernel
theorem dX9_fault_18 : decode cX9_fault 18 = .ok (.iconst (-1), 1) := by decide +kernel
theorem dX9_fault_19 : decode cX9_fault 19 = .ok (.ireturn, 1) := by decide +kernel
theorem dX9_fault_20 : decode cX9_fault 20 = .ok (.aload_n 0, 1) := by decide +kernel
theorem dX9_fault_21 : decode cX9_fault 21 = .ok (.getfield 72, 3) := by decide +kernel
theorem dX9_fault_24 : decode cX9_fault 24 = .ok (.iconst 5, 1) := by decide +kernel
theorem dX9_fault_25 : decode cX9_fault 25 = .ok (.bipush 20, 2) := by decide +kernel
theorem dX9_fault_27 : decode cX9_fault 27 = .ok (.iload_n 1, 1) := by decide +kernel
theorem dX9_fault_28 : decode cX9_fault 28 = .ok (.imul, 1) := by decide +kernel
theorem dX9_fault_29 : decode cX9_fault 29 = .ok (.iload_n 2, 1) := by decide +kernel
theorem dX9_fault_30 : decode cX9_fault 30 = .ok (.iadd, 1) := by decide +kernel
theorem dX9_fault_31 : decode cX9_fault 31 = .ok (.imul, 1) := by decide +kernel
theorem dX9_fault_32 : decode cX9_fault 32 = .ok (.iload_n 3, 1) := by decide +kernel
theorem dX9_fault_33 : decode cX9_fault 33 = .ok (.iadd, 1) := by decide +kernel
theorem dX9_fault_34 : decode cX9_fault 34 = .ok (.iaload, 1) := by decide +kernel
theorem dX9_fault_35 : decode cX9_fault 35 = .ok (.ireturn, 1) := by decide +kernel
theorem dX9_first_0 : decode cX9_first 0 = .ok (.aload_n 0, 1) := by decide +kernel
theorem dX9_first_1 : decode cX9_first 1 = .ok (.iload_n 1, 1) := by decide +kernel
theorem dX9_first_2 : decode cX9_first 2 = .ok (.iload_n 2, 1) := by decide +kernel
theorem dX9_first_3 : decode cX9_first 3 = .ok (.invokevirtual 194, 3) := by decide +kernel
theorem dX9_first_6 : decode cX9_first 6 = .ok (.ifCond .ne 5, 3) := by decide +kernel
theorem dX9_first_9 : decode cX9_first 9 = .ok (.iconst (-1), 1) := by decide +kernel
theorem dX9_first_10 : decode cX9_first 10 = .ok (.ireturn, 1) := by decide +kernel
theorem dX9_first_11 : decode cX9_first 11 = .ok (.aload_n 0, 1) := by decide +kernel
theorem dX9_first_12 : decode cX9_first 12 = .ok (.bipush 20, 2) := by decide +kernel
theorem dX9_first_14 : decode cX9_first 14 = .ok (.iload_n 1, 1) := by decide +kernel
theorem dX9_first_15 : decode cX9_first 15 = .ok (.imul, 1) := by decide +kernel
theorem dX9_first_16 : decode cX9_first 16 = .ok (.iload_n 2, 1) := by decide +kernel
theorem dX9_first_17 : decode cX9_first 17 = .ok (.iadd, 1) := by decide +kernel
theorem dX9_first_18 : decode cX9_first 18 = .ok (.invokevirtual 197, 3) := by decide +kernel
theorem dX9_first_21 : decode cX9_first 21 = .ok (.aload_n 0, 1) := by decide +kernel
theorem dX9_first_22 : decode cX9_first 22 = .ok (.invokevirtual 124, 3) := by decide +kernel
theorem dX9_first_25 : decode cX9_first 25 = .ok (.ireturn, 1) := by decide +kernel
theorem dX9_toBest_0 : decode cX9_toBest 0 = .ok (.aload_n 0, 1) := by decide +kernel
theorem dX9_toBest_1 : decode cX9_toBest 1 = .ok (.aload_n 0, 1) := by decide +kernel
theorem dX9_toBest_2 : decode cX9_toBest 2 = .ok (.getfield 110, 3) := by decide +kernel
theorem dX9_toBest_5 : decode cX9_toBest 5 = .ok (.putfield 200, 3) := by decide +kernel
theorem dX9_toBest_8 : decode cX9_toBest 8 = .ok (.iconst 0, 1) := by decide +kernel
theorem dX9_toBest_9 : decode cX9_toBest 9 = .ok (.istore_n 1, 1) := by decide +kernel
theorem dX9_toBest_10 : decode cX9_toBest 10 = .ok (.iload_n 1, 1) := by decide +kernel
theorem dX9_toBest_11 : decode cX9_toBest 11 = .ok (.aload_n 0, 1) := by decide +kernel
theorem dX9_toBest_12 : decode cX9_toBest 12 = .ok (.getfield 110, 3) := by decide +kernel
theorem dX9_toBest_15 : decode cX9_toBest 15 = .ok (.if_icmp .ge 21, 3) := by decide +kernel
theorem dX9_toBest_18 : decode cX9_toBest 18 = .ok (.aload_n 0, 1) := by decide +kernel
theorem dX9_toBest_19 : decode cX9_toBest 19 = .ok (.getfield 81, 3) := by decide +kernel
theorem dX9_toBest_22 : decode cX9_toBest 22 = .ok (.iload_n 1, 1) := by decide +kernel
theorem dX9_toBest_23 : decode cX9_toBest 23 = .ok (.aload_n 0, 1) := by decide +kernel
theorem dX9_toBest_24 : decode cX9_toBest 24 = .ok (.getfield 25, 3) := by decide +kernel
theorem dX9_toBest_27 : decode cX9_toBest 27 = .ok (.iload_n 1, 1) := by decide +kernel
theorem dX9_toBest_28 : decode cX9_toBest 28 = .ok (.iaload, 1) := by decide +kernel
theorem dX9_toBest_29 : decode cX9_toBest 29 = .ok (.iastore, 1) := by decide +kernel
theorem dX9_toBest_30 : decode cX9_toBest 30 = .ok (.iinc 1 1, 3) := by decide +kernel
theorem dX9_toBest_33 : decode cX9_toBest 33 = .ok (.goto (-23), 3) := by decide +kernel
theorem dX9_toBest_36 : decode cX9_toBest 36 = .ok (.return_, 1) := by decide +kernel
theorem dX9_fromBest_0 : decode cX9_fromBest 0 = .ok (.aload_n 0, 1) := by decide +kernel
theorem dX9_fromBest_1 : decode cX9_fromBest 1 = .ok (.aload_n 0, 1) := by decide +kernel
theorem dX9_fromBest_2 : decode cX9_fromBest 2 = .ok (.getfield 200, 3) := by decide +kernel
theorem dX9_fromBest_5 : decode cX9_fromBest 5 = .ok (.putfield 110, 3) := by decide +kernel
theorem dX9_fromBest_8 : decode cX9_fromBest 8 = .ok (.iconst 0, 1) := by decide +kernel
theorem dX9_fromBest_9 : decode cX9_fromBest 9 = .ok (.istore_n 1, 1) := by decide +kernel
theorem dX9_fromBest_10 : decode cX9_fromBest 10 = .ok (.iload_n 1, 1) := by decide +kernel
theorem dX9_fromBest_11 : decode cX9_fromBest 11 = .ok (.aload_n 0, 1) := by decide +kernel
theorem dX9_fromBest_12 : decode cX9_fromBest 12 = .ok (.getfield 110, 3) := by decide +kernel
theorem dX9_fromBest_15 : decode cX9_fromBest 15 = .ok (.if_icmp .ge 21, 3) := by decide +kernel
theorem dX9_fromBest_18 : decode cX9_fromBest 18 = .ok (.aload_n 0, 1) := by decide +kernel
theorem dX9_fromBest_19 : decode cX9_fromBest 19 = .ok (.getfield 25, 3) := by decide +kernel
theorem dX9_fromBest_22 : decode cX9_fromBest 22 = .ok (.iload_n 1, 1) := by decide +kernel
theorem dX9_fromBest_23 : decode cX9_fromBest 23 = .ok (.aload_n 0, 1) := by decide +kernel
theorem dX9_fromBest_24 : decode cX9_fromBest 24 = .ok (.getfield 81, 3) := by decide +kernel
theorem dX9_fromBest_27 : decode cX9_fromBest 27 = .ok (.iload_n 1, 1) := by decide +kernel
theorem dX9_fromBest_28 : decode cX9_fromBest 28 = .ok (.iaload, 1) := by decide +kernel
theorem dX9_fromBest_29 : decode cX9_fromBest 29 = .ok (.iastore, 1) := by decide +kernel
theorem dX9_fromBest_30 : decode cX9_fromBest 30 = .ok (.iinc 1 1, 3) := by decide +kernel
theorem dX9_fromBest_33 : decode cX9_fromBest 33 = .ok (.goto (-23), 3) := by decide +kernel
theorem dX9_fromBest_36 : decode cX9_fromBest 36 = .ok (.return_, 1) := by decide +kernel
theorem dX9_holds_0 : decode cX9_holds 0 = .ok (.aload_n 0, 1) := by decide +kernel
theorem dX9_holds_1 : decode cX9_holds 1 = .ok (.invokevirtual 173, 3) := by decide +kernel
theorem dX9_holds_4 : decode cX9_holds 4 = .ok (.aload_n 0, 1) := by decide +kernel
theorem dX9_holds_5 : decode cX9_holds 5 = .ok (.dup, 1) := by decide +kernel
theorem dX9_holds_6 : decode cX9_holds 6 = .ok (.getfield 203, 3) := by decide +kernel
theorem dX9_holds_9 : decode cX9_holds 9 = .ok (.iconst 1, 1) := by decide +kernel
theorem dX9_holds_10 : decode cX9_holds 10 = .ok (.iadd, 1) := by decide +kernel
theorem dX9_holds_11 : decode cX9_holds 11 = .ok (.putfield 203, 3) := by decide +kernel
theorem dX9_holds_14 : decode cX9_holds 14 = .ok (.aload_n 0, 1) := by decide +kernel
theorem dX9_holds_15 : decode cX9_holds 15 = .ok (.iload_n 1, 1) := by decide +kernel
theorem dX9_holds_16 : decode cX9_holds 16 = .ok (.invokevirtual 184, 3) := by decide +kernel
theorem dX9_holds_19 : decode cX9_holds 19 = .ok (.ifCond .ne 5, 3) := by decide +kernel
theorem dX9_holds_22 : decode cX9_holds 22 = .ok (.iconst 0, 1) := by decide +kernel
theorem dX9_holds_23 : decode cX9_holds 23 = .ok (.ireturn, 1) := by decide +kernel
theorem dX9_holds_24 : decode cX9_holds 24 = .ok (.aload_n 0, 1) := by decide +kernel
theorem dX9_holds_25 : decode cX9_holds 25 = .ok (.invokevirtual 206, 3) := by decide +kernel
theorem dX9_holds_28 : decode cX9_holds 28 = .ok (.iconst 1, 1) := by decide +kernel
theorem dX9_holds_29 : decode cX9_holds 29 = .ok (.ireturn, 1) := by decide +kernel
theorem dX9_leavesOut_0 : decode cX9_leavesOut 0 = .ok (.iconst 0, 1) := by decide +kernel
theorem dX9_leavesOut_1 : decode cX9_leavesOut 1 = .ok (.istore_n 2, 1) := by decide +kernel
theorem dX9_leavesOut_2 : decode cX9_leavesOut 2 = .ok (.aload_n 0, 1) := by decide +kernel
theorem dX9_leavesOut_3 : decode cX9_leavesOut 3 = .ok (.getfield 200, 3) := by decide +kernel
theorem dX9_leavesOut_6 : decode cX9_leavesOut 6 = .ok (.iconst 1, 1) := by decide +kernel
theorem dX9_leavesOut_7 : decode cX9_leavesOut 7 = .ok (.iadd, 1) := by decide +kernel
theorem dX9_leavesOut_8 : decode cX9_leavesOut 8 = .ok (.iconst 2, 1) := by decide +kernel
theorem dX9_leavesOut_9 : decode cX9_leavesOut 9 = .ok (.idiv, 1) := by decide +kernel
theorem dX9_leavesOut_10 : decode cX9_leavesOut 10 = .ok (.istore_n 3, 1) := by decide +kernel
theorem dX9_leavesOut_11 : decode cX9_leavesOut 11 = .ok (.iload_n 3, 1) := by decide +kernel
theorem dX9_leavesOut_12 : decode cX9_leavesOut 12 = .ok (.ifCond .le 76, 3) := by decide +kernel
theorem dX9_leavesOut_15 : decode cX9_leavesOut 15 = .ok (.iconst 0, 1) := by decide +kernel
theorem dX9_leavesOut_16 : decode cX9_leavesOut 16 = .ok (.istore 4, 2) := by decide +kernel
theorem dX9_leavesOut_18 : decode cX9_leavesOut 18 = .ok (.iload 4, 2) := by decide +kernel
theorem dX9_leavesOut_20 : decode cX9_leavesOut 20 = .ok (.aload_n 0, 1) := by decide +kernel
theorem dX9_leavesOut_21 : decode cX9_leavesOut 21 = .ok (.getfield 200, 3) := by decide +kernel
theorem dX9_leavesOut_24 : decode cX9_leavesOut 24 = .ok (.if_icmp .ge 57, 3) := by decide +kernel
theorem dX9_leavesOut_27 : decode cX9_leavesOut 27 = .ok (.aload_n 0, 1) := by decide +kernel
theorem dX9_leavesOut_28 : decode cX9_leavesOut 28 = .ok (.invokevirtual 209, 3) := by decide +kernel
theorem dX9_leavesOut_31 : decode cX9_leavesOut 31 = .ok (.aload_n 0, 1) := by decide +kernel
theorem dX9_leavesOut_32 : decode cX9_leavesOut 32 = .ok (.iload 4, 2) := by decide +kernel
theorem dX9_leavesOut_34 : decode cX9_leavesOut 34 = .ok (.iload 4, 2) := by decide +kernel
theorem dX9_leavesOut_36 : decode cX9_leavesOut 36 = .ok (.iload_n 3, 1) := by decide +kernel
theorem dX9_leavesOut_37 : decode cX9_leavesOut 37 = .ok (.iadd, 1) := by decide +kernel
theorem dX9_leavesOut_38 : decode cX9_leavesOut 38 = .ok (.aload_n 0, 1) := by decide +kernel
theorem dX9_leavesOut_39 : decode cX9_leavesOut 39 = .ok (.getfield 110, 3) := by decide +kernel
theorem dX9_leavesOut_42 : decode cX9_leavesOut 42 = .ok (.if_icmp .le 13, 3) := by decide +kernel
theorem dX9_leavesOut_45 : decode cX9_leavesOut 45 = .ok (.aload_n 0, 1) := by decide +kernel
theorem dX9_leavesOut_46 : decode cX9_leavesOut 46 = .ok (.getfield 110, 3) := by decide +kernel
theorem dX9_leavesOut_49 : decode cX9_leavesOut 49 = .ok (.iload 4, 2) := by decide +kernel
theorem dX9_leavesOut_51 : decode cX9_leavesOut 51 = .ok (.isub, 1) := by decide +kernel
theorem dX9_leavesOut_52 : decode cX9_leavesOut 52 = .ok (.goto 4, 3) := by decide +kernel
theorem dX9_leavesOut_55 : decode cX9_leavesOut 55 = .ok (.iload_n 3, 1) := by decide +kernel
theorem dX9_leavesOut_56 : decode cX9_leavesOut 56 = .ok (.invokevirtual 117, 3) := by decide +kernel
theorem dX9_leavesOut_59 : decode cX9_leavesOut 59 = .ok (.aload_n 0, 1) := by decide +kernel
theorem dX9_leavesOut_60 : decode cX9_leavesOut 60 = .ok (.iload_n 1, 1) := by decide +kernel
theorem dX9_leavesOut_61 : decode cX9_leavesOut 61 = .ok (.invokevirtual 212, 3) := by decide +kernel
theorem dX9_leavesOut_64 : decode cX9_leavesOut 64 = .ok (.ifCond .eq 8, 3) := by decide +kernel
theorem dX9_leavesOut_67 : decode cX9_leavesOut 67 = .ok (.iconst 1, 1) := by decide +kernel
theorem dX9_leavesOut_68 : decode cX9_leavesOut 68 = .ok (.istore_n 2, 1) := by decide +kernel
theorem dX9_leavesOut_69 : decode cX9_leavesOut 69 = .ok (.goto (-51), 3) := by decide +kernel
theorem dX9_leavesOut_72 : decode cX9_leavesOut 72 = .ok (.iload 4, 2) := by decide +kernel
theorem dX9_leavesOut_74 : decode cX9_leavesOut 74 = .ok (.iload_n 3, 1) := by decide +kernel
theorem dX9_leavesOut_75 : decode cX9_leavesOut 75 = .ok (.iadd, 1) := by decide +kernel
theorem dX9_leavesOut_76 : decode cX9_leavesOut 76 = .ok (.istore 4, 2) := by decide +kernel
theorem dX9_leavesOut_78 : decode cX9_leavesOut 78 = .ok (.goto (-60), 3) := by decide +kernel
theorem dX9_leavesOut_81 : decode cX9_leavesOut 81 = .ok (.iload_n 3, 1) := by decide +kernel
theorem dX9_leavesOut_82 : decode cX9_leavesOut 82 = .ok (.iconst 2, 1) := by decide +kernel
theorem dX9_leavesOut_83 : decode cX9_leavesOut 83 = .ok (.idiv, 1) := by decide +kernel
theorem dX9_leavesOut_84 : decode cX9_leavesOut 84 = .ok (.istore_n 3, 1) := by decide +kernel
theorem dX9_leavesOut_85 : decode cX9_leavesOut 85 = .ok (.goto (-74), 3) := by decide +kernel
theorem dX9_leavesOut_88 : decode cX9_leavesOut 88 = .ok (.iload_n 2, 1) := by decide +kernel
theorem dX9_leavesOut_89 : decode cX9_leavesOut 89 = .ok (.ireturn, 1) := by decide +kernel
theorem dX9_lessens_0 : decode cX9_lessens 0 = .ok (.iconst 0, 1) := by decide +kernel
theorem dX9_lessens_1 : decode cX9_lessens 1 = .ok (.istore_n 2, 1) := by decide +kernel
theorem dX9_lessens_2 : decode cX9_lessens 2 = .ok (.iconst 0, 1) := by decide +kernel
theorem dX9_lessens_3 : decode cX9_lessens 3 = .ok (.istore_n 3, 1) := by decide +kernel
theorem dX9_lessens_4 : decode cX9_lessens 4 = .ok (.iload_n 3, 1) := by decide +kernel
theorem dX9_lessens_5 : decode cX9_lessens 5 = .ok (.aload_n 0, 1) := by decide +kernel
theorem dX9_lessens_6 : decode cX9_lessens 6 = .ok (.getfield 200, 3) := by decide +kernel
theorem dX9_lessens_9 : decode cX9_lessens 9 = .ok (.if_icmp .ge 132, 3) := by decide +kernel
theorem dX9_lessens_12 : decode cX9_lessens 12 = .ok (.iconst 1, 1) := by decide +kernel
theorem dX9_lessens_13 : decode cX9_lessens 13 = .ok (.istore 4, 2) := by decide +kernel
theorem dX9_lessens_15 : decode cX9_lessens 15 = .ok (.iload 4, 2) := by decide +kernel
theorem dX9_lessens_17 : decode cX9_lessens 17 = .ok (.ifCond .eq 118, 3) := by decide +kernel
theorem dX9_lessens_20 : decode cX9_lessens 20 = .ok (.iconst 0, 1) := by decide +kernel
theorem dX9_lessens_21 : decode cX9_lessens 21 = .ok (.istore 4, 2) := by decide +kernel
theorem dX9_lessens_23 : decode cX9_lessens 23 = .ok (.iconst 0, 1) := by decide +kernel
theorem dX9_lessens_24 : decode cX9_lessens 24 = .ok (.istore 5, 2) := by decide +kernel
theorem dX9_lessens_26 : decode cX9_lessens 26 = .ok (.iload 5, 2) := by decide +kernel
theorem dX9_lessens_28 : decode cX9_lessens 28 = .ok (.iconst 3, 1) := by decide +kernel
theorem dX9_lessens_29 : decode cX9_lessens 29 = .ok (.if_icmp .ge 88, 3) := by decide +kernel
theorem dX9_lessens_32 : decode cX9_lessens 32 = .ok (.iload 4, 2) := by decide +kernel
theorem dX9_lessens_34 : decode cX9_lessens 34 = .ok (.ifCond .ne 83, 3) := by decide +kernel
theorem dX9_lessens_37 : decode cX9_lessens 37 = .ok (.iload 5, 2) := by decide +kernel
theorem dX9_lessens_39 : decode cX9_lessens 39 = .ok (.ifCond .ne 7, 3) := by decide +kernel
theorem dX9_lessens_42 : decode cX9_lessens 42 = .ok (.iconst 0, 1) := by decide +kernel
theorem dX9_lessens_43 : decode cX9_lessens 43 = .ok (.goto 28, 3) := by decide +kernel
theorem dX9_lessens_46 : decode cX9_lessens 46 = .ok (.iload 5, 2) := by decide +kernel
theorem dX9_lessens_48 : decode cX9_lessens 48 = .ok (.iconst 1, 1) := by decide +kernel
theorem dX9_lessens_49 : decode cX9_lessens 49 = .ok (.if_icmp .ne 14, 3) := by decide +kernel
theorem dX9_lessens_52 : decode cX9_lessens 52 = .ok (.aload_n 0, 1) := by decide +kernel
theorem dX9_lessens_53 : decode cX9_lessens 53 = .ok (.getfield 81, 3) := by decide +kernel
theorem dX9_lessens_56 : decode cX9_lessens 56 = .ok (.iload_n 3, 1) := by decide +kernel
theorem dX9_lessens_57 : decode cX9_lessens 57 = .ok (.iaload, 1) := by decide +kernel
theorem dX9_lessens_58 : decode cX9_lessens 58 = .ok (.iconst 2, 1) := by decide +kernel
theorem dX9_lessens_59 : decode cX9_lessens 59 = .ok (.idiv, 1) := by decide +kernel
theorem dX9_lessens_60 : decode cX9_lessens 60 = .ok (.goto 11, 3) := by decide +kernel
theorem dX9_lessens_63 : decode cX9_lessens 63 = .ok (.aload_n 0, 1) := by decide +kernel
theorem dX9_lessens_64 : decode cX9_lessens 64 = .ok (.getfield 81, 3) := by decide +kernel
theorem dX9_lessens_67 : decode cX9_lessens 67 = .ok (.iload_n 3, 1) := by decide +kernel
theorem dX9_lessens_68 : decode cX9_lessens 68 = .ok (.iaload, 1) := by decide +kernel
theorem dX9_lessens_69 : decode cX9_lessens 69 = .ok (.iconst 1, 1) := by decide +kernel
theorem dX9_lessens_70 : decode cX9_lessens 70 = .ok (.isub, 1) := by decide +kernel
theorem dX9_lessens_71 : decode cX9_lessens 71 = .ok (.istore 6, 2) := by decide +kernel
theorem dX9_lessens_73 : decode cX9_lessens 73 = .ok (.iload 6, 2) := by decide +kernel
theorem dX9_lessens_75 : decode cX9_lessens 75 = .ok (.ifCond .lt 36, 3) := by decide +kernel
theorem dX9_lessens_78 : decode cX9_lessens 78 = .ok (.iload 6, 2) := by decide +kernel
theorem dX9_lessens_80 : decode cX9_lessens 80 = .ok (.aload_n 0, 1) := by decide +kernel
theorem dX9_lessens_81 : decode cX9_lessens 81 = .ok (.getfield 81, 3) := by decide +kernel
theorem dX9_lessens_84 : decode cX9_lessens 84 = .ok (.iload_n 3, 1) := by decide +kernel
theorem dX9_lessens_85 : decode cX9_lessens 85 = .ok (.iaload, 1) := by decide +kernel
theorem dX9_lessens_86 : decode cX9_lessens 86 = .ok (.if_icmp .lt 6, 3) := by decide +kernel
theorem dX9_lessens_89 : decode cX9_lessens 89 = .ok (.goto 22, 3) := by decide +kernel
theorem dX9_lessens_92 : decode cX9_lessens 92 = .ok (.aload_n 0, 1) := by decide +kernel
theorem dX9_lessens_93 : decode cX9_lessens 93 = .ok (.invokevirtual 209, 3) := by decide +kernel
theorem dX9_lessens_96 : decode cX9_lessens 96 = .ok (.aload_n 0, 1) := by decide +kernel
theorem dX9_lessens_97 : decode cX9_lessens 97 = .ok (.getfield 25, 3) := by decide +kernel
theorem dX9_lessens_100 : decode cX9_lessens 100 = .ok (.iload_n 3, 1) := by decide +kernel
theorem dX9_lessens_101 : decode cX9_lessens 101 = .ok (.iload 6, 2) := by decide +kernel
theorem dX9_lessens_103 : decode cX9_lessens 103 = .ok (.iastore, 1) := by decide +kernel
theorem dX9_lessens_104 : decode cX9_lessens 104 = .ok (.aload_n 0, 1) := by decide +kernel
theorem dX9_lessens_105 : decode cX9_lessens 105 = .ok (.iload_n 1, 1) := by decide +kernel
theorem dX9_lessens_106 : decode cX9_lessens 106 = .ok (.invokevirtual 212, 3) := by decide +kernel
theorem dX9_lessens_109 : decode cX9_lessens 109 = .ok (.istore 4, 2) := by decide +kernel
theorem dX9_lessens_111 : decode cX9_lessens 111 = .ok (.iinc 5 1, 3) := by decide +kernel
theorem dX9_lessens_114 : decode cX9_lessens 114 = .ok (.goto (-88), 3) := by decide +kernel
theorem dX9_lessens_117 : decode cX9_lessens 117 = .ok (.iload_n 2, 1) := by decide +kernel
theorem dX9_lessens_118 : decode cX9_lessens 118 = .ok (.ifCond .ne 8, 3) := by decide +kernel
theorem dX9_lessens_121 : decode cX9_lessens 121 = .ok (.iload 4, 2) := by decide +kernel
theorem dX9_lessens_123 : decode cX9_lessens 123 = .ok (.ifCond .eq 7, 3) := by decide +kernel
theorem dX9_lessens_126 : decode cX9_lessens 126 = .ok (.iconst 1, 1) := by decide +kernel
theorem dX9_lessens_127 : decode cX9_lessens 127 = .ok (.goto 4, 3) := by decide +kernel
theorem dX9_lessens_130 : decode cX9_lessens 130 = .ok (.iconst 0, 1) := by decide +kernel
theorem dX9_lessens_131 : decode cX9_lessens 131 = .ok (.istore_n 2, 1) := by decide +kernel
theorem dX9_lessens_132 : decode cX9_lessens 132 = .ok (.goto (-117), 3) := by decide +kernel
theorem dX9_lessens_135 : decode cX9_lessens 135 = .ok (.iinc 3 1, 3) := by decide +kernel
theorem dX9_lessens_138 : decode cX9_lessens 138 = .ok (.goto (-134), 3) := by decide +kernel
theorem dX9_lessens_141 : decode cX9_lessens 141 = .ok (.iload_n 2, 1) := by decide +kernel
theorem dX9_lessens_142 : decode cX9_lessens 142 = .ok (.ireturn, 1) := by decide +kernel
theorem dX9_cut_0 : decode cX9_cut 0 = .ok (.aload_n 0, 1) := by decide +kernel
theorem dX9_cut_1 : decode cX9_cut 1 = .ok (.iload_n 1, 1) := by decide +kernel
theorem dX9_cut_2 : decode cX9_cut 2 = .ok (.iload_n 2, 1) := by decide +kernel
theorem dX9_cut_3 : decode cX9_cut 3 = .ok (.invokevirtual 194, 3) := by decide +kernel
theorem dX9_cut_6 : decode cX9_cut 6 = .ok (.ifCond .ne 5, 3) := by decide +kernel
theorem dX9_cut_9 : decode cX9_cut 9 = .ok (.iconst (-1), 1) := by decide +kernel
theorem dX9_cut_10 : decode cX9_cut 10 = .ok (.ireturn, 1) := by decide +kernel
theorem dX9_cut_11 : decode cX9_cut 11 = .ok (.bipush 20, 2) := by decide +kernel
theorem dX9_cut_13 : decode cX9_cut 13 = .ok (.iload_n 1, 1) := by decide +kernel
theorem dX9_cut_14 : decode cX9_cut 14 = .ok (.imul, 1) := by decide +kernel
theorem dX9_cut_15 : decode cX9_cut 15 = .ok (.iload_n 2, 1) := by decide +kernel
theorem dX9_cut_16 : decode cX9_cut 16 = .ok (.iadd, 1) := by decide +kernel
theorem dX9_cut_17 : decode cX9_cut 17 = .ok (.istore_n 3, 1) := by decide +kernel
theorem dX9_cut_18 : decode cX9_cut 18 = .ok (.aload_n 0, 1) := by decide +kernel
theorem dX9_cut_19 : decode cX9_cut 19 = .ok (.iconst 0, 1) := by decide +kernel
theorem dX9_cut_20 : decode cX9_cut 20 = .ok (.putfield 203, 3) := by decide +kernel
theorem dX9_cut_23 : decode cX9_cut 23 = .ok (.aload_n 0, 1) := by decide +kernel
theorem dX9_cut_24 : decode cX9_cut 24 = .ok (.iload_n 3, 1) := by decide +kernel
theorem dX9_cut_25 : decode cX9_cut 25 = .ok (.invokevirtual 197, 3) := by decide +kernel
theorem dX9_cut_28 : decode cX9_cut 28 = .ok (.aload_n 0, 1) := by decide +kernel
theorem dX9_cut_29 : decode cX9_cut 29 = .ok (.invokevirtual 206, 3) := by decide +kernel
theorem dX9_cut_32 : decode cX9_cut 32 = .ok (.iconst 1, 1) := by decide +kernel
theorem dX9_cut_33 : decode cX9_cut 33 = .ok (.istore 4, 2) := by decide +kernel
theorem dX9_cut_35 : decode cX9_cut 35 = .ok (.iload 4, 2) := by decide +kernel
theorem dX9_cut_37 : decode cX9_cut 37 = .ok (.ifCond .eq 24, 3) := by decide +kernel
theorem dX9_cut_40 : decode cX9_cut 40 = .ok (.aload_n 0, 1) := by decide +kernel
theorem dX9_cut_41 : decode cX9_cut 41 = .ok (.iload_n 3, 1) := by decide +kernel
theorem dX9_cut_42 : decode cX9_cut 42 = .ok (.invokevirtual 215, 3) := by decide +kernel
theorem dX9_cut_45 : decode cX9_cut 45 = .ok (.istore 4, 2) := by decide +kernel
theorem dX9_cut_47 : decode cX9_cut 47 = .ok (.aload_n 0, 1) := by decide +kernel
theorem dX9_cut_48 : decode cX9_cut 48 = .ok (.iload_n 3, 1) := by decide +kernel
theorem dX9_cut_49 : decode cX9_cut 49 = .ok (.invokevirtual 218, 3) := by decide +kernel
theorem dX9_cut_52 : decode cX9_cut 52 = .ok (.ifCond .eq (-17), 3) := by decide +kernel
theorem dX9_cut_55 : decode cX9_cut 55 = .ok (.iconst 1, 1) := by decide +kernel
theorem dX9_cut_56 : decode cX9_cut 56 = .ok (.istore 4, 2) := by decide +kernel
theorem dX9_cut_58 : decode cX9_cut 58 = .ok (.goto (-23), 3) := by decide +kernel
theorem dX9_cut_61 : decode cX9_cut 61 = .ok (.aload_n 0, 1) := by decide +kernel
theorem dX9_cut_62 : decode cX9_cut 62 = .ok (.invokevirtual 209, 3) := by decide +kernel
theorem dX9_cut_65 : decode cX9_cut 65 = .ok (.aload_n 0, 1) := by decide +kernel
theorem dX9_cut_66 : decode cX9_cut 66 = .ok (.invokevirtual 124, 3) := by decide +kernel
theorem dX9_cut_69 : decode cX9_cut 69 = .ok (.ireturn, 1) := by decide +kernel
theorem dX9_runs_0 : decode cX9_runs 0 = .ok (.aload_n 0, 1) := by decide +kernel
theorem dX9_runs_1 : decode cX9_runs 1 = .ok (.getfield 203, 3) := by decide +kernel
theorem dX9_runs_4 : decode cX9_runs 4 = .ok (.ireturn, 1) := by decide +kernel
theorem dX9_least_0 : decode cX9_least 0 = .ok (.aload_n 0, 1) := by decide +kernel
theorem dX9_least_1 : decode cX9_least 1 = .ok (.iload_n 1, 1) := by decide +kernel
theorem dX9_least_2 : decode cX9_least 2 = .ok (.iload_n 2, 1) := by decide +kernel
theorem dX9_least_3 : decode cX9_least 3 = .ok (.invokevirtual 194, 3) := by decide +kernel
theorem dX9_least_6 : decode cX9_least 6 = .ok (.ifCond .ne 5, 3) := by decide +kernel
theorem dX9_least_9 : decode cX9_least 9 = .ok (.iconst (-1), 1) := by decide +kernel
theorem dX9_least_10 : decode cX9_least 10 = .ok (.ireturn, 1) := by decide +kernel
theorem dX9_least_11 : decode cX9_least 11 = .ok (.iconst (-1), 1) := by decide +kernel
theorem dX9_least_12 : decode cX9_least 12 = .ok (.istore_n 3, 1) := by decide +kernel
theorem dX9_least_13 : decode cX9_least 13 = .ok (.iload_n 3, 1) := by decide +kernel
theorem dX9_least_14 : decode cX9_least 14 = .ok (.sipush 256, 3) := by decide +kernel
theorem dX9_least_17 : decode cX9_least 17 = .ok (.if_icmp .ge 32, 3) := by decide +kernel
theorem dX9_least_20 : decode cX9_least 20 = .ok (.aload_n 0, 1) := by decide +kernel
theorem dX9_least_21 : decode cX9_least 21 = .ok (.iload_n 3, 1) := by decide +kernel
theorem dX9_least_22 : decode cX9_least 22 = .ok (.invokevirtual 221, 3) := by decide +kernel
theorem dX9_least_25 : decode cX9_least 25 = .ok (.aload_n 0, 1) := by decide +kernel
theorem dX9_least_26 : decode cX9_least 26 = .ok (.bipush 20, 2) := by decide +kernel
theorem dX9_least_28 : decode cX9_least 28 = .ok (.iload_n 1, 1) := by decide +kernel
theorem dX9_least_29 : decode cX9_least 29 = .ok (.imul, 1) := by decide +kernel
theorem dX9_least_30 : decode cX9_least 30 = .ok (.iload_n 2, 1) := by decide +kernel
theorem dX9_least_31 : decode cX9_least 31 = .ok (.iadd, 1) := by decide +kernel
theorem dX9_least_32 : decode cX9_least 32 = .ok (.invokevirtual 184, 3) := by decide +kernel
theorem dX9_least_35 : decode cX9_least 35 = .ok (.ifCond .eq 8, 3) := by decide +kernel
theorem dX9_least_38 : decode cX9_least 38 = .ok (.aload_n 0, 1) := by decide +kernel
theorem dX9_least_39 : decode cX9_least 39 = .ok (.invokevirtual 124, 3) := by decide +kernel
theorem dX9_least_42 : decode cX9_least 42 = .ok (.ireturn, 1) := by decide +kernel
theorem dX9_least_43 : decode cX9_least 43 = .ok (.iinc 3 1, 3) := by decide +kernel
theorem dX9_least_46 : decode cX9_least 46 = .ok (.goto (-33), 3) := by decide +kernel
theorem dX9_least_49 : decode cX9_least 49 = .ok (.bipush (-3), 2) := by decide +kernel
theorem dX9_least_51 : decode cX9_least 51 = .ok (.ireturn, 1) := by decide +kernel
theorem dX9_single_0 : decode cX9_single 0 = .ok (.aload_n 0, 1) := by decide +kernel
theorem dX9_single_1 : decode cX9_single 1 = .ok (.iload_n 1, 1) := by decide +kernel
theorem dX9_single_2 : decode cX9_single 2 = .ok (.ifCond .ge 7, 3) := by decide +kernel
theorem dX9_single_5 : decode cX9_single 5 = .ok (.iconst 0, 1) := by decide +kernel
theorem dX9_single_6 : decode cX9_single 6 = .ok (.goto 4, 3) := by decide +kernel
theorem dX9_single_9 : decode cX9_single 9 = .ok (.iconst 1, 1) := by decide +kernel
theorem dX9_single_10 : decode cX9_single 10 = .ok (.putfield 110, 3) := by decide +kernel
theorem dX9_single_13 : decode cX9_single 13 = .ok (.aload_n 0, 1) := by decide +kernel
theorem dX9_single_14 : decode cX9_single 14 = .ok (.getfield 25, 3) := by decide +kernel
theorem dX9_single_17 : decode cX9_single 17 = .ok (.iconst 0, 1) := by decide +kernel
theorem dX9_single_18 : decode cX9_single 18 = .ok (.iload_n 1, 1) := by decide +kernel
theorem dX9_single_19 : decode cX9_single 19 = .ok (.ifCond .ge 7, 3) := by decide +kernel
theorem dX9_single_22 : decode cX9_single 22 = .ok (.iconst 0, 1) := by decide +kernel
theorem dX9_single_23 : decode cX9_single 23 = .ok (.goto 4, 3) := by decide +kernel
theorem dX9_single_26 : decode cX9_single 26 = .ok (.iload_n 1, 1) := by decide +kernel
theorem dX9_single_27 : decode cX9_single 27 = .ok (.iastore, 1) := by decide +kernel
theorem dX9_single_28 : decode cX9_single 28 = .ok (.aload_n 0, 1) := by decide +kernel
theorem dX9_single_29 : decode cX9_single 29 = .ok (.invokevirtual 173, 3) := by decide +kernel
theorem dX9_single_32 : decode cX9_single 32 = .ok (.return_, 1) := by decide +kernel
theorem dX9_unseen_0 : decode cX9_unseen 0 = .ok (.iload_n 1, 1) := by decide +kernel
theorem dX9_unseen_1 : decode cX9_unseen 1 = .ok (.iconst 2, 1) := by decide +kernel
theorem dX9_unseen_2 : decode cX9_unseen 2 = .ok (.idiv, 1) := by decide +kernel
theorem dX9_unseen_3 : decode cX9_unseen 3 = .ok (.istore_n 2, 1) := by decide +kernel
theorem dX9_unseen_4 : decode cX9_unseen 4 = .ok (.iload_n 1, 1) := by decide +kernel
theorem dX9_unseen_5 : decode cX9_unseen 5 = .ok (.ifCond .lt 33, 3) := by decide +kernel
theorem dX9_unseen_8 : decode cX9_unseen 8 = .ok (.iload_n 2, 1) := by decide +kernel
theorem dX9_unseen_9 : decode cX9_unseen 9 = .ok (.aload_n 0, 1) := by decide +kernel
theorem dX9_unseen_10 : decode cX9_unseen 10 = .ok (.getfield 101, 3) := by decide +kernel
theorem dX9_unseen_13 : decode cX9_unseen 13 = .ok (.if_icmp .ge 25, 3) := by decide +kernel
theorem dX9_unseen_16 : decode cX9_unseen 16 = .ok (.aload_n 0, 1) := by decide +kernel
theorem dX9_unseen_17 : decode cX9_unseen 17 = .ok (.getfield 7, 3) := by decide +kernel
theorem dX9_unseen_20 : decode cX9_unseen 20 = .ok (.iload_n 2, 1) := by decide +kernel
theorem dX9_unseen_21 : decode cX9_unseen 21 = .ok (.iaload, 1) := by decide +kernel
theorem dX9_unseen_22 : decode cX9_unseen 22 = .ok (.bipush 11, 2) := by decide +kernel
theorem dX9_unseen_24 : decode cX9_unseen 24 = .ok (.if_icmp .eq 16, 3) := by decide +kernel
theorem dX9_unseen_27 : decode cX9_unseen 27 = .ok (.aload_n 0, 1) := by decide +kernel
theorem dX9_unseen_28 : decode cX9_unseen 28 = .ok (.getfield 7, 3) := by decide +kernel
theorem dX9_unseen_31 : decode cX9_unseen 31 = .ok (.iload_n 2, 1) := by decide +kernel
theorem dX9_unseen_32 : decode cX9_unseen 32 = .ok (.iaload, 1) := by decide +kernel
theorem dX9_unseen_33 : decode cX9_unseen 33 = .ok (.bipush 12, 2) := by decide +kernel
theorem dX9_unseen_35 : decode cX9_unseen 35 = .ok (.if_icmp .eq 5, 3) := by decide +kernel
theorem dX9_unseen_38 : decode cX9_unseen 38 = .ok (.iconst (-1), 1) := by decide +kernel
theorem dX9_unseen_39 : decode cX9_unseen 39 = .ok (.ireturn, 1) := by decide +kernel
theorem dX9_unseen_40 : decode cX9_unseen 40 = .ok (.iconst (-1), 1) := by decide +kernel
theorem dX9_unseen_41 : decode cX9_unseen 41 = .ok (.istore_n 3, 1) := by decide +kernel
theorem dX9_unseen_42 : decode cX9_unseen 42 = .ok (.iload_n 3, 1) := by decide +kernel
theorem dX9_unseen_43 : decode cX9_unseen 43 = .ok (.sipush 256, 3) := by decide +kernel
theorem dX9_unseen_46 : decode cX9_unseen 46 = .ok (.if_icmp .ge 25, 3) := by decide +kernel
theorem dX9_unseen_49 : decode cX9_unseen 49 = .ok (.aload_n 0, 1) := by decide +kernel
theorem dX9_unseen_50 : decode cX9_unseen 50 = .ok (.iload_n 3, 1) := by decide +kernel
theorem dX9_unseen_51 : decode cX9_unseen 51 = .ok (.invokevirtual 221, 3) := by decide +kernel
theorem dX9_unseen_54 : decode cX9_unseen 54 = .ok (.aload_n 0, 1) := by decide +kernel
theorem dX9_unseen_55 : decode cX9_unseen 55 = .ok (.getfield 37, 3) := by decide +kernel
theorem dX9_unseen_58 : decode cX9_unseen 58 = .ok (.iload_n 1, 1) := by decide +kernel
theorem dX9_unseen_59 : decode cX9_unseen 59 = .ok (.iaload, 1) := by decide +kernel
theorem dX9_unseen_60 : decode cX9_unseen 60 = .ok (.ifCond .le 5, 3) := by decide +kernel
theorem dX9_unseen_63 : decode cX9_unseen 63 = .ok (.iconst 0, 1) := by decide +kernel
theorem dX9_unseen_64 : decode cX9_unseen 64 = .ok (.ireturn, 1) := by decide +kernel
theorem dX9_unseen_65 : decode cX9_unseen 65 = .ok (.iinc 3 1, 3) := by decide +kernel
theorem dX9_unseen_68 : decode cX9_unseen 68 = .ok (.goto (-26), 3) := by decide +kernel
theorem dX9_unseen_71 : decode cX9_unseen 71 = .ok (.iconst 1, 1) := by decide +kernel
theorem dX9_unseen_72 : decode cX9_unseen 72 = .ok (.ireturn, 1) := by decide +kernel
theorem dX9_merge_0 : decode cX9_merge 0 = .ok (.iload_n 1, 1) := by decide +kernel
theorem dX9_merge_1 : decode cX9_merge 1 = .ok (.iconst 0, 1) := by decide +kernel
theorem dX9_merge_2 : decode cX9_merge 2 = .ok (.iconst 1, 1) := by decide +kernel
theorem dX9_merge_3 : decode cX9_merge 3 = .ok (.invokestatic 87, 3) := by decide +kernel
theorem dX9_merge_6 : decode cX9_merge 6 = .ok (.ifCond .ne 5, 3) := by decide +kernel
theorem dX9_merge_9 : decode cX9_merge 9 = .ok (.iconst (-1), 1) := by decide +kernel
theorem dX9_merge_10 : decode cX9_merge 10 = .ok (.ireturn, 1) := by decide +kernel
theorem dX9_merge_11 : decode cX9_merge 11 = .ok (.iconst 1, 1) := by decide +kernel
theorem dX9_merge_12 : decode cX9_merge 12 = .ok (.iload_n 1, 1) := by decide +kernel
theorem dX9_merge_13 : decode cX9_merge 13 = .ok (.isub, 1) := by decide +kernel
theorem dX9_merge_14 : decode cX9_merge 14 = .ok (.istore_n 2, 1) := by decide +kernel
theorem dX9_merge_15 : decode cX9_merge 15 = .ok (.iconst 0, 1) := by decide +kernel
theorem dX9_merge_16 : decode cX9_merge 16 = .ok (.istore_n 3, 1) := by decide +kernel
theorem dX9_merge_17 : decode cX9_merge 17 = .ok (.iconst 0, 1) := by decide +kernel
theorem dX9_merge_18 : decode cX9_merge 18 = .ok (.istore 4, 2) := by decide +kernel
theorem dX9_merge_20 : decode cX9_merge 20 = .ok (.iload 4, 2) := by decide +kernel
theorem dX9_merge_22 : decode cX9_merge 22 = .ok (.aload_n 0, 1) := by decide +kernel
theorem dX9_merge_23 : decode cX9_merge 23 = .ok (.getfield 59, 3) := by decide +kernel
theorem dX9_merge_26 : decode cX9_merge 26 = .ok (.iload_n 2, 1) := by decide +kernel
theorem dX9_merge_27 : decode cX9_merge 27 = .ok (.iaload, 1) := by decide +kernel
theorem dX9_merge_28 : decode cX9_merge 28 = .ok (.if_icmp .ge 30, 3) := by decide +kernel
theorem dX9_merge_31 : decode cX9_merge 31 = .ok (.aload_n 0, 1) := by decide +kernel
theorem dX9_merge_32 : decode cX9_merge 32 = .ok (.bipush 40, 2) := by decide +kernel
theorem dX9_merge_34 : decode cX9_merge 34 = .ok (.iload_n 2, 1) := by decide +kernel
theorem dX9_merge_35 : decode cX9_merge 35 = .ok (.imul, 1) := by decide +kernel
theorem dX9_merge_36 : decode cX9_merge 36 = .ok (.iload 4, 2) := by decide +kernel
theorem dX9_merge_38 : decode cX9_merge 38 = .ok (.iadd, 1) := by decide +kernel
theorem dX9_merge_39 : decode cX9_merge 39 = .ok (.invokevirtual 190, 3) := by decide +kernel
theorem dX9_merge_42 : decode cX9_merge 42 = .ok (.iload_n 3, 1) := by decide +kernel
theorem dX9_merge_43 : decode cX9_merge 43 = .ok (.aload_n 0, 1) := by decide +kernel
theorem dX9_merge_44 : decode cX9_merge 44 = .ok (.iload_n 1, 1) := by decide +kernel
theorem dX9_merge_45 : decode cX9_merge 45 = .ok (.invokevirtual 187, 3) := by decide +kernel
theorem dX9_merge_48 : decode cX9_merge 48 = .ok (.iconst 1, 1) := by decide +kernel
theorem dX9_merge_49 : decode cX9_merge 49 = .ok (.iand, 1) := by decide +kernel
theorem dX9_merge_50 : decode cX9_merge 50 = .ok (.iadd, 1) := by decide +kernel
theorem dX9_merge_51 : decode cX9_merge 51 = .ok (.istore_n 3, 1) := by decide +kernel
theorem dX9_merge_52 : decode cX9_merge 52 = .ok (.iinc 4 1, 3) := by decide +kernel
theorem dX9_merge_55 : decode cX9_merge 55 = .ok (.goto (-35), 3) := by decide +kernel
theorem dX9_merge_58 : decode cX9_merge 58 = .ok (.iconst 0, 1) := by decide +kernel
theorem dX9_merge_59 : decode cX9_merge 59 = .ok (.istore 4, 2) := by decide +kernel
theorem dX9_merge_61 : decode cX9_merge 61 = .ok (.iload 4, 2) := by decide +kernel
theorem dX9_merge_63 : decode cX9_merge 63 = .ok (.aload_n 0, 1) := by decide +kernel
theorem dX9_merge_64 : decode cX9_merge 64 = .ok (.getfield 69, 3) := by decide +kernel
theorem dX9_merge_67 : decode cX9_merge 67 = .ok (.iload_n 2, 1) := by decide +kernel
theorem dX9_merge_68 : decode cX9_merge 68 = .ok (.iaload, 1) := by decide +kernel
theorem dX9_merge_69 : decode cX9_merge 69 = .ok (.if_icmp .ge 30, 3) := by decide +kernel
theorem dX9_merge_72 : decode cX9_merge 72 = .ok (.aload_n 0, 1) := by decide +kernel
theorem dX9_merge_73 : decode cX9_merge 73 = .ok (.bipush 20, 2) := by decide +kernel
theorem dX9_merge_75 : decode cX9_merge 75 = .ok (.iload_n 2, 1) := by decide +kernel
theorem dX9_merge_76 : decode cX9_merge 76 = .ok (.imul, 1) := by decide +kernel
theorem dX9_merge_77 : decode cX9_merge 77 = .ok (.iload 4, 2) := by decide +kernel
theorem dX9_merge_79 : decode cX9_merge 79 = .ok (.iadd, 1) := by decide +kernel
theorem dX9_merge_80 : decode cX9_merge 80 = .ok (.invokevirtual 197, 3) := by decide +kernel
theorem dX9_merge_83 : decode cX9_merge 83 = .ok (.iload_n 3, 1) := by decide +kernel
theorem dX9_merge_84 : decode cX9_merge 84 = .ok (.aload_n 0, 1) := by decide +kernel
theorem dX9_merge_85 : decode cX9_merge 85 = .ok (.iload_n 1, 1) := by decide +kernel
theorem dX9_merge_86 : decode cX9_merge 86 = .ok (.invokevirtual 187, 3) := by decide +kernel
theorem dX9_merge_89 : decode cX9_merge 89 = .ok (.iconst 1, 1) := by decide +kernel
theorem dX9_merge_90 : decode cX9_merge 90 = .ok (.iand, 1) := by decide +kernel
theorem dX9_merge_91 : decode cX9_merge 91 = .ok (.iadd, 1) := by decide +kernel
theorem dX9_merge_92 : decode cX9_merge 92 = .ok (.istore_n 3, 1) := by decide +kernel
theorem dX9_merge_93 : decode cX9_merge 93 = .ok (.iinc 4 1, 3) := by decide +kernel
theorem dX9_merge_96 : decode cX9_merge 96 = .ok (.goto (-35), 3) := by decide +kernel
theorem dX9_merge_99 : decode cX9_merge 99 = .ok (.iload_n 3, 1) := by decide +kernel
theorem dX9_merge_100 : decode cX9_merge 100 = .ok (.ireturn, 1) := by decide +kernel
