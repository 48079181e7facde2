theorem dX0_init_0 : decode cX0_init 0 = .ok (.aload_n 0, 1) := by decide +kernel
theorem dX0_init_1 : decode cX0_init 1 = .ok (.invokespecial 1, 3) := by decide +kernel
theorem dX0_init_4 : decode cX0_init 4 = .ok (.aload_n 0, 1) := by decide +kernel
theorem dX0_init_5 : decode cX0_init 5 = .ok (.new 7, 3) := by decide +kernel
theorem dX0_init_8 : decode cX0_init 8 = .ok (.dup, 1) := by decide +kernel
theorem dX0_init_9 : decode cX0_init 9 = .ok (.bipush 40, 2) := by decide +kernel
theorem dX0_init_11 : decode cX0_init 11 = .ok (.invokespecial 11, 3) := by decide +kernel
theorem dX0_init_14 : decode cX0_init 14 = .ok (.putfield 14, 3) := by decide +kernel
theorem dX0_init_17 : decode cX0_init 17 = .ok (.aload_n 0, 1) := by decide +kernel
theorem dX0_init_18 : decode cX0_init 18 = .ok (.new 18, 3) := by decide +kernel
theorem dX0_init_21 : decode cX0_init 21 = .ok (.dup, 1) := by decide +kernel
theorem dX0_init_22 : decode cX0_init 22 = .ok (.invokespecial 20, 3) := by decide +kernel
theorem dX0_init_25 : decode cX0_init 25 = .ok (.putfield 21, 3) := by decide +kernel
theorem dX0_init_28 : decode cX0_init 28 = .ok (.aload_n 0, 1) := by decide +kernel
theorem dX0_init_29 : decode cX0_init 29 = .ok (.sipush 160, 3) := by decide +kernel
theorem dX0_init_32 : decode cX0_init 32 = .ok (.newarray .int, 2) := by decide +kernel
theorem dX0_init_34 : decode cX0_init 34 = .ok (.putfield 27, 3) := by decide +kernel
theorem dX0_init_37 : decode cX0_init 37 = .ok (.aload_n 0, 1) := by decide +kernel
theorem dX0_init_38 : decode cX0_init 38 = .ok (.iconst 0, 1) := by decide +kernel
theorem dX0_init_39 : decode cX0_init 39 = .ok (.putfield 31, 3) := by decide +kernel
theorem dX0_init_42 : decode cX0_init 42 = .ok (.return_, 1) := by decide +kernel
theorem dX0_isDigits_0 : decode cX0_isDigits 0 = .ok (.iload_n 0, 1) := by decide +kernel
theorem dX0_isDigits_1 : decode cX0_isDigits 1 = .ok (.iconst 1, 1) := by decide +kernel
theorem dX0_isDigits_2 : decode cX0_isDigits 2 = .ok (.if_icmp .lt 13, 3) := by decide +kernel
theorem dX0_isDigits_5 : decode cX0_isDigits 5 = .ok (.iload_n 0, 1) := by decide +kernel
theorem dX0_isDigits_6 : decode cX0_isDigits 6 = .ok (.bipush 9, 2) := by decide +kernel
theorem dX0_isDigits_8 : decode cX0_isDigits 8 = .ok (.if_icmp .gt 7, 3) := by decide +kernel
theorem dX0_isDigits_11 : decode cX0_isDigits 11 = .ok (.iconst 1, 1) := by decide +kernel
theorem dX0_isDigits_12 : decode cX0_isDigits 12 = .ok (.goto 4, 3) := by decide +kernel
theorem dX0_isDigits_15 : decode cX0_isDigits 15 = .ok (.iconst 0, 1) := by decide +kernel
theorem dX0_isDigits_16 : decode cX0_isDigits 16 = .ok (.ireturn, 1) := by decide +kernel
theorem dX0_inputs_0 : decode cX0_inputs 0 = .ok (.aload_n 0, 1) := by decide +kernel
theorem dX0_inputs_1 : decode cX0_inputs 1 = .ok (.getfield 14, 3) := by decide +kernel
theorem dX0_inputs_4 : decode cX0_inputs 4 = .ok (.areturn, 1) := by decide +kernel
theorem dX0_faults_0 : decode cX0_faults 0 = .ok (.aload_n 0, 1) := by decide +kernel
theorem dX0_faults_1 : decode cX0_faults 1 = .ok (.getfield 21, 3) := by decide +kernel
theorem dX0_faults_4 : decode cX0_faults 4 = .ok (.areturn, 1) := by decide +kernel
theorem dX0_tries_0 : decode cX0_tries 0 = .ok (.aload_n 0, 1) := by decide +kernel
theorem dX0_tries_1 : decode cX0_tries 1 = .ok (.getfield 31, 3) := by decide +kernel
theorem dX0_tries_4 : decode cX0_tries 4 = .ok (.ireturn, 1) := by decide +kernel
theorem dX0_covers_0 : decode cX0_covers 0 = .ok (.iload_n 1, 1) := by decide +kernel
theorem dX0_covers_1 : decode cX0_covers 1 = .ok (.invokestatic 35, 3) := by decide +kernel
theorem dX0_covers_4 : decode cX0_covers 4 = .ok (.ifCond .eq 28, 3) := by decide +kernel
theorem dX0_covers_7 : decode cX0_covers 7 = .ok (.iload_n 2, 1) := by decide +kernel
theorem dX0_covers_8 : decode cX0_covers 8 = .ok (.invokestatic 39, 3) := by decide +kernel
theorem dX0_covers_11 : decode cX0_covers 11 = .ok (.ifCond .eq 21, 3) := by decide +kernel
theorem dX0_covers_14 : decode cX0_covers 14 = .ok (.aload_n 0, 1) := by decide +kernel
theorem dX0_covers_15 : decode cX0_covers 15 = .ok (.getfield 27, 3) := by decide +kernel
theorem dX0_covers_18 : decode cX0_covers 18 = .ok (.iload_n 1, 1) := by decide +kernel
theorem dX0_covers_19 : decode cX0_covers 19 = .ok (.iaload, 1) := by decide +kernel
theorem dX0_covers_20 : decode cX0_covers 20 = .ok (.iload_n 2, 1) := by decide +kernel
theorem dX0_covers_21 : decode cX0_covers 21 = .ok (.ishr, 1) := by decide +kernel
theorem dX0_covers_22 : decode cX0_covers 22 = .ok (.iconst 1, 1) := by decide +kernel
theorem dX0_covers_23 : decode cX0_covers 23 = .ok (.iand, 1) := by decide +kernel
theorem dX0_covers_24 : decode cX0_covers 24 = .ok (.iconst 1, 1) := by decide +kernel
theorem dX0_covers_25 : decode cX0_covers 25 = .ok (.if_icmp .ne 7, 3) := by decide +kernel
theorem dX0_covers_28 : decode cX0_covers 28 = .ok (.iconst 1, 1) := by decide +kernel
theorem dX0_covers_29 : decode cX0_covers 29 = .ok (.goto 4, 3) := by decide +kernel
theorem dX0_covers_32 : decode cX0_covers 32 = .ok (.iconst 0, 1) := by decide +kernel
theorem dX0_covers_33 : decode cX0_covers 33 = .ok (.ireturn, 1) := by decide +kernel
theorem dX0_reachesCovered_0 : decode cX0_reachesCovered 0 = .ok (.iconst 0, 1) := by decide +kernel
theorem dX0_reachesCovered_1 : decode cX0_reachesCovered 1 = .ok (.istore_n 1, 1) := by decide +kernel
theorem dX0_reachesCovered_2 : decode cX0_reachesCovered 2 = .ok (.iconst 0, 1) := by decide +kernel
theorem dX0_reachesCovered_3 : decode cX0_reachesCovered 3 = .ok (.istore_n 2, 1) := by decide +kernel
theorem dX0_reachesCovered_4 : decode cX0_reachesCovered 4 = .ok (.iload_n 2, 1) := by decide +kernel
theorem dX0_reachesCovered_5 : decode cX0_reachesCovered 5 = .ok (.aload_n 0, 1) := by decide +kernel
theorem dX0_reachesCovered_6 : decode cX0_reachesCovered 6 = .ok (.getfield 27, 3) := by decide +kernel
theorem dX0_reachesCovered_9 : decode cX0_reachesCovered 9 = .ok (.arraylength, 1) := by decide +kernel
theorem dX0_reachesCovered_10 : decode cX0_reachesCovered 10 = .ok (.if_icmp .ge 21, 3) := by decide +kernel
theorem dX0_reachesCovered_13 : decode cX0_reachesCovered 13 = .ok (.iload_n 1, 1) := by decide +kernel
theorem dX0_reachesCovered_14 : decode cX0_reachesCovered 14 = .ok (.aload_n 0, 1) := by decide +kernel
theorem dX0_reachesCovered_15 : decode cX0_reachesCovered 15 = .ok (.getfield 27, 3) := by decide +kernel
theorem dX0_reachesCovered_18 : decode cX0_reachesCovered 18 = .ok (.iload_n 2, 1) := by decide +kernel
theorem dX0_reachesCovered_19 : decode cX0_reachesCovered 19 = .ok (.iaload, 1) := by decide +kernel
theorem dX0_reachesCovered_20 : decode cX0_reachesCovered 20 = .ok (.invokestatic 42, 3) := by decide +kernel
theorem dX0_reachesCovered_23 : decode cX0_reachesCovered 23 = .ok (.iadd, 1) := by decide +kernel
theorem dX0_reachesCovered_24 : decode cX0_reachesCovered 24 = .ok (.istore_n 1, 1) := by decide +kernel
theorem dX0_reachesCovered_25 : decode cX0_reachesCovered 25 = .ok (.iinc 2 1, 3) := by decide +kernel
theorem dX0_reachesCovered_28 : decode cX0_reachesCovered 28 = .ok (.goto (-24), 3) := by decide +kernel
theorem dX0_reachesCovered_31 : decode cX0_reachesCovered 31 = .ok (.iload_n 1, 1) := by decide +kernel
theorem dX0_reachesCovered_32 : decode cX0_reachesCovered 32 = .ok (.ireturn, 1) := by decide +kernel
theorem dX0_branchesCovered_0 : decode cX0_branchesCovered 0 = .ok (.iconst 0, 1) := by decide +kernel
theorem dX0_branchesCovered_1 : decode cX0_branchesCovered 1 = .ok (.istore_n 1, 1) := by decide +kernel
theorem dX0_branchesCovered_2 : decode cX0_branchesCovered 2 = .ok (.iconst 0, 1) := by decide +kernel
theorem dX0_branchesCovered_3 : decode cX0_branchesCovered 3 = .ok (.istore_n 2, 1) := by decide +kernel
theorem dX0_branchesCovered_4 : decode cX0_branchesCovered 4 = .ok (.iload_n 2, 1) := by decide +kernel
theorem dX0_branchesCovered_5 : decode cX0_branchesCovered 5 = .ok (.aload_n 0, 1) := by decide +kernel
theorem dX0_branchesCovered_6 : decode cX0_branchesCovered 6 = .ok (.getfield 27, 3) := by decide +kernel
theorem dX0_branchesCovered_9 : decode cX0_branchesCovered 9 = .ok (.arraylength, 1) := by decide +kernel
theorem dX0_branchesCovered_10 : decode cX0_branchesCovered 10 = .ok (.if_icmp .ge 21, 3) := by decide +kernel
theorem dX0_branchesCovered_13 : decode cX0_branchesCovered 13 = .ok (.aload_n 0, 1) := by decide +kernel
theorem dX0_branchesCovered_14 : decode cX0_branchesCovered 14 = .ok (.getfield 27, 3) := by decide +kernel
theorem dX0_branchesCovered_17 : decode cX0_branchesCovered 17 = .ok (.iload_n 2, 1) := by decide +kernel
theorem dX0_branchesCovered_18 : decode cX0_branchesCovered 18 = .ok (.iaload, 1) := by decide +kernel
theorem dX0_branchesCovered_19 : decode cX0_branchesCovered 19 = .ok (.ifCond .eq 6, 3) := by decide +kernel
theorem dX0_branchesCovered_22 : decode cX0_branchesCovered 22 = .ok (.iinc 1 1, 3) := by decide +kernel
theorem dX0_branchesCovered_25 : decode cX0_branchesCovered 25 = .ok (.iinc 2 1, 3) := by decide +kernel
theorem dX0_branchesCovered_28 : decode cX0_branchesCovered 28 = .ok (.goto (-24), 3) := by decide +kernel
theorem dX0_branchesCovered_31 : decode cX0_branchesCovered 31 = .ok (.iload_n 1, 1) := by decide +kernel
theorem dX0_branchesCovered_32 : decode cX0_branchesCovered 32 = .ok (.ireturn, 1) := by decide +kernel
theorem dX0_take_0 : decode cX0_take 0 = .ok (.aload_n 0, 1) := by decide +kernel
theorem dX0_take_1 : decode cX0_take 1 = .ok (.dup, 1) := by decide +kernel
theorem dX0_take_2 : decode cX0_take 2 = .ok (.getfield 31, 3) := by decide +kernel
theorem dX0_take_5 : decode cX0_take 5 = .ok (.iconst 1, 1) := by decide +kernel
theorem dX0_take_6 : decode cX0_take 6 = .ok (.iadd, 1) := by decide +kernel
theorem dX0_take_7 : decode cX0_take 7 = .ok (.putfield 31, 3) := by decide +kernel
theorem dX0_take_10 : decode cX0_take 10 = .ok (.iconst 0, 1) := by decide +kernel
theorem dX0_take_11 : decode cX0_take 11 = .ok (.istore_n 3, 1) := by decide +kernel
theorem dX0_take_12 : decode cX0_take 12 = .ok (.aload_n 0, 1) := by decide +kernel
theorem dX0_take_13 : decode cX0_take 13 = .ok (.aload_n 1, 1) := by decide +kernel
theorem dX0_take_14 : decode cX0_take 14 = .ok (.invokevirtual 48, 3) := by decide +kernel
theorem dX0_take_17 : decode cX0_take 17 = .ok (.ifCond .eq 17, 3) := by decide +kernel
theorem dX0_take_20 : decode cX0_take 20 = .ok (.aload_n 0, 1) := by decide +kernel
theorem dX0_take_21 : decode cX0_take 21 = .ok (.getfield 14, 3) := by decide +kernel
theorem dX0_take_24 : decode cX0_take 24 = .ok (.aload_n 2, 1) := by decide +kernel
theorem dX0_take_25 : decode cX0_take 25 = .ok (.invokevirtual 52, 3) := by decide +kernel
theorem dX0_take_28 : decode cX0_take 28 = .ok (.ifCond .eq 6, 3) := by decide +kernel
theorem dX0_take_31 : decode cX0_take 31 = .ok (.iinc 3 1, 3) := by decide +kernel
theorem dX0_take_34 : decode cX0_take 34 = .ok (.aload_n 0, 1) := by decide +kernel
theorem dX0_take_35 : decode cX0_take 35 = .ok (.getfield 21, 3) := by decide +kernel
theorem dX0_take_38 : decode cX0_take 38 = .ok (.aload_n 1, 1) := by decide +kernel
theorem dX0_take_39 : decode cX0_take 39 = .ok (.aload_n 2, 1) := by decide +kernel
theorem dX0_take_40 : decode cX0_take 40 = .ok (.invokevirtual 56, 3) := by decide +kernel
theorem dX0_take_43 : decode cX0_take 43 = .ok (.ifCond .eq 6, 3) := by decide +kernel
theorem dX0_take_46 : decode cX0_take 46 = .ok (.iinc 3 2, 3) := by decide +kernel
theorem dX0_take_49 : decode cX0_take 49 = .ok (.iload_n 3, 1) := by decide +kernel
theorem dX0_take_50 : decode cX0_take 50 = .ok (.ireturn, 1) := by decide +kernel
theorem dX0_reachFurther_0 : decode cX0_reachFurther 0 = .ok (.iconst 0, 1) := by decide +kernel
theorem dX0_reachFurther_1 : decode cX0_reachFurther 1 = .ok (.istore_n 2, 1) := by decide +kernel
theorem dX0_reachFurther_2 : decode cX0_reachFurther 2 = .ok (.iconst 0, 1) := by decide +kernel
theorem dX0_reachFurther_3 : decode cX0_reachFurther 3 = .ok (.istore_n 3, 1) := by decide +kernel
theorem dX0_reachFurther_4 : decode cX0_reachFurther 4 = .ok (.iload_n 3, 1) := by decide +kernel
theorem dX0_reachFurther_5 : decode cX0_reachFurther 5 = .ok (.aload_n 0, 1) := by decide +kernel
theorem dX0_reachFurther_6 : decode cX0_reachFurther 6 = .ok (.getfield 27, 3) := by decide +kernel
theorem dX0_reachFurther_9 : decode cX0_reachFurther 9 = .ok (.arraylength, 1) := by decide +kernel
theorem dX0_reachFurther_10 : decode cX0_reachFurther 10 = .ok (.if_icmp .ge 52, 3) := by decide +kernel
theorem dX0_reachFurther_13 : decode cX0_reachFurther 13 = .ok (.aload_n 1, 1) := by decide +kernel
theorem dX0_reachFurther_14 : decode cX0_reachFurther 14 = .ok (.iload_n 3, 1) := by decide +kernel
theorem dX0_reachFurther_15 : decode cX0_reachFurther 15 = .ok (.invokevirtual 60, 3) := by decide +kernel
theorem dX0_reachFurther_18 : decode cX0_reachFurther 18 = .ok (.istore 4, 2) := by decide +kernel
theorem dX0_reachFurther_20 : decode cX0_reachFurther 20 = .ok (.iload 4, 2) := by decide +kernel
theorem dX0_reachFurther_22 : decode cX0_reachFurther 22 = .ok (.ifCond .le 34, 3) := by decide +kernel
theorem dX0_reachFurther_25 : decode cX0_reachFurther 25 = .ok (.aload_n 0, 1) := by decide +kernel
theorem dX0_reachFurther_26 : decode cX0_reachFurther 26 = .ok (.iload_n 3, 1) := by decide +kernel
theorem dX0_reachFurther_27 : decode cX0_reachFurther 27 = .ok (.iload 4, 2) := by decide +kernel
theorem dX0_reachFurther_29 : decode cX0_reachFurther 29 = .ok (.invokestatic 63, 3) := by decide +kernel
theorem dX0_reachFurther_32 : decode cX0_reachFurther 32 = .ok (.invokevirtual 66, 3) := by decide +kernel
theorem dX0_reachFurther_35 : decode cX0_reachFurther 35 = .ok (.ifCond .ne 21, 3) := by decide +kernel
theorem dX0_reachFurther_38 : decode cX0_reachFurther 38 = .ok (.aload_n 0, 1) := by decide +kernel
theorem dX0_reachFurther_39 : decode cX0_reachFurther 39 = .ok (.getfield 27, 3) := by decide +kernel
theorem dX0_reachFurther_42 : decode cX0_reachFurther 42 = .ok (.iload_n 3, 1) := by decide +kernel
theorem dX0_reachFurther_43 : decode cX0_reachFurther 43 = .ok (.dup2, 1) := by decide +kernel
theorem dX0_reachFurther_44 : decode cX0_reachFurther 44 = .ok (.iaload, 1) := by decide +kernel
theorem dX0_reachFurther_45 : decode cX0_reachFurther 45 = .ok (.iconst 1, 1) := by decide +kernel
theorem dX0_reachFurther_46 : decode cX0_reachFurther 46 = .ok (.iload 4, 2) := by decide +kernel
theorem dX0_reachFurther_48 : decode cX0_reachFurther 48 = .ok (.invokestatic 63, 3) := by decide +kernel
theorem dX0_reachFurther_51 : decode cX0_reachFurther 51 = .ok (.ishl, 1) := by decide +kernel
theorem dX0_reachFurther_52 : decode cX0_reachFurther 52 = .ok (.ior, 1) := by decide +kernel
theorem dX0_reachFurther_53 : decode cX0_reachFurther 53 = .ok (.iastore, 1) := by decide +kernel
theorem dX0_reachFurther_54 : decode cX0_reachFurther 54 = .ok (.iconst 1, 1) := by decide +kernel
theorem dX0_reachFurther_55 : decode cX0_reachFurther 55 = .ok (.istore_n 2, 1) := by decide +kernel
theorem dX0_reachFurther_56 : decode cX0_reachFurther 56 = .ok (.iinc 3 1, 3) := by decide +kernel
theorem dX0_reachFurther_59 : decode cX0_reachFurther 59 = .ok (.goto (-55), 3) := by decide +kernel
theorem dX0_reachFurther_62 : decode cX0_reachFurther 62 = .ok (.iload_n 2, 1) := by decide +kernel
theorem dX0_reachFurther_63 : decode cX0_reachFurther 63 = .ok (.ireturn, 1) := by decide +kernel
theorem dX0_digitsOf_0 : decode cX0_digitsOf 0 = .ok (.iconst 0, 1) := by decide +kernel
theorem dX0_digitsOf_1 : decode cX0_digitsOf 1 = .ok (.istore_n 1, 1) := by decide +kernel
theorem dX0_digitsOf_2 : decode cX0_digitsOf 2 = .ok (.iload_n 0, 1) := by decide +kernel
theorem dX0_digitsOf_3 : decode cX0_digitsOf 3 = .ok (.istore_n 2, 1) := by decide +kernel
theorem dX0_digitsOf_4 : decode cX0_digitsOf 4 = .ok (.iload_n 2, 1) := by decide +kernel
theorem dX0_digitsOf_5 : decode cX0_digitsOf 5 = .ok (.ifCond .le 13, 3) := by decide +kernel
theorem dX0_digitsOf_8 : decode cX0_digitsOf 8 = .ok (.iinc 1 1, 3) := by decide +kernel
theorem dX0_digitsOf_11 : decode cX0_digitsOf 11 = .ok (.iload_n 2, 1) := by decide +kernel
theorem dX0_digitsOf_12 : decode cX0_digitsOf 12 = .ok (.iconst 1, 1) := by decide +kernel
theorem dX0_digitsOf_13 : decode cX0_digitsOf 13 = .ok (.ishr, 1) := by decide +kernel
theorem dX0_digitsOf_14 : decode cX0_digitsOf 14 = .ok (.istore_n 2, 1) := by decide +kernel
theorem dX0_digitsOf_15 : decode cX0_digitsOf 15 = .ok (.goto (-11), 3) := by decide +kernel
theorem dX0_digitsOf_18 : decode cX0_digitsOf 18 = .ok (.iload_n 1, 1) := by decide +kernel
theorem dX0_digitsOf_19 : decode cX0_digitsOf 19 = .ok (.ireturn, 1) := by decide +kernel
theorem dX0_clear_0 : decode cX0_clear 0 = .ok (.aload_n 0, 1) := by decide +kernel
theorem dX0_clear_1 : decode cX0_clear 1 = .ok (.getfield 14, 3) := by decide +kernel
theorem dX0_clear_4 : decode cX0_clear 4 = .ok (.invokevirtual 70, 3) := by decide +kernel
theorem dX0_clear_7 : decode cX0_clear 7 = .ok (.aload_n 0, 1) := by decide +kernel
theorem dX0_clear_8 : decode cX0_clear 8 = .ok (.getfield 21, 3) := by decide +kernel
theorem dX0_clear_11 : decode cX0_clear 11 = .ok (.invokevirtual 73, 3) := by decide +kernel
theorem dX0_clear_14 : decode cX0_clear 14 = .ok (.aload_n 0, 1) := by decide +kernel
theorem dX0_clear_15 : decode cX0_clear 15 = .ok (.getfield 27, 3) := by decide +kernel
theorem dX0_clear_18 : decode cX0_clear 18 = .ok (.iconst 0, 1) := by decide +kernel
theorem dX0_clear_19 : decode cX0_clear 19 = .ok (.invokestatic 74, 3) := by decide +kernel
theorem dX0_clear_22 : decode cX0_clear 22 = .ok (.aload_n 0, 1) := by decide +kernel
theorem dX0_clear_23 : decode cX0_clear 23 = .ok (.iconst 0, 1) := by decide +kernel
theorem dX0_clear_24 : decode cX0_clear 24 = .ok (.putfield 31, 3) := by decide +kernel
theorem dX0_clear_27 : decode cX0_clear 27 = .ok (.return_, 1) := by decide +kernel
theorem dX1_init_0 : decode cX1_init 0 = .ok (.aload_n 0, 1) := by decide +kernel
theorem dX1_init_1 : decode cX1_init 1 = .ok (.invokespecial 1, 3) := by decide +kernel
theorem dX1_init_4 : decode cX1_init 4 = .ok (.aload_n 0, 1) := by decide +kernel
theorem dX1_init_5 : decode cX1_init 5 = .ok (.new 7, 3) := by decide +kernel
theorem dX1_init_8 : decode cX1_init 8 = .ok (.dup, 1) := by decide +kernel
theorem dX1_init_9 : decode cX1_init 9 = .ok (.invokespecial 9, 3) := by decide +kernel
theorem dX1_init_12 : decode cX1_init 12 = .ok (.putfield 10, 3) := by decide +kernel
theorem dX1_init_15 : decode cX1_init 15 = .ok (.aload_n 0, 1) := by decide +kernel
theorem dX1_init_16 : decode cX1_init 16 = .ok (.new 7, 3) := by decide +kernel
theorem dX1_init_19 : decode cX1_init 19 = .ok (.dup, 1) := by decide +kernel
theorem dX1_init_20 : decode cX1_init 20 = .ok (.invokespecial 9, 3) := by decide +kernel
theorem dX1_init_23 : decode cX1_init 23 = .ok (.putfield 16, 3) := by decide +kernel
theorem dX1_init_26 : decode cX1_init 26 = .ok (.return_, 1) := by decide +kernel
theorem dX1_apply_0 : decode cX1_apply 0 = .ok (.aload_n 1, 1) := by decide +kernel
theorem dX1_apply_1 : decode cX1_apply 1 = .ok (.invokevirtual 19, 3) := by decide +kernel
theorem dX1_apply_4 : decode cX1_apply 4 = .ok (.iconst 0, 1) := by decide +kernel
theorem dX1_apply_5 : decode cX1_apply 5 = .ok (.invokestatic 23, 3) := by decide +kernel
theorem dX1_apply_8 : decode cX1_apply 8 = .ok (.istore 6, 2) := by decide +kernel
theorem dX1_apply_10 : decode cX1_apply 10 = .ok (.iload_n 3, 1) := by decide +kernel
theorem dX1_apply_11 : decode cX1_apply 11 = .ok (.iconst 4, 1) := by decide +kernel
theorem dX1_apply_12 : decode cX1_apply 12 = .ok (.if_icmp .ne 24, 3) := by decide +kernel
theorem dX1_apply_15 : decode cX1_apply 15 = .ok (.aload_n 0, 1) := by decide +kernel
theorem dX1_apply_16 : decode cX1_apply 16 = .ok (.aload_n 1, 1) := by decide +kernel
theorem dX1_apply_17 : decode cX1_apply 17 = .ok (.iload 4, 2) := by decide +kernel
theorem dX1_apply_19 : decode cX1_apply 19 = .ok (.iload 6, 2) := by decide +kernel
theorem dX1_apply_21 : decode cX1_apply 21 = .ok (.iconst 1, 1) := by decide +kernel
theorem dX1_apply_22 : decode cX1_apply 22 = .ok (.iadd, 1) := by decide +kernel
theorem dX1_apply_23 : decode cX1_apply 23 = .ok (.irem, 1) := by decide +kernel
theorem dX1_apply_24 : decode cX1_apply 24 = .ok (.iload 5, 2) := by decide +kernel
theorem dX1_apply_26 : decode cX1_apply 26 = .ok (.sipush 256, 3) := by decide +kernel
theorem dX1_apply_29 : decode cX1_apply 29 = .ok (.irem, 1) := by decide +kernel
theorem dX1_apply_30 : decode cX1_apply 30 = .ok (.invokevirtual 29, 3) := by decide +kernel
theorem dX1_apply_33 : decode cX1_apply 33 = .ok (.goto 45, 3) := by decide +kernel
theorem dX1_apply_36 : decode cX1_apply 36 = .ok (.iload_n 3, 1) := by decide +kernel
theorem dX1_apply_37 : decode cX1_apply 37 = .ok (.bipush 6, 2) := by decide +kernel
theorem dX1_apply_39 : decode cX1_apply 39 = .ok (.if_icmp .ne 21, 3) := by decide +kernel
theorem dX1_apply_42 : decode cX1_apply 42 = .ok (.aload_n 0, 1) := by decide +kernel
theorem dX1_apply_43 : decode cX1_apply 43 = .ok (.aload_n 1, 1) := by decide +kernel
theorem dX1_apply_44 : decode cX1_apply 44 = .ok (.aload_n 2, 1) := by decide +kernel
theorem dX1_apply_45 : decode cX1_apply 45 = .ok (.iload 4, 2) := by decide +kernel
theorem dX1_apply_47 : decode cX1_apply 47 = .ok (.iload 6, 2) := by decide +kernel
theorem dX1_apply_49 : decode cX1_apply 49 = .ok (.iconst 1, 1) := by decide +kernel
theorem dX1_apply_50 : decode cX1_apply 50 = .ok (.iadd, 1) := by decide +kernel
theorem dX1_apply_51 : decode cX1_apply 51 = .ok (.irem, 1) := by decide +kernel
theorem dX1_apply_52 : decode cX1_apply 52 = .ok (.iload 5, 2) := by decide +kernel
theorem dX1_apply_54 : decode cX1_apply 54 = .ok (.invokevirtual 33, 3) := by decide +kernel
theorem dX1_apply_57 : decode cX1_apply 57 = .ok (.goto 21, 3) := by decide +kernel
theorem dX1_apply_60 : decode cX1_apply 60 = .ok (.iload 6, 2) := by decide +kernel
theorem dX1_apply_62 : decode cX1_apply 62 = .ok (.ifCond .le 16, 3) := by decide +kernel
theorem dX1_apply_65 : decode cX1_apply 65 = .ok (.aload_n 0, 1) := by decide +kernel
theorem dX1_apply_66 : decode cX1_apply 66 = .ok (.aload_n 1, 1) := by decide +kernel
theorem dX1_apply_67 : decode cX1_apply 67 = .ok (.iload_n 3, 1) := by decide +kernel
theorem dX1_apply_68 : decode cX1_apply 68 = .ok (.iload 4, 2) := by decide +kernel
theorem dX1_apply_70 : decode cX1_apply 70 = .ok (.iload 6, 2) := by decide +kernel
theorem dX1_apply_72 : decode cX1_apply 72 = .ok (.irem, 1) := by decide +kernel
theorem dX1_apply_73 : decode cX1_apply 73 = .ok (.iload 5, 2) := by decide +kernel
theorem dX1_apply_75 : decode cX1_apply 75 = .ok (.invokevirtual 37, 3) := by decide +kernel
theorem dX1_apply_78 : decode cX1_apply 78 = .ok (.return_, 1) := by decide +kernel
theorem dX1_insert_0 : decode cX1_insert 0 = .ok (.aload_n 0, 1) := by decide +kernel
theorem dX1_insert_1 : decode cX1_insert 1 = .ok (.getfield 10, 3) := by decide +kernel
theorem dX1_insert_4 : decode cX1_insert 4 = .ok (.iconst 0, 1) := by decide +kernel
theorem dX1_insert_5 : decode cX1_insert 5 = .ok (.invokevirtual 41, 3) := by decide +kernel
theorem dX1_insert_8 : decode cX1_insert 8 = .ok (.aload_n 0, 1) := by decide +kernel
theorem dX1_insert_9 : decode cX1_insert 9 = .ok (.getfield 10, 3) := by decide +kernel
theorem dX1_insert_12 : decode cX1_insert 12 = .ok (.aload_n 1, 1) := by decide +kernel
theorem dX1_insert_13 : decode cX1_insert 13 = .ok (.iconst 0, 1) := by decide +kernel
theorem dX1_insert_14 : decode cX1_insert 14 = .ok (.iload_n 2, 1) := by decide +kernel
theorem dX1_insert_15 : decode cX1_insert 15 = .ok (.invokevirtual 45, 3) := by decide +kernel
theorem dX1_insert_18 : decode cX1_insert 18 = .ok (.aload_n 0, 1) := by decide +kernel
theorem dX1_insert_19 : decode cX1_insert 19 = .ok (.getfield 10, 3) := by decide +kernel
theorem dX1_insert_22 : decode cX1_insert 22 = .ok (.iload_n 3, 1) := by decide +kernel
theorem dX1_insert_23 : decode cX1_insert 23 = .ok (.invokevirtual 48, 3) := by decide +kernel
theorem dX1_insert_26 : decode cX1_insert 26 = .ok (.pop, 1) := by decide +kernel
theorem dX1_insert_27 : decode cX1_insert 27 = .ok (.aload_n 0, 1) := by decide +kernel
theorem dX1_insert_28 : decode cX1_insert 28 = .ok (.getfield 10, 3) := by decide +kernel
theorem dX1_insert_31 : decode cX1_insert 31 = .ok (.aload_n 1, 1) := by decide +kernel
theorem dX1_insert_32 : decode cX1_insert 32 = .ok (.iload_n 2, 1) := by decide +kernel
theorem dX1_insert_33 : decode cX1_insert 33 = .ok (.bipush 24, 2) := by decide +kernel
theorem dX1_insert_35 : decode cX1_insert 35 = .ok (.invokevirtual 45, 3) := by decide +kernel
theorem dX1_insert_38 : decode cX1_insert 38 = .ok (.aload_n 1, 1) := by decide +kernel
theorem dX1_insert_39 : decode cX1_insert 39 = .ok (.aload_n 0, 1) := by decide +kernel
theorem dX1_insert_40 : decode cX1_insert 40 = .ok (.getfield 10, 3) := by decide +kernel
theorem dX1_insert_43 : decode cX1_insert 43 = .ok (.invokevirtual 52, 3) := by decide +kernel
theorem dX1_insert_46 : decode cX1_insert 46 = .ok (.return_, 1) := by decide +kernel
theorem dX1_cross_0 : decode cX1_cross 0 = .ok (.aload_n 2, 1) := by decide +kernel
theorem dX1_cross_1 : decode cX1_cross 1 = .ok (.invokevirtual 56, 3) := by decide +kernel
theorem dX1_cross_4 : decode cX1_cross 4 = .ok (.ifCond .gt 4, 3) := by decide +kernel
theorem dX1_cross_7 : decode cX1_cross 7 = .ok (.return_, 1) := by decide +kernel
theorem dX1_cross_8 : decode cX1_cross 8 = .ok (.aload_n 2, 1) := by decide +kernel
theorem dX1_cross_9 : decode cX1_cross 9 = .ok (.iload 4, 2) := by decide +kernel
theorem dX1_cross_11 : decode cX1_cross 11 = .ok (.aload_n 2, 1) := by decide +kernel
theorem dX1_cross_12 : decode cX1_cross 12 = .ok (.invokevirtual 56, 3) := by decide +kernel
theorem dX1_cross_15 : decode cX1_cross 15 = .ok (.irem, 1) := by decide +kernel
theorem dX1_cross_16 : decode cX1_cross 16 = .ok (.aload_n 0, 1) := by decide +kernel
theorem dX1_cross_17 : decode cX1_cross 17 = .ok (.getfield 16, 3) := by decide +kernel
theorem dX1_cross_20 : decode cX1_cross 20 = .ok (.invokevirtual 59, 3) := by decide +kernel
theorem dX1_cross_23 : decode cX1_cross 23 = .ok (.aload_n 1, 1) := by decide +kernel
theorem dX1_cross_24 : decode cX1_cross 24 = .ok (.iload_n 3, 1) := by decide +kernel
theorem dX1_cross_25 : decode cX1_cross 25 = .ok (.invokevirtual 41, 3) := by decide +kernel
theorem dX1_cross_28 : decode cX1_cross 28 = .ok (.aload_n 1, 1) := by decide +kernel
theorem dX1_cross_29 : decode cX1_cross 29 = .ok (.aload_n 0, 1) := by decide +kernel
theorem dX1_cross_30 : decode cX1_cross 30 = .ok (.getfield 16, 3) := by decide +kernel
theorem dX1_cross_33 : decode cX1_cross 33 = .ok (.iload_n 3, 1) := by decide +kernel
theorem dX1_cross_34 : decode cX1_cross 34 = .ok (.bipush 24, 2) := by decide +kernel
theorem dX1_cross_36 : decode cX1_cross 36 = .ok (.invokevirtual 45, 3) := by decide +kernel
theorem dX1_cross_39 : decode cX1_cross 39 = .ok (.return_, 1) := by decide +kernel
theorem dX1_changeAt_0 : decode cX1_changeAt 0 = .ok (.aload_n 1, 1) := by decide +kernel
theorem dX1_changeAt_1 : decode cX1_changeAt 1 = .ok (.iload_n 3, 1) := by decide +kernel
theorem dX1_changeAt_2 : decode cX1_changeAt 2 = .ok (.invokevirtual 63, 3) := by decide +kernel
theorem dX1_changeAt_5 : decode cX1_changeAt 5 = .ok (.istore 5, 2) := by decide +kernel
theorem dX1_changeAt_7 : decode cX1_changeAt 7 = .ok (.iload_n 3, 1) := by decide +kernel
theorem dX1_changeAt_8 : decode cX1_changeAt 8 = .ok (.iconst 1, 1) := by decide +kernel
theorem dX1_changeAt_9 : decode cX1_changeAt 9 = .ok (.iadd, 1) := by decide +kernel
theorem dX1_changeAt_10 : decode cX1_changeAt 10 = .ok (.iload 4, 2) := by decide +kernel
theorem dX1_changeAt_12 : decode cX1_changeAt 12 = .ok (.iconst 4, 1) := by decide +kernel
theorem dX1_changeAt_13 : decode cX1_changeAt 13 = .ok (.irem, 1) := by decide +kernel
theorem dX1_changeAt_14 : decode cX1_changeAt 14 = .ok (.iadd, 1) := by decide +kernel
theorem dX1_changeAt_15 : decode cX1_changeAt 15 = .ok (.istore 6, 2) := by decide +kernel
theorem dX1_changeAt_17 : decode cX1_changeAt 17 = .ok (.iload_n 2, 1) := by decide +kernel
theorem dX1_changeAt_18 : decode cX1_changeAt 18 = .ok (.tableswitch 106 0 3 #[30, 48, 62, 84], 30) := by decide +kernel
theorem dX1_changeAt_48 : decode cX1_changeAt 48 = .ok (.aload_n 1, 1) := by decide +kernel
theorem dX1_changeAt_49 : decode cX1_changeAt 49 = .ok (.iload_n 3, 1) := by decide +kernel
theorem dX1_changeAt_50 : decode cX1_changeAt 50 = .ok (.iload 5, 2) := by decide +kernel
theorem dX1_changeAt_52 : decode cX1_changeAt 52 = .ok (.iconst 1, 1) := by decide +kernel
theorem dX1_changeAt_53 : decode cX1_changeAt 53 = .ok (.iload 4, 2) := by decide +kernel
theorem dX1_changeAt_55 : decode cX1_changeAt 55 = .ok (.bipush 8, 2) := by decide +kernel
theorem dX1_changeAt_57 : decode cX1_changeAt 57 = .ok (.irem, 1) := by decide +kernel
theorem dX1_changeAt_58 : decode cX1_changeAt 58 = .ok (.ishl, 1) := by decide +kernel
theorem dX1_changeAt_59 : decode cX1_changeAt 59 = .ok (.ixor, 1) := by decide +kernel
theorem dX1_changeAt_60 : decode cX1_changeAt 60 = .ok (.invokevirtual 67, 3) := by decide +kernel
theorem dX1_changeAt_63 : decode cX1_changeAt 63 = .ok (.goto 93, 3) := by decide +kernel
theorem dX1_changeAt_66 : decode cX1_changeAt 66 = .ok (.aload_n 1, 1) := by decide +kernel
theorem dX1_changeAt_67 : decode cX1_changeAt 67 = .ok (.iload_n 3, 1) := by decide +kernel
theorem dX1_changeAt_68 : decode cX1_changeAt 68 = .ok (.iload 4, 2) := by decide +kernel
theorem dX1_changeAt_70 : decode cX1_changeAt 70 = .ok (.sipush 256, 3) := by decide +kernel
theorem dX1_changeAt_73 : decode cX1_changeAt 73 = .ok (.irem, 1) := by decide +kernel
theorem dX1_changeAt_74 : decode cX1_changeAt 74 = .ok (.invokevirtual 67, 3) := by decide +kernel
theorem dX1_changeAt_77 : decode cX1_changeAt 77 = .ok (.goto 79, 3) := by decide +kernel
theorem dX1_changeAt_80 : decode cX1_changeAt 80 = .ok (.aload_n 0, 1) := by decide +kernel
theorem dX1_changeAt_81 : decode cX1_changeAt 81 = .ok (.getfield 10, 3) := by decide +kernel
theorem dX1_changeAt_84 : decode cX1_changeAt 84 = .ok (.aload_n 1, 1) := by decide +kernel
theorem dX1_changeAt_85 : decode cX1_changeAt 85 = .ok (.iload_n 3, 1) := by decide +kernel
theorem dX1_changeAt_86 : decode cX1_changeAt 86 = .ok (.iload 6, 2) := by decide +kernel
theorem dX1_changeAt_88 : decode cX1_changeAt 88 = .ok (.invokevirtual 71, 3) := by decide +kernel
theorem dX1_changeAt_91 : decode cX1_changeAt 91 = .ok (.aload_n 1, 1) := by decide +kernel
theorem dX1_changeAt_92 : decode cX1_changeAt 92 = .ok (.aload_n 0, 1) := by decide +kernel
theorem dX1_changeAt_93 : decode cX1_changeAt 93 = .ok (.getfield 10, 3) := by decide +kernel
theorem dX1_changeAt_96 : decode cX1_changeAt 96 = .ok (.invokevirtual 52, 3) := by decide +kernel
theorem dX1_changeAt_99 : decode cX1_changeAt 99 = .ok (.goto 57, 3) := by decide +kernel
theorem dX1_changeAt_102 : decode cX1_changeAt 102 = .ok (.aload_n 0, 1) := by decide +kernel
theorem dX1_changeAt_103 : decode cX1_changeAt 103 = .ok (.getfield 10, 3) := by decide +kernel
theorem dX1_changeAt_106 : decode cX1_changeAt 106 = .ok (.aload_n 1, 1) := by decide +kernel
theorem dX1_changeAt_107 : decode cX1_changeAt 107 = .ok (.iload 6, 2) := by decide +kernel
theorem dX1_changeAt_109 : decode cX1_changeAt 109 = .ok (.iload_n 3, 1) := by decide +kernel
theorem dX1_changeAt_110 : decode cX1_changeAt 110 = .ok (.invokevirtual 71, 3) := by decide +kernel
theorem dX1_changeAt_113 : decode cX1_changeAt 113 = .ok (.aload_n 1, 1) := by decide +kernel
theorem dX1_changeAt_114 : decode cX1_changeAt 114 = .ok (.aload_n 0, 1) := by decide +kernel
theorem dX1_changeAt_115 : decode cX1_changeAt 115 = .ok (.getfield 10, 3) := by decide +kernel
theorem dX1_changeAt_118 : decode cX1_changeAt 118 = .ok (.invokevirtual 52, 3) := by decide +kernel
theorem dX1_changeAt_121 : decode cX1_changeAt 121 = .ok (.goto 35, 3) := by decide +kernel
theorem dX1_changeAt_124 : decode cX1_changeAt 124 = .ok (.aload_n 1, 1) := by decide +kernel
theorem dX1_changeAt_125 : decode cX1_changeAt 125 = .ok (.iload_n 3, 1) := by decide +kernel
theorem dX1_changeAt_126 : decode cX1_changeAt 126 = .ok (.iload 4, 2) := by decide +kernel
theorem dX1_changeAt_128 : decode cX1_changeAt 128 = .ok (.iconst 2, 1) := by decide +kernel
theorem dX1_changeAt_129 : decode cX1_changeAt 129 = .ok (.irem, 1) := by decide +kernel
theorem dX1_changeAt_130 : decode cX1_changeAt 130 = .ok (.iconst 1, 1) := by decide +kernel
theorem dX1_changeAt_131 : decode cX1_changeAt 131 = .ok (.if_icmp .ne 10, 3) := by decide +kernel
theorem dX1_changeAt_134 : decode cX1_changeAt 134 = .ok (.iload 5, 2) := by decide +kernel
theorem dX1_changeAt_136 : decode cX1_changeAt 136 = .ok (.iconst 1, 1) := by decide +kernel
theorem dX1_changeAt_137 : decode cX1_changeAt 137 = .ok (.iadd, 1) := by decide +kernel
theorem dX1_changeAt_138 : decode cX1_changeAt 138 = .ok (.goto 11, 3) := by decide +kernel
theorem dX1_changeAt_141 : decode cX1_changeAt 141 = .ok (.iload 5, 2) := by decide +kernel
theorem dX1_changeAt_143 : decode cX1_changeAt 143 = .ok (.sipush 256, 3) := by decide +kernel
theorem dX1_changeAt_146 : decode cX1_changeAt 146 = .ok (.iadd, 1) := by decide +kernel
theorem dX1_changeAt_147 : decode cX1_changeAt 147 = .ok (.iconst 1, 1) := by decide +kernel
theorem dX1_changeAt_148 : decode cX1_changeAt 148 = .ok (.isub, 1) := by decide +kernel
theorem dX1_changeAt_149 : decode cX1_changeAt 149 = .ok (.sipush 256, 3) := by decide +kernel
theorem dX1_changeAt_152 : decode cX1_changeAt 152 = .ok (.irem, 1) := by decide +kernel
theorem dX1_changeAt_153 : decode cX1_changeAt 153 = .ok (.invokevirtual 67, 3) := by decide +kernel
theorem dX1_changeAt_156 : decode cX1_changeAt 156 = .ok (.return_, 1) := by decide +kernel
theorem dX2_init_0 : decode cX2_init 0 = .ok (.aload_n 0, 1) := by decide +kernel
theorem dX2_init_1 : decode cX2_init 1 = .ok (.invokespecial 1, 3) := by decide +kernel
theorem dX2_init_4 : decode cX2_init 4 = .ok (.aload_n 0, 1) := by decide +kernel
theorem dX2_init_5 : decode cX2_init 5 = .ok (.new 7, 3) := by decide +kernel
theorem dX2_init_8 : decode cX2_init 8 = .ok (.dup, 1) := by decide +kernel
theorem dX2_init_9 : decode cX2_init 9 = .ok (.invokespecial 9, 3) := by decide +kernel
theorem dX2_init_12 : decode cX2_init 12 = .ok (.putfield 10, 3) := by decide +kernel
theorem dX2_init_15 : decode cX2_init 15 = .ok (.aload_n 0, 1) := by decide +kernel
theorem dX2_init_16 : decode cX2_init 16 = .ok (.new 7, 3) := by decide +kernel
theorem dX2_init_19 : decode cX2_init 19 = .ok (.dup, 1) := by decide +kernel
theorem dX2_init_20 : decode cX2_init 20 = .ok (.invokespecial 9, 3) := by decide +kernel
theorem dX2_init_23 : decode cX2_init 23 = .ok (.putfield 16, 3) := by decide +kernel
theorem dX2_init_26 : decode cX2_init 26 = .ok (.aload_n 0, 1) := by decide +kernel
theorem dX2_init_27 : decode cX2_init 27 = .ok (.new 19, 3) := by decide +kernel
theorem dX2_init_30 : decode cX2_init 30 = .ok (.dup, 1) := by decide +kernel
theorem dX2_init_31 : decode cX2_init 31 = .ok (.invokespecial 21, 3) := by decide +kernel
theorem dX2_init_34 : decode cX2_init 34 = .ok (.putfield 22, 3) := by decide +kernel
theorem dX2_init_37 : decode cX2_init 37 = .ok (.aload_n 0, 1) := by decide +kernel
theorem dX2_init_38 : decode cX2_init 38 = .ok (.iconst 0, 1) := by decide +kernel
theorem dX2_init_39 : decode cX2_init 39 = .ok (.putfield 26, 3) := by decide +kernel
theorem dX2_init_42 : decode cX2_init 42 = .ok (.return_, 1) := by decide +kernel
theorem dX2_result_0 : decode cX2_result 0 = .ok (.aload_n 0, 1) := by decide +kernel
theorem dX2_result_1 : decode cX2_result 1 = .ok (.getfield 10, 3) := by decide +kernel
theorem dX2_result_4 : decode cX2_result 4 = .ok (.areturn, 1) := by decide +kernel
theorem dX2_runsMade_0 : decode cX2_runsMade 0 = .ok (.aload_n 0, 1) := by decide +kernel
theorem dX2_runsMade_1 : decode cX2_runsMade 1 = .ok (.getfield 26, 3) := by decide +kernel
theorem dX2_runsMade_4 : decode cX2_runsMade 4 = .ok (.ireturn, 1) := by decide +kernel
theorem dX2_shrink_0 : decode cX2_shrink 0 = .ok (.aload_n 2, 1) := by decide +kernel
theorem dX2_shrink_1 : decode cX2_shrink 1 = .ok (.invokevirtual 30, 3) := by decide +kernel
theorem dX2_shrink_4 : decode cX2_shrink 4 = .ok (.iload_n 3, 1) := by decide +kernel
theorem dX2_shrink_5 : decode cX2_shrink 5 = .ok (.aload_n 0, 1) := by decide +kernel
theorem dX2_shrink_6 : decode cX2_shrink 6 = .ok (.getfield 10, 3) := by decide +kernel
theorem dX2_shrink_9 : decode cX2_shrink 9 = .ok (.invokevirtual 36, 3) := by decide +kernel
theorem dX2_shrink_12 : decode cX2_shrink 12 = .ok (.aload_n 0, 1) := by decide +kernel
theorem dX2_shrink_13 : decode cX2_shrink 13 = .ok (.iconst 0, 1) := by decide +kernel
theorem dX2_shrink_14 : decode cX2_shrink 14 = .ok (.putfield 26, 3) := by decide +kernel
theorem dX2_shrink_17 : decode cX2_shrink 17 = .ok (.iconst 1, 1) := by decide +kernel
theorem dX2_shrink_18 : decode cX2_shrink 18 = .ok (.istore 4, 2) := by decide +kernel
theorem dX2_shrink_20 : decode cX2_shrink 20 = .ok (.iconst 0, 1) := by decide +kernel
theorem dX2_shrink_21 : decode cX2_shrink 21 = .ok (.istore 5, 2) := by decide +kernel
theorem dX2_shrink_23 : decode cX2_shrink 23 = .ok (.iload 5, 2) := by decide +kernel
theorem dX2_shrink_25 : decode cX2_shrink 25 = .ok (.ldc 42, 2) := by decide +kernel
theorem dX2_shrink_27 : decode cX2_shrink 27 = .ok (.if_icmp .ge 58, 3) := by decide +kernel
theorem dX2_shrink_30 : decode cX2_shrink 30 = .ok (.iload 4, 2) := by decide +kernel
theorem dX2_shrink_32 : decode cX2_shrink 32 = .ok (.ifCond .eq 53, 3) := by decide +kernel
theorem dX2_shrink_35 : decode cX2_shrink 35 = .ok (.aload_n 0, 1) := by decide +kernel
theorem dX2_shrink_36 : decode cX2_shrink 36 = .ok (.aload_n 1, 1) := by decide +kernel
theorem dX2_shrink_37 : decode cX2_shrink 37 = .ok (.aload_n 2, 1) := by decide +kernel
theorem dX2_shrink_38 : decode cX2_shrink 38 = .ok (.iload_n 3, 1) := by decide +kernel
theorem dX2_shrink_39 : decode cX2_shrink 39 = .ok (.invokevirtual 43, 3) := by decide +kernel
theorem dX2_shrink_42 : decode cX2_shrink 42 = .ok (.istore 4, 2) := by decide +kernel
theorem dX2_shrink_44 : decode cX2_shrink 44 = .ok (.iconst 0, 1) := by decide +kernel
theorem dX2_shrink_45 : decode cX2_shrink 45 = .ok (.istore 6, 2) := by decide +kernel
theorem dX2_shrink_47 : decode cX2_shrink 47 = .ok (.iload 6, 2) := by decide +kernel
theorem dX2_shrink_49 : decode cX2_shrink 49 = .ok (.aload_n 0, 1) := by decide +kernel
theorem dX2_shrink_50 : decode cX2_shrink 50 = .ok (.getfield 10, 3) := by decide +kernel
theorem dX2_shrink_53 : decode cX2_shrink 53 = .ok (.invokevirtual 47, 3) := by decide +kernel
theorem dX2_shrink_56 : decode cX2_shrink 56 = .ok (.if_icmp .ge 23, 3) := by decide +kernel
theorem dX2_shrink_59 : decode cX2_shrink 59 = .ok (.iload 4, 2) := by decide +kernel
theorem dX2_shrink_61 : decode cX2_shrink 61 = .ok (.aload_n 0, 1) := by decide +kernel
theorem dX2_shrink_62 : decode cX2_shrink 62 = .ok (.aload_n 1, 1) := by decide +kernel
theorem dX2_shrink_63 : decode cX2_shrink 63 = .ok (.aload_n 2, 1) := by decide +kernel
theorem dX2_shrink_64 : decode cX2_shrink 64 = .ok (.iload_n 3, 1) := by decide +kernel
theorem dX2_shrink_65 : decode cX2_shrink 65 = .ok (.iload 6, 2) := by decide +kernel
theorem dX2_shrink_67 : decode cX2_shrink 67 = .ok (.invokevirtual 51, 3) := by decide +kernel
theorem dX2_shrink_70 : decode cX2_shrink 70 = .ok (.ior, 1) := by decide +kernel
theorem dX2_shrink_71 : decode cX2_shrink 71 = .ok (.istore 4, 2) := by decide +kernel
theorem dX2_shrink_73 : decode cX2_shrink 73 = .ok (.iinc 6 1, 3) := by decide +kernel
theorem dX2_shrink_76 : decode cX2_shrink 76 = .ok (.goto (-29), 3) := by decide +kernel
theorem dX2_shrink_79 : decode cX2_shrink 79 = .ok (.iinc 5 1, 3) := by decide +kernel
theorem dX2_shrink_82 : decode cX2_shrink 82 = .ok (.goto (-59), 3) := by decide +kernel
theorem dX2_shrink_85 : decode cX2_shrink 85 = .ok (.return_, 1) := by decide +kernel
theorem dX2_leaveOut_0 : decode cX2_leaveOut 0 = .ok (.iconst 0, 1) := by decide +kernel
theorem dX2_leaveOut_1 : decode cX2_leaveOut 1 = .ok (.istore 4, 2) := by decide +kernel
theorem dX2_leaveOut_3 : decode cX2_leaveOut 3 = .ok (.aload_n 0, 1) := by decide +kernel
theorem dX2_leaveOut_4 : decode cX2_leaveOut 4 = .ok (.getfield 10, 3) := by decide +kernel
theorem dX2_leaveOut_7 : decode cX2_leaveOut 7 = .ok (.invokevirtual 47, 3) := by decide +kernel
theorem dX2_leaveOut_10 : decode cX2_leaveOut 10 = .ok (.iconst 1, 1) := by decide +kernel
theorem dX2_leaveOut_11 : decode cX2_leaveOut 11 = .ok (.iadd, 1) := by decide +kernel
theorem dX2_leaveOut_12 : decode cX2_leaveOut 12 = .ok (.iconst 2, 1) := by decide +kernel
theorem dX2_leaveOut_13 : decode cX2_leaveOut 13 = .ok (.idiv, 1) := by decide +kernel
theorem dX2_leaveOut_14 : decode cX2_leaveOut 14 = .ok (.istore 5, 2) := by decide +kernel
theorem dX2_leaveOut_16 : decode cX2_leaveOut 16 = .ok (.iload 5, 2) := by decide +kernel
theorem dX2_leaveOut_18 : decode cX2_leaveOut 18 = .ok (.ifCond .le 84, 3) := by decide +kernel
theorem dX2_leaveOut_21 : decode cX2_leaveOut 21 = .ok (.iconst 0, 1) := by decide +kernel
theorem dX2_leaveOut_22 : decode cX2_leaveOut 22 = .ok (.istore 6, 2) := by decide +kernel
theorem dX2_leaveOut_24 : decode cX2_leaveOut 24 = .ok (.iconst 0, 1) := by decide +kernel
theorem dX2_leaveOut_25 : decode cX2_leaveOut 25 = .ok (.istore 7, 2) := by decide +kernel
theorem dX2_leaveOut_27 : decode cX2_leaveOut 27 = .ok (.iload 7, 2) := by decide +kernel
theorem dX2_leaveOut_29 : decode cX2_leaveOut 29 = .ok (.bipush 24, 2) := by decide +kernel
theorem dX2_leaveOut_31 : decode cX2_leaveOut 31 = .ok (.if_icmp .ge 62, 3) := by decide +kernel
theorem dX2_leaveOut_34 : decode cX2_leaveOut 34 = .ok (.iload 6, 2) := by decide +kernel
theorem dX2_leaveOut_36 : decode cX2_leaveOut 36 = .ok (.aload_n 0, 1) := by decide +kernel
theorem dX2_leaveOut_37 : decode cX2_leaveOut 37 = .ok (.getfield 10, 3) := by decide +kernel
theorem dX2_leaveOut_40 : decode cX2_leaveOut 40 = .ok (.invokevirtual 47, 3) := by decide +kernel
theorem dX2_leaveOut_43 : decode cX2_leaveOut 43 = .ok (.if_icmp .ge 50, 3) := by decide +kernel
theorem dX2_leaveOut_46 : decode cX2_leaveOut 46 = .ok (.aload_n 0, 1) := by decide +kernel
theorem dX2_leaveOut_47 : decode cX2_leaveOut 47 = .ok (.getfield 16, 3) := by decide +kernel
theorem dX2_leaveOut_50 : decode cX2_leaveOut 50 = .ok (.aload_n 0, 1) := by decide +kernel
theorem dX2_leaveOut_51 : decode cX2_leaveOut 51 = .ok (.getfield 10, 3) := by decide +kernel
theorem dX2_leaveOut_54 : decode cX2_leaveOut 54 = .ok (.iload 6, 2) := by decide +kernel
theorem dX2_leaveOut_56 : decode cX2_leaveOut 56 = .ok (.iload 6, 2) := by decide +kernel
theorem dX2_leaveOut_58 : decode cX2_leaveOut 58 = .ok (.iload 5, 2) := by decide +kernel
theorem dX2_leaveOut_60 : decode cX2_leaveOut 60 = .ok (.iadd, 1) := by decide +kernel
theorem dX2_leaveOut_61 : decode cX2_leaveOut 61 = .ok (.invokevirtual 55, 3) := by decide +kernel
theorem dX2_leaveOut_64 : decode cX2_leaveOut 64 = .ok (.aload_n 0, 1) := by decide +kernel
theorem dX2_leaveOut_65 : decode cX2_leaveOut 65 = .ok (.aload_n 1, 1) := by decide +kernel
theorem dX2_leaveOut_66 : decode cX2_leaveOut 66 = .ok (.aload_n 2, 1) := by decide +kernel
theorem dX2_leaveOut_67 : decode cX2_leaveOut 67 = .ok (.iload_n 3, 1) := by decide +kernel
theorem dX2_leaveOut_68 : decode cX2_leaveOut 68 = .ok (.invokevirtual 59, 3) := by decide +kernel
theorem dX2_leaveOut_71 : decode cX2_leaveOut 71 = .ok (.ifCond .eq 9, 3) := by decide +kernel
theorem dX2_leaveOut_74 : decode cX2_leaveOut 74 = .ok (.iconst 1, 1) := by decide +kernel
theorem dX2_leaveOut_75 : decode cX2_leaveOut 75 = .ok (.istore 4, 2) := by decide +kernel
theorem dX2_leaveOut_77 : decode cX2_leaveOut 77 = .ok (.goto 10, 3) := by decide +kernel
theorem dX2_leaveOut_80 : decode cX2_leaveOut 80 = .ok (.iload 6, 2) := by decide +kernel
theorem dX2_leaveOut_82 : decode cX2_leaveOut 82 = .ok (.iload 5, 2) := by decide +kernel
theorem dX2_leaveOut_84 : decode cX2_leaveOut 84 = .ok (.iadd, 1) := by decide +kernel
theorem dX2_leaveOut_85 : decode cX2_leaveOut 85 = .ok (.istore 6, 2) := by decide +kernel
theorem dX2_leaveOut_87 : decode cX2_leaveOut 87 = .ok (.iinc 7 1, 3) := by decide +kernel
theorem dX2_leaveOut_90 : decode cX2_leaveOut 90 = .ok (.goto (-63), 3) := by decide +kernel
theorem dX2_leaveOut_93 : decode cX2_leaveOut 93 = .ok (.iload 5, 2) := by decide +kernel
theorem dX2_leaveOut_95 : decode cX2_leaveOut 95 = .ok (.iconst 2, 1) := by decide +kernel
theorem dX2_leaveOut_96 : decode cX2_leaveOut 96 = .ok (.idiv, 1) := by decide +kernel
theorem dX2_leaveOut_97 : decode cX2_leaveOut 97 = .ok (.istore 5, 2) := by decide +kernel
theorem dX2_leaveOut_99 : decode cX2_leaveOut 99 = .ok (.goto (-83), 3) := by decide +kernel
theorem dX2_leaveOut_102 : decode cX2_leaveOut 102 = .ok (.iload 4, 2) := by decide +kernel
theorem dX2_leaveOut_104 : decode cX2_leaveOut 104 = .ok (.ireturn, 1) := by decide +kernel
theorem dX2_lessen_0 : decode cX2_lessen 0 = .ok (.iconst 0, 1) := by decide +kernel
theorem dX2_lessen_1 : decode cX2_lessen 1 = .ok (.istore 5, 2) := by decide +kernel
theorem dX2_lessen_3 : decode cX2_lessen 3 = .ok (.iconst 0, 1) := by decide +kernel
theorem dX2_lessen_4 : decode cX2_lessen 4 = .ok (.istore 6, 2) := by decide +kernel
theorem dX2_lessen_6 : decode cX2_lessen 6 = .ok (.iconst 0, 1) := by decide +kernel
theorem dX2_lessen_7 : decode cX2_lessen 7 = .ok (.istore 7, 2) := by decide +kernel
theorem dX2_lessen_9 : decode cX2_lessen 9 = .ok (.iload 7, 2) := by decide +kernel
theorem dX2_lessen_11 : decode cX2_lessen 11 = .ok (.sipush 768, 3) := by decide +kernel
theorem dX2_lessen_14 : decode cX2_lessen 14 = .ok (.if_icmp .ge 83, 3) := by decide +kernel
theorem dX2_lessen_17 : decode cX2_lessen 17 = .ok (.iload 6, 2) := by decide +kernel
theorem dX2_lessen_19 : decode cX2_lessen 19 = .ok (.iconst 3, 1) := by decide +kernel
theorem dX2_lessen_20 : decode cX2_lessen 20 = .ok (.if_icmp .ge 77, 3) := by decide +kernel
theorem dX2_lessen_23 : decode cX2_lessen 23 = .ok (.aload_n 0, 1) := by decide +kernel
theorem dX2_lessen_24 : decode cX2_lessen 24 = .ok (.getfield 10, 3) := by decide +kernel
theorem dX2_lessen_27 : decode cX2_lessen 27 = .ok (.iload 4, 2) := by decide +kernel
theorem dX2_lessen_29 : decode cX2_lessen 29 = .ok (.invokevirtual 62, 3) := by decide +kernel
theorem dX2_lessen_32 : decode cX2_lessen 32 = .ok (.ifCond .le 65, 3) := by decide +kernel
theorem dX2_lessen_35 : decode cX2_lessen 35 = .ok (.aload_n 0, 1) := by decide +kernel
theorem dX2_lessen_36 : decode cX2_lessen 36 = .ok (.getfield 16, 3) := by decide +kernel
theorem dX2_lessen_39 : decode cX2_lessen 39 = .ok (.aload_n 0, 1) := by decide +kernel
theorem dX2_lessen_40 : decode cX2_lessen 40 = .ok (.getfield 10, 3) := by decide +kernel
theorem dX2_lessen_43 : decode cX2_lessen 43 = .ok (.invokevirtual 66, 3) := by decide +kernel
theorem dX2_lessen_46 : decode cX2_lessen 46 = .ok (.aload_n 0, 1) := by decide +kernel
theorem dX2_lessen_47 : decode cX2_lessen 47 = .ok (.getfield 16, 3) := by decide +kernel
theorem dX2_lessen_50 : decode cX2_lessen 50 = .ok (.iload 4, 2) := by decide +kernel
theorem dX2_lessen_52 : decode cX2_lessen 52 = .ok (.aload_n 0, 1) := by decide +kernel
theorem dX2_lessen_53 : decode cX2_lessen 53 = .ok (.getfield 10, 3) := by decide +kernel
theorem dX2_lessen_56 : decode cX2_lessen 56 = .ok (.iload 4, 2) := by decide +kernel
theorem dX2_lessen_58 : decode cX2_lessen 58 = .ok (.invokevirtual 62, 3) := by decide +kernel
theorem dX2_lessen_61 : decode cX2_lessen 61 = .ok (.iload 6, 2) := by decide +kernel
theorem dX2_lessen_63 : decode cX2_lessen 63 = .ok (.invokestatic 70, 3) := by decide +kernel
theorem dX2_lessen_66 : decode cX2_lessen 66 = .ok (.invokevirtual 74, 3) := by decide +kernel
theorem dX2_lessen_69 : decode cX2_lessen 69 = .ok (.aload_n 0, 1) := by decide +kernel
theorem dX2_lessen_70 : decode cX2_lessen 70 = .ok (.aload_n 1, 1) := by decide +kernel
theorem dX2_lessen_71 : decode cX2_lessen 71 = .ok (.aload_n 2, 1) := by decide +kernel
theorem dX2_lessen_72 : decode cX2_lessen 72 = .ok (.iload_n 3, 1) := by decide +kernel
theorem dX2_lessen_73 : decode cX2_lessen 73 = .ok (.invokevirtual 59, 3) := by decide +kernel
theorem dX2_lessen_76 : decode cX2_lessen 76 = .ok (.ifCond .eq 12, 3) := by decide +kernel
theorem dX2_lessen_79 : decode cX2_lessen 79 = .ok (.iconst 1, 1) := by decide +kernel
theorem dX2_lessen_80 : decode cX2_lessen 80 = .ok (.istore 5, 2) := by decide +kernel
theorem dX2_lessen_82 : decode cX2_lessen 82 = .ok (.iconst 0, 1) := by decide +kernel
theorem dX2_lessen_83 : decode cX2_lessen 83 = .ok (.istore 6, 2) := by decide +kernel
theorem dX2_lessen_85 : decode cX2_lessen 85 = .ok (.goto 6, 3) := by decide +kernel
theorem dX2_lessen_88 : decode cX2_lessen 88 = .ok (.iinc 6 1, 3) := by decide +kernel
theorem dX2_lessen_91 : decode cX2_lessen 91 = .ok (.iinc 7 1, 3) := by decide +kernel
theorem dX2_lessen_94 : decode cX2_lessen 94 = .ok (.goto (-85), 3) := by decide +kernel
theorem dX2_lessen_97 : decode cX2_lessen 97 = .ok (.iload 5, 2) := by decide +kernel
theorem dX2_lessen_99 : decode cX2_lessen 99 = .ok (.ireturn, 1) := by decide +kernel
theorem dX2_lesser_0 : decode cX2_lesser 0 = .ok (.iload_n 1, 1) := by decide +kernel
theorem dX2_lesser_1 : decode cX2_lesser 1 = .ok (.ifCond .ne 5, 3) := by decide +kernel
theorem dX2_lesser_4 : decode cX2_lesser 4 = .ok (.iconst 0, 1) := by decide +kernel
theorem dX2_lesser_5 : decode cX2_lesser 5 = .ok (.ireturn, 1) := by decide +kernel
theorem dX2_lesser_6 : decode cX2_lesser 6 = .ok (.iload_n 1, 1) := by decide +kernel
theorem dX2_lesser_7 : decode cX2_lesser 7 = .ok (.iconst 1, 1) := by decide +kernel
theorem dX2_lesser_8 : decode cX2_lesser 8 = .ok (.if_icmp .ne 9, 3) := by decide +kernel
theorem dX2_lesser_11 : decode cX2_lesser 11 = .ok (.iload_n 0, 1) := by decide +kernel
theorem dX2_lesser_12 : decode cX2_lesser 12 = .ok (.iconst 2, 1) := by decide +kernel
theorem dX2_lesser_13 : decode cX2_lesser 13 = .ok (.idiv, 1) := by decide +kernel
theorem dX2_lesser_14 : decode cX2_lesser 14 = .ok (.goto 6, 3) := by decide +kernel
theorem dX2_lesser_17 : decode cX2_lesser 17 = .ok (.iload_n 0, 1) := by decide +kernel
theorem dX2_lesser_18 : decode cX2_lesser 18 = .ok (.iconst 1, 1) := by decide +kernel
theorem dX2_lesser_19 : decode cX2_lesser 19 = .ok (.isub, 1) := by decide +kernel
theorem dX2_lesser_20 : decode cX2_lesser 20 = .ok (.ireturn, 1) := by decide +kernel
theorem dX2_trialShows_0 : decode cX2_trialShows 0 = .ok (.aload_n 0, 1) := by decide +kernel
theorem dX2_trialShows_1 : decode cX2_trialShows 1 = .ok (.getfield 22, 3) := by decide +kernel
theorem dX2_trialShows_4 : decode cX2_trialShows 4 = .ok (.aload_n 1, 1) := by decide +kernel
theorem dX2_trialShows_5 : decode cX2_trialShows 5 = .ok (.aload_n 0, 1) := by decide +kernel
theorem dX2_trialShows_6 : decode cX2_trialShows 6 = .ok (.getfield 16, 3) := by decide +kernel
theorem dX2_trialShows_9 : decode cX2_trialShows 9 = .ok (.invokevirtual 78, 3) := by decide +kernel
theorem dX2_trialShows_12 : decode cX2_trialShows 12 = .ok (.aload_n 0, 1) := by decide +kernel
theorem dX2_trialShows_13 : decode cX2_trialShows 13 = .ok (.dup, 1) := by decide +kernel
theorem dX2_trialShows_14 : decode cX2_trialShows 14 = .ok (.getfield 26, 3) := by decide +kernel
theorem dX2_trialShows_17 : decode cX2_trialShows 17 = .ok (.iconst 1, 1) := by decide +kernel
theorem dX2_trialShows_18 : decode cX2_trialShows 18 = .ok (.iadd, 1) := by decide +kernel
theorem dX2_trialShows_19 : decode cX2_trialShows 19 = .ok (.putfield 26, 3) := by decide +kernel
theorem dX2_trialShows_22 : decode cX2_trialShows 22 = .ok (.aload_n 2, 1) := by decide +kernel
theorem dX2_trialShows_23 : decode cX2_trialShows 23 = .ok (.iload_n 3, 1) := by decide +kernel
theorem dX2_trialShows_24 : decode cX2_trialShows 24 = .ok (.aload_n 0, 1) := by decide +kernel
theorem dX2_trialShows_25 : decode cX2_trialShows 25 = .ok (.getfield 22, 3) := by decide +kernel
theorem dX2_trialShows_28 : decode cX2_trialShows 28 = .ok (.invokevirtual 82, 3) := by decide +kernel
theorem dX2_trialShows_31 : decode cX2_trialShows 31 = .ok (.ifCond .ne 5, 3) := by decide +kernel
theorem dX2_trialShows_34 : decode cX2_trialShows 34 = .ok (.iconst 0, 1) := by decide +kernel
theorem dX2_trialShows_35 : decode cX2_trialShows 35 = .ok (.ireturn, 1) := by decide +kernel
theorem dX2_trialShows_36 : decode cX2_trialShows 36 = .ok (.aload_n 0, 1) := by decide +kernel
theorem dX2_trialShows_37 : decode cX2_trialShows 37 = .ok (.getfield 10, 3) := by decide +kernel
theorem dX2_trialShows_40 : decode cX2_trialShows 40 = .ok (.aload_n 0, 1) := by decide +kernel
theorem dX2_trialShows_41 : decode cX2_trialShows 41 = .ok (.getfield 16, 3) := by decide +kernel
theorem dX2_trialShows_44 : decode cX2_trialShows 44 = .ok (.invokevirtual 66, 3) := by decide +kernel
theorem dX2_trialShows_47 : decode cX2_trialShows 47 = .ok (.iconst 1, 1) := by decide +kernel
theorem dX2_trialShows_48 : decode cX2_trialShows 48 = .ok (.ireturn, 1) := by decide +kernel
theorem dX3_init_0 : decode cX3_init 0 = .ok (.aload_n 0, 1) := by decide +kernel
theorem dX3_init_1 : decode cX3_init 1 = .ok (.invokespecial 3, 3) := by decide +kernel
theorem dX3_init_4 : decode cX3_init 4 = .ok (.aload_n 0, 1) := by decide +kernel
theorem dX3_init_5 : decode cX3_init 5 = .ok (.bipush 100, 2) := by decide +kernel
theorem dX3_init_7 : decode cX3_init 7 = .ok (.newarray .int, 2) := by decide +kernel
theorem dX3_init_9 : decode cX3_init 9 = .ok (.putfield 11, 3) := by decide +kernel
theorem dX3_init_12 : decode cX3_init 12 = .ok (.aload_n 0, 1) := by decide +kernel
theorem dX3_init_13 : decode cX3_init 13 = .ok (.new 15, 3) := by decide +kernel
theorem dX3_init_16 : decode cX3_init 16 = .ok (.dup, 1) := by decide +kernel
theorem dX3_init_17 : decode cX3_init 17 = .ok (.bipush 20, 2) := by decide +kernel
theorem dX3_init_19 : decode cX3_init 19 = .ok (.invokespecial 17, 3) := by decide +kernel
theorem dX3_init_22 : decode cX3_init 22 = .ok (.putfield 20, 3) := by decide +kernel
theorem dX3_init_25 : decode cX3_init 25 = .ok (.return_, 1) := by decide +kernel
theorem dX3_size_0 : decode cX3_size 0 = .ok (.aload_n 0, 1) := by decide +kernel
theorem dX3_size_1 : decode cX3_size 1 = .ok (.getfield 20, 3) := by decide +kernel
theorem dX3_size_4 : decode cX3_size 4 = .ok (.invokevirtual 24, 3) := by decide +kernel
theorem dX3_size_7 : decode cX3_size 7 = .ok (.ireturn, 1) := by decide +kernel
theorem dX3_has_0 : decode cX3_has 0 = .ok (.iload_n 1, 1) := by decide +kernel
theorem dX3_has_1 : decode cX3_has 1 = .ok (.ifCond .lt 24, 3) := by decide +kernel
theorem dX3_has_4 : decode cX3_has 4 = .ok (.iload_n 1, 1) := by decide +kernel
theorem dX3_has_5 : decode cX3_has 5 = .ok (.bipush 20, 2) := by decide +kernel
theorem dX3_has_7 : decode cX3_has 7 = .ok (.if_icmp .ge 18, 3) := by decide +kernel
theorem dX3_has_10 : decode cX3_has 10 = .ok (.iload_n 1, 1) := by decide +kernel
theorem dX3_has_11 : decode cX3_has 11 = .ok (.aload_n 0, 1) := by decide +kernel
theorem dX3_has_12 : decode cX3_has 12 = .ok (.getfield 20, 3) := by decide +kernel
theorem dX3_has_15 : decode cX3_has 15 = .ok (.invokevirtual 24, 3) := by decide +kernel
theorem dX3_has_18 : decode cX3_has 18 = .ok (.if_icmp .ge 7, 3) := by decide +kernel
theorem dX3_has_21 : decode cX3_has 21 = .ok (.iconst 1, 1) := by decide +kernel
theorem dX3_has_22 : decode cX3_has 22 = .ok (.goto 4, 3) := by decide +kernel
theorem dX3_has_25 : decode cX3_has 25 = .ok (.iconst 0, 1) := by decide +kernel
theorem dX3_has_26 : decode cX3_has 26 = .ok (.ireturn, 1) := by decide +kernel
theorem dX3_firsts_0 : decode cX3_firsts 0 = .ok (.aload_n 0, 1) := by decide +kernel
theorem dX3_firsts_1 : decode cX3_firsts 1 = .ok (.getfield 20, 3) := by decide +kernel
theorem dX3_firsts_4 : decode cX3_firsts 4 = .ok (.areturn, 1) := by decide +kernel
theorem dX3_part_0 : decode cX3_part 0 = .ok (.aload_n 0, 1) := by decide +kernel
theorem dX3_part_1 : decode cX3_part 1 = .ok (.iload_n 1, 1) := by decide +kernel
theorem dX3_part_2 : decode cX3_part 2 = .ok (.invokevirtual 28, 3) := by decide +kernel
theorem dX3_part_5 : decode cX3_part 5 = .ok (.ifCond .eq 25, 3) := by decide +kernel
theorem dX3_part_8 : decode cX3_part 8 = .ok (.iload_n 2, 1) := by decide +kernel
theorem dX3_part_9 : decode cX3_part 9 = .ok (.ifCond .lt 21, 3) := by decide +kernel
theorem dX3_part_12 : decode cX3_part 12 = .ok (.iload_n 2, 1) := by decide +kernel
theorem dX3_part_13 : decode cX3_part 13 = .ok (.iconst 5, 1) := by decide +kernel
theorem dX3_part_14 : decode cX3_part 14 = .ok (.if_icmp .ge 16, 3) := by decide +kernel
theorem dX3_part_17 : decode cX3_part 17 = .ok (.aload_n 0, 1) := by decide +kernel
theorem dX3_part_18 : decode cX3_part 18 = .ok (.getfield 11, 3) := by decide +kernel
theorem dX3_part_21 : decode cX3_part 21 = .ok (.iload_n 1, 1) := by decide +kernel
theorem dX3_part_22 : decode cX3_part 22 = .ok (.iconst 5, 1) := by decide +kernel
theorem dX3_part_23 : decode cX3_part 23 = .ok (.imul, 1) := by decide +kernel
theorem dX3_part_24 : decode cX3_part 24 = .ok (.iload_n 2, 1) := by decide +kernel
theorem dX3_part_25 : decode cX3_part 25 = .ok (.iadd, 1) := by decide +kernel
theorem dX3_part_26 : decode cX3_part 26 = .ok (.iaload, 1) := by decide +kernel
theorem dX3_part_27 : decode cX3_part 27 = .ok (.goto 4, 3) := by decide +kernel
theorem dX3_part_30 : decode cX3_part 30 = .ok (.iconst (-1), 1) := by decide +kernel
theorem dX3_part_31 : decode cX3_part 31 = .ok (.ireturn, 1) := by decide +kernel
theorem dX3_matches_0 : decode cX3_matches 0 = .ok (.aload_n 0, 1) := by decide +kernel
theorem dX3_matches_1 : decode cX3_matches 1 = .ok (.iload_n 1, 1) := by decide +kernel
theorem dX3_matches_2 : decode cX3_matches 2 = .ok (.invokevirtual 28, 3) := by decide +kernel
theorem dX3_matches_5 : decode cX3_matches 5 = .ok (.ifCond .ne 5, 3) := by decide +kernel
theorem dX3_matches_8 : decode cX3_matches 8 = .ok (.iconst 0, 1) := by decide +kernel
theorem dX3_matches_9 : decode cX3_matches 9 = .ok (.ireturn, 1) := by decide +kernel
theorem dX3_matches_10 : decode cX3_matches 10 = .ok (.iload_n 1, 1) := by decide +kernel
theorem dX3_matches_11 : decode cX3_matches 11 = .ok (.iconst 5, 1) := by decide +kernel
theorem dX3_matches_12 : decode cX3_matches 12 = .ok (.imul, 1) := by decide +kernel
theorem dX3_matches_13 : decode cX3_matches 13 = .ok (.istore_n 3, 1) := by decide +kernel
theorem dX3_matches_14 : decode cX3_matches 14 = .ok (.aload_n 0, 1) := by decide +kernel
theorem dX3_matches_15 : decode cX3_matches 15 = .ok (.getfield 11, 3) := by decide +kernel
theorem dX3_matches_18 : decode cX3_matches 18 = .ok (.iload_n 3, 1) := by decide +kernel
theorem dX3_matches_19 : decode cX3_matches 19 = .ok (.iconst 0, 1) := by decide +kernel
theorem dX3_matches_20 : decode cX3_matches 20 = .ok (.iadd, 1) := by decide +kernel
theorem dX3_matches_21 : decode cX3_matches 21 = .ok (.iaload, 1) := by decide +kernel
theorem dX3_matches_22 : decode cX3_matches 22 = .ok (.aload_n 2, 1) := by decide +kernel
theorem dX3_matches_23 : decode cX3_matches 23 = .ok (.invokevirtual 32, 3) := by decide +kernel
theorem dX3_matches_26 : decode cX3_matches 26 = .ok (.if_icmp .ne 54, 3) := by decide +kernel
theorem dX3_matches_29 : decode cX3_matches 29 = .ok (.aload_n 0, 1) := by decide +kernel
theorem dX3_matches_30 : decode cX3_matches 30 = .ok (.getfield 11, 3) := by decide +kernel
theorem dX3_matches_33 : decode cX3_matches 33 = .ok (.iload_n 3, 1) := by decide +kernel
theorem dX3_matches_34 : decode cX3_matches 34 = .ok (.iconst 1, 1) := by decide +kernel
theorem dX3_matches_35 : decode cX3_matches 35 = .ok (.iadd, 1) := by decide +kernel
theorem dX3_matches_36 : decode cX3_matches 36 = .ok (.iaload, 1) := by decide +kernel
theorem dX3_matches_37 : decode cX3_matches 37 = .ok (.aload_n 2, 1) := by decide +kernel
theorem dX3_matches_38 : decode cX3_matches 38 = .ok (.invokevirtual 37, 3) := by decide +kernel
theorem dX3_matches_41 : decode cX3_matches 41 = .ok (.if_icmp .ne 39, 3) := by decide +kernel
theorem dX3_matches_44 : decode cX3_matches 44 = .ok (.aload_n 0, 1) := by decide +kernel
theorem dX3_matches_45 : decode cX3_matches 45 = .ok (.getfield 11, 3) := by decide +kernel
theorem dX3_matches_48 : decode cX3_matches 48 = .ok (.iload_n 3, 1) := by decide +kernel
theorem dX3_matches_49 : decode cX3_matches 49 = .ok (.iconst 2, 1) := by decide +kernel
theorem dX3_matches_50 : decode cX3_matches 50 = .ok (.iadd, 1) := by decide +kernel
theorem dX3_matches_51 : decode cX3_matches 51 = .ok (.iaload, 1) := by decide +kernel
theorem dX3_matches_52 : decode cX3_matches 52 = .ok (.aload_n 2, 1) := by decide +kernel
theorem dX3_matches_53 : decode cX3_matches 53 = .ok (.iconst 0, 1) := by decide +kernel
theorem dX3_matches_54 : decode cX3_matches 54 = .ok (.invokevirtual 40, 3) := by decide +kernel
theorem dX3_matches_57 : decode cX3_matches 57 = .ok (.if_icmp .ne 23, 3) := by decide +kernel
theorem dX3_matches_60 : decode cX3_matches 60 = .ok (.aload_n 0, 1) := by decide +kernel
theorem dX3_matches_61 : decode cX3_matches 61 = .ok (.getfield 11, 3) := by decide +kernel
theorem dX3_matches_64 : decode cX3_matches 64 = .ok (.iload_n 3, 1) := by decide +kernel
theorem dX3_matches_65 : decode cX3_matches 65 = .ok (.iconst 3, 1) := by decide +kernel
theorem dX3_matches_66 : decode cX3_matches 66 = .ok (.iadd, 1) := by decide +kernel
theorem dX3_matches_67 : decode cX3_matches 67 = .ok (.iaload, 1) := by decide +kernel
theorem dX3_matches_68 : decode cX3_matches 68 = .ok (.aload_n 2, 1) := by decide +kernel
theorem dX3_matches_69 : decode cX3_matches 69 = .ok (.iconst 1, 1) := by decide +kernel
theorem dX3_matches_70 : decode cX3_matches 70 = .ok (.invokevirtual 40, 3) := by decide +kernel
theorem dX3_matches_73 : decode cX3_matches 73 = .ok (.if_icmp .ne 7, 3) := by decide +kernel
theorem dX3_matches_76 : decode cX3_matches 76 = .ok (.iconst 1, 1) := by decide +kernel
theorem dX3_matches_77 : decode cX3_matches 77 = .ok (.goto 4, 3) := by decide +kernel
theorem dX3_matches_80 : decode cX3_matches 80 = .ok (.iconst 0, 1) := by decide +kernel
theorem dX3_matches_81 : decode cX3_matches 81 = .ok (.ireturn, 1) := by decide +kernel
theorem dX3_take_0 : decode cX3_take 0 = .ok (.aload_n 1, 1) := by decide +kernel
theorem dX3_take_1 : decode cX3_take 1 = .ok (.invokevirtual 32, 3) := by decide +kernel
theorem dX3_take_4 : decode cX3_take 4 = .ok (.ifCond .ne 5, 3) := by decide +kernel
theorem dX3_take_7 : decode cX3_take 7 = .ok (.iconst 0, 1) := by decide +kernel
theorem dX3_take_8 : decode cX3_take 8 = .ok (.ireturn, 1) := by decide +kernel
theorem dX3_take_9 : decode cX3_take 9 = .ok (.iconst 0, 1) := by decide +kernel
theorem dX3_take_10 : decode cX3_take 10 = .ok (.istore_n 3, 1) := by decide +kernel
theorem dX3_take_11 : decode cX3_take 11 = .ok (.iload_n 3, 1) := by decide +kernel
theorem dX3_take_12 : decode cX3_take 12 = .ok (.aload_n 0, 1) := by decide +kernel
theorem dX3_take_13 : decode cX3_take 13 = .ok (.invokevirtual 44, 3) := by decide +kernel
theorem dX3_take_16 : decode cX3_take 16 = .ok (.if_icmp .ge 40, 3) := by decide +kernel
theorem dX3_take_19 : decode cX3_take 19 = .ok (.iload_n 3, 1) := by decide +kernel
theorem dX3_take_20 : decode cX3_take 20 = .ok (.bipush 20, 2) := by decide +kernel
theorem dX3_take_22 : decode cX3_take 22 = .ok (.if_icmp .ge 34, 3) := by decide +kernel
theorem dX3_take_25 : decode cX3_take 25 = .ok (.aload_n 0, 1) := by decide +kernel
theorem dX3_take_26 : decode cX3_take 26 = .ok (.iload_n 3, 1) := by decide +kernel
theorem dX3_take_27 : decode cX3_take 27 = .ok (.aload_n 1, 1) := by decide +kernel
theorem dX3_take_28 : decode cX3_take 28 = .ok (.invokevirtual 45, 3) := by decide +kernel
theorem dX3_take_31 : decode cX3_take 31 = .ok (.ifCond .eq 19, 3) := by decide +kernel
theorem dX3_take_34 : decode cX3_take 34 = .ok (.aload_n 0, 1) := by decide +kernel
theorem dX3_take_35 : decode cX3_take 35 = .ok (.getfield 11, 3) := by decide +kernel
theorem dX3_take_38 : decode cX3_take 38 = .ok (.iload_n 3, 1) := by decide +kernel
theorem dX3_take_39 : decode cX3_take 39 = .ok (.iconst 5, 1) := by decide +kernel
theorem dX3_take_40 : decode cX3_take 40 = .ok (.imul, 1) := by decide +kernel
theorem dX3_take_41 : decode cX3_take 41 = .ok (.iconst 4, 1) := by decide +kernel
theorem dX3_take_42 : decode cX3_take 42 = .ok (.iadd, 1) := by decide +kernel
theorem dX3_take_43 : decode cX3_take 43 = .ok (.dup2, 1) := by decide +kernel
theorem dX3_take_44 : decode cX3_take 44 = .ok (.iaload, 1) := by decide +kernel
theorem dX3_take_45 : decode cX3_take 45 = .ok (.iconst 1, 1) := by decide +kernel
theorem dX3_take_46 : decode cX3_take 46 = .ok (.iadd, 1) := by decide +kernel
theorem dX3_take_47 : decode cX3_take 47 = .ok (.iastore, 1) := by decide +kernel
theorem dX3_take_48 : decode cX3_take 48 = .ok (.iconst 0, 1) := by decide +kernel
theorem dX3_take_49 : decode cX3_take 49 = .ok (.ireturn, 1) := by decide +kernel
theorem dX3_take_50 : decode cX3_take 50 = .ok (.iinc 3 1, 3) := by decide +kernel
theorem dX3_take_53 : decode cX3_take 53 = .ok (.goto (-42), 3) := by decide +kernel
theorem dX3_take_56 : decode cX3_take 56 = .ok (.aload_n 0, 1) := by decide +kernel
theorem dX3_take_57 : decode cX3_take 57 = .ok (.aload_n 1, 1) := by decide +kernel
theorem dX3_take_58 : decode cX3_take 58 = .ok (.aload_n 2, 1) := by decide +kernel
theorem dX3_take_59 : decode cX3_take 59 = .ok (.invokevirtual 49, 3) := by decide +kernel
theorem dX3_take_62 : decode cX3_take 62 = .ok (.ireturn, 1) := by decide +kernel
theorem dX3_append_0 : decode cX3_append 0 = .ok (.aload_n 0, 1) := by decide +kernel
theorem dX3_append_1 : decode cX3_append 1 = .ok (.invokevirtual 44, 3) := by decide +kernel
theorem dX3_append_4 : decode cX3_append 4 = .ok (.istore_n 3, 1) := by decide +kernel
theorem dX3_append_5 : decode cX3_append 5 = .ok (.iload_n 3, 1) := by decide +kernel
theorem dX3_append_6 : decode cX3_append 6 = .ok (.ifCond .lt 20, 3) := by decide +kernel
theorem dX3_append_9 : decode cX3_append 9 = .ok (.iload_n 3, 1) := by decide +kernel
theorem dX3_append_10 : decode cX3_append 10 = .ok (.bipush 20, 2) := by decide +kernel
theorem dX3_append_12 : decode cX3_append 12 = .ok (.if_icmp .ge 14, 3) := by decide +kernel
theorem dX3_append_15 : decode cX3_append 15 = .ok (.aload_n 0, 1) := by decide +kernel
theorem dX3_append_16 : decode cX3_append 16 = .ok (.getfield 20, 3) := by decide +kernel
theorem dX3_append_19 : decode cX3_append 19 = .ok (.aload_n 2, 1) := by decide +kernel
theorem dX3_append_20 : decode cX3_append 20 = .ok (.invokevirtual 53, 3) := by decide +kernel
theorem dX3_append_23 : decode cX3_append 23 = .ok (.ifCond .ne 5, 3) := by decide +kernel
theorem dX3_append_26 : decode cX3_append 26 = .ok (.iconst 0, 1) := by decide +kernel
theorem dX3_append_27 : decode cX3_append 27 = .ok (.ireturn, 1) := by decide +kernel
theorem dX3_append_28 : decode cX3_append 28 = .ok (.iload_n 3, 1) := by decide +kernel
theorem dX3_append_29 : decode cX3_append 29 = .ok (.iconst 5, 1) := by decide +kernel
theorem dX3_append_30 : decode cX3_append 30 = .ok (.imul, 1) := by decide +kernel
theorem dX3_append_31 : decode cX3_append 31 = .ok (.istore 4, 2) := by decide +kernel
theorem dX3_append_33 : decode cX3_append 33 = .ok (.aload_n 0, 1) := by decide +kernel
theorem dX3_append_34 : decode cX3_append 34 = .ok (.getfield 11, 3) := by decide +kernel
theorem dX3_append_37 : decode cX3_append 37 = .ok (.iload 4, 2) := by decide +kernel
theorem dX3_append_39 : decode cX3_append 39 = .ok (.iconst 0, 1) := by decide +kernel
theorem dX3_append_40 : decode cX3_append 40 = .ok (.iadd, 1) := by decide +kernel
theorem dX3_append_41 : decode cX3_append 41 = .ok (.aload_n 1, 1) := by decide +kernel
theorem dX3_append_42 : decode cX3_append 42 = .ok (.invokevirtual 32, 3) := by decide +kernel
theorem dX3_append_45 : decode cX3_append 45 = .ok (.iastore, 1) := by decide +kernel
theorem dX3_append_46 : decode cX3_append 46 = .ok (.aload_n 0, 1) := by decide +kernel
theorem dX3_append_47 : decode cX3_append 47 = .ok (.getfield 11, 3) := by decide +kernel
theorem dX3_append_50 : decode cX3_append 50 = .ok (.iload 4, 2) := by decide +kernel
theorem dX3_append_52 : decode cX3_append 52 = .ok (.iconst 1, 1) := by decide +kernel
theorem dX3_append_53 : decode cX3_append 53 = .ok (.iadd, 1) := by decide +kernel
theorem dX3_append_54 : decode cX3_append 54 = .ok (.aload_n 1, 1) := by decide +kernel
theorem dX3_append_55 : decode cX3_append 55 = .ok (.invokevirtual 37, 3) := by decide +kernel
theorem dX3_append_58 : decode cX3_append 58 = .ok (.iastore, 1) := by decide +kernel
theorem dX3_append_59 : decode cX3_append 59 = .ok (.aload_n 0, 1) := by decide +kernel
theorem dX3_append_60 : decode cX3_append 60 = .ok (.getfield 11, 3) := by decide +kernel
theorem dX3_append_63 : decode cX3_append 63 = .ok (.iload 4, 2) := by decide +kernel
theorem dX3_append_65 : decode cX3_append 65 = .ok (.iconst 2, 1) := by decide +kernel
theorem dX3_append_66 : decode cX3_append 66 = .ok (.iadd, 1) := by decide +kernel
theorem dX3_append_67 : decode cX3_append 67 = .ok (.aload_n 1, 1) := by decide +kernel
theorem dX3_append_68 : decode cX3_append 68 = .ok (.iconst 0, 1) := by decide +kernel
theorem dX3_append_69 : decode cX3_append 69 = .ok (.invokevirtual 40, 3) := by decide +kernel
theorem dX3_append_72 : decode cX3_append 72 = .ok (.iastore, 1) := by decide +kernel
theorem dX3_append_73 : decode cX3_append 73 = .ok (.aload_n 0, 1) := by decide +kernel
theorem dX3_append_74 : decode cX3_append 74 = .ok (.getfield 11, 3) := by decide +kernel
theorem dX3_append_77 : decode cX3_append 77 = .ok (.iload 4, 2) := by decide +kernel
theorem dX3_append_79 : decode cX3_append 79 = .ok (.iconst 3, 1) := by decide +kernel
theorem dX3_append_80 : decode cX3_append 80 = .ok (.iadd, 1) := by decide +kernel
theorem dX3_append_81 : decode cX3_append 81 = .ok (.aload_n 1, 1) := by decide +kernel
theorem dX3_append_82 : decode cX3_append 82 = .ok (.iconst 1, 1) := by decide +kernel
theorem dX3_append_83 : decode cX3_append 83 = .ok (.invokevirtual 40, 3) := by decide +kernel
theorem dX3_append_86 : decode cX3_append 86 = .ok (.iastore, 1) := by decide +kernel
theorem dX3_append_87 : decode cX3_append 87 = .ok (.aload_n 0, 1) := by decide +kernel
theorem dX3_append_88 : decode cX3_append 88 = .ok (.getfield 11, 3) := by decide +kernel
theorem dX3_append_91 : decode cX3_append 91 = .ok (.iload 4, 2) := by decide +kernel
theorem dX3_append_93 : decode cX3_append 93 = .ok (.iconst 4, 1) := by decide +kernel
theorem dX3_append_94 : decode cX3_append 94 = .ok (.iadd, 1) := by decide +kernel
theorem dX3_append_95 : decode cX3_append 95 = .ok (.iconst 1, 1) := by decide +kernel
theorem dX3_append_96 : decode cX3_append 96 = .ok (.iastore, 1) := by decide +kernel
theorem dX3_append_97 : decode cX3_append 97 = .ok (.iconst 1, 1) := by decide +kernel
theorem dX3_append_98 : decode cX3_append 98 = .ok (.ireturn, 1) := by decide +kernel
theorem dX3_clear_0 : decode cX3_clear 0 = .ok (.aload_n 0, 1) := by decide +kernel
theorem dX3_clear_1 : decode cX3_clear 1 = .ok (.getfield 20, 3) := by decide +kernel
theorem dX3_clear_4 : decode cX3_clear 4 = .ok (.invokevirtual 56, 3) := by decide +kernel
theorem dX3_clear_7 : decode cX3_clear 7 = .ok (.return_, 1) := by decide +kernel
theorem dX4_init_0 : decode cX4_init 0 = .ok (.aload_n 0, 1) := by decide +kernel
theorem dX4_init_1 : decode cX4_init 1 = .ok (.invokespecial 3, 3) := by decide +kernel
theorem dX4_init_4 : decode cX4_init 4 = .ok (.aload_n 0, 1) := by decide +kernel
theorem dX4_init_5 : decode cX4_init 5 = .ok (.bipush 24, 2) := by decide +kernel
theorem dX4_init_7 : decode cX4_init 7 = .ok (.newarray .int, 2) := by decide +kernel
theorem dX4_init_9 : decode cX4_init 9 = .ok (.putfield 11, 3) := by decide +kernel
theorem dX4_init_12 : decode cX4_init 12 = .ok (.aload_n 0, 1) := by decide +kernel
theorem dX4_init_13 : decode cX4_init 13 = .ok (.iconst 0, 1) := by decide +kernel
theorem dX4_init_14 : decode cX4_init 14 = .ok (.putfield 15, 3) := by decide +kernel
theorem dX4_init_17 : decode cX4_init 17 = .ok (.return_, 1) := by decide +kernel
theorem dX4_isByte_0 : decode cX4_isByte 0 = .ok (.iload_n 0, 1) := by decide +kernel
theorem dX4_isByte_1 : decode cX4_isByte 1 = .ok (.ifCond .lt 14, 3) := by decide +kernel
theorem dX4_isByte_4 : decode cX4_isByte 4 = .ok (.iload_n 0, 1) := by decide +kernel
theorem dX4_isByte_5 : decode cX4_isByte 5 = .ok (.sipush 256, 3) := by decide +kernel
theorem dX4_isByte_8 : decode cX4_isByte 8 = .ok (.if_icmp .ge 7, 3) := by decide +kernel
theorem dX4_isByte_11 : decode cX4_isByte 11 = .ok (.iconst 1, 1) := by decide +kernel
theorem dX4_isByte_12 : decode cX4_isByte 12 = .ok (.goto 4, 3) := by decide +kernel
theorem dX4_isByte_15 : decode cX4_isByte 15 = .ok (.iconst 0, 1) := by decide +kernel
theorem dX4_isByte_16 : decode cX4_isByte 16 = .ok (.ireturn, 1) := by decide +kernel
theorem dX4_size_0 : decode cX4_size 0 = .ok (.aload_n 0, 1) := by decide +kernel
theorem dX4_size_1 : decode cX4_size 1 = .ok (.getfield 15, 3) := by decide +kernel
theorem dX4_size_4 : decode cX4_size 4 = .ok (.ireturn, 1) := by decide +kernel
theorem dX4_has_0 : decode cX4_has 0 = .ok (.iload_n 1, 1) := by decide +kernel
theorem dX4_has_1 : decode cX4_has 1 = .ok (.ifCond .lt 21, 3) := by decide +kernel
theorem dX4_has_4 : decode cX4_has 4 = .ok (.iload_n 1, 1) := by decide +kernel
theorem dX4_has_5 : decode cX4_has 5 = .ok (.aload_n 0, 1) := by decide +kernel
theorem dX4_has_6 : decode cX4_has 6 = .ok (.getfield 15, 3) := by decide +kernel
theorem dX4_has_9 : decode cX4_has 9 = .ok (.if_icmp .ge 13, 3) := by decide +kernel
theorem dX4_has_12 : decode cX4_has 12 = .ok (.iload_n 1, 1) := by decide +kernel
theorem dX4_has_13 : decode cX4_has 13 = .ok (.bipush 24, 2) := by decide +kernel
theorem dX4_has_15 : decode cX4_has 15 = .ok (.if_icmp .ge 7, 3) := by decide +kernel
theorem dX4_has_18 : decode cX4_has 18 = .ok (.iconst 1, 1) := by decide +kernel
theorem dX4_has_19 : decode cX4_has 19 = .ok (.goto 4, 3) := by decide +kernel
theorem dX4_has_22 : decode cX4_has 22 = .ok (.iconst 0, 1) := by decide +kernel
theorem dX4_has_23 : decode cX4_has 23 = .ok (.ireturn, 1) := by decide +kernel
theorem dX4_get_0 : decode cX4_get 0 = .ok (.iload_n 1, 1) := by decide +kernel
theorem dX4_get_1 : decode cX4_get 1 = .ok (.ifCond .lt 26, 3) := by decide +kernel
theorem dX4_get_4 : decode cX4_get 4 = .ok (.iload_n 1, 1) := by decide +kernel
theorem dX4_get_5 : decode cX4_get 5 = .ok (.aload_n 0, 1) := by decide +kernel
theorem dX4_get_6 : decode cX4_get 6 = .ok (.getfield 15, 3) := by decide +kernel
theorem dX4_get_9 : decode cX4_get 9 = .ok (.if_icmp .ge 18, 3) := by decide +kernel
theorem dX4_get_12 : decode cX4_get 12 = .ok (.iload_n 1, 1) := by decide +kernel
theorem dX4_get_13 : decode cX4_get 13 = .ok (.bipush 24, 2) := by decide +kernel
theorem dX4_get_15 : decode cX4_get 15 = .ok (.if_icmp .ge 12, 3) := by decide +kernel
theorem dX4_get_18 : decode cX4_get 18 = .ok (.aload_n 0, 1) := by decide +kernel
theorem dX4_get_19 : decode cX4_get 19 = .ok (.getfield 11, 3) := by decide +kernel
theorem dX4_get_22 : decode cX4_get 22 = .ok (.iload_n 1, 1) := by decide +kernel
theorem dX4_get_23 : decode cX4_get 23 = .ok (.iaload, 1) := by decide +kernel
theorem dX4_get_24 : decode cX4_get 24 = .ok (.goto 4, 3) := by decide +kernel
theorem dX4_get_27 : decode cX4_get 27 = .ok (.iconst (-1), 1) := by decide +kernel
theorem dX4_get_28 : decode cX4_get 28 = .ok (.ireturn, 1) := by decide +kernel
theorem dX4_put_0 : decode cX4_put 0 = .ok (.iload_n 1, 1) := by decide +kernel
theorem dX4_put_1 : decode cX4_put 1 = .ok (.ifCond .lt 24, 3) := by decide +kernel
theorem dX4_put_4 : decode cX4_put 4 = .ok (.iload_n 1, 1) := by decide +kernel
theorem dX4_put_5 : decode cX4_put 5 = .ok (.aload_n 0, 1) := by decide +kernel
theorem dX4_put_6 : decode cX4_put 6 = .ok (.getfield 15, 3) := by decide +kernel
theorem dX4_put_9 : decode cX4_put 9 = .ok (.if_icmp .ge 16, 3) := by decide +kernel
theorem dX4_put_12 : decode cX4_put 12 = .ok (.iload_n 1, 1) := by decide +kernel
theorem dX4_put_13 : decode cX4_put 13 = .ok (.bipush 24, 2) := by decide +kernel
theorem dX4_put_15 : decode cX4_put 15 = .ok (.if_icmp .ge 10, 3) := by decide +kernel
theorem dX4_put_18 : decode cX4_put 18 = .ok (.aload_n 0, 1) := by decide +kernel
theorem dX4_put_19 : decode cX4_put 19 = .ok (.getfield 11, 3) := by decide +kernel
theorem dX4_put_22 : decode cX4_put 22 = .ok (.iload_n 1, 1) := by decide +kernel
theorem dX4_put_23 : decode cX4_put 23 = .ok (.iload_n 2, 1) := by decide +kernel
theorem dX4_put_24 : decode cX4_put 24 = .ok (.iastore, 1) := by decide +kernel
theorem dX4_put_25 : decode cX4_put 25 = .ok (.return_, 1) := by decide +kernel
theorem dX4_append_0 : decode cX4_append 0 = .ok (.aload_n 0, 1) := by decide +kernel
theorem dX4_append_1 : decode cX4_append 1 = .ok (.getfield 15, 3) := by decide +kernel
theorem dX4_append_4 : decode cX4_append 4 = .ok (.ifCond .lt 12, 3) := by decide +kernel
theorem dX4_append_7 : decode cX4_append 7 = .ok (.aload_n 0, 1) := by decide +kernel
theorem dX4_append_8 : decode cX4_append 8 = .ok (.getfield 15, 3) := by decide +kernel
theorem dX4_append_11 : decode cX4_append 11 = .ok (.bipush 24, 2) := by decide +kernel
theorem dX4_append_13 : decode cX4_append 13 = .ok (.if_icmp .lt 5, 3) := by decide +kernel
theorem dX4_append_16 : decode cX4_append 16 = .ok (.iconst 0, 1) := by decide +kernel
theorem dX4_append_17 : decode cX4_append 17 = .ok (.ireturn, 1) := by decide +kernel
theorem dX4_append_18 : decode cX4_append 18 = .ok (.aload_n 0, 1) := by decide +kernel
theorem dX4_append_19 : decode cX4_append 19 = .ok (.getfield 11, 3) := by decide +kernel
theorem dX4_append_22 : decode cX4_append 22 = .ok (.aload_n 0, 1) := by decide +kernel
theorem dX4_append_23 : decode cX4_append 23 = .ok (.getfield 15, 3) := by decide +kernel
theorem dX4_append_26 : decode cX4_append 26 = .ok (.iload_n 1, 1) := by decide +kernel
theorem dX4_append_27 : decode cX4_append 27 = .ok (.iastore, 1) := by decide +kernel
theorem dX4_append_28 : decode cX4_append 28 = .ok (.aload_n 0, 1) := by decide +kernel
theorem dX4_append_29 : decode cX4_append 29 = .ok (.dup, 1) := by decide +kernel
theorem dX4_append_30 : decode cX4_append 30 = .ok (.getfield 15, 3) := by decide +kernel
theorem dX4_append_33 : decode cX4_append 33 = .ok (.iconst 1, 1) := by decide +kernel
theorem dX4_append_34 : decode cX4_append 34 = .ok (.iadd, 1) := by decide +kernel
theorem dX4_append_35 : decode cX4_append 35 = .ok (.putfield 15, 3) := by decide +kernel
theorem dX4_append_38 : decode cX4_append 38 = .ok (.iconst 1, 1) := by decide +kernel
theorem dX4_append_39 : decode cX4_append 39 = .ok (.ireturn, 1) := by decide +kernel
theorem dX4_appendPart_0 : decode cX4_appendPart 0 = .ok (.iload_n 2, 1) := by decide +kernel
theorem dX4_appendPart_1 : decode cX4_appendPart 1 = .ok (.istore 4, 2) := by decide +kernel
theorem dX4_appendPart_3 : decode cX4_appendPart 3 = .ok (.iload 4, 2) := by decide +kernel
theorem dX4_appendPart_5 : decode cX4_appendPart 5 = .ok (.iload_n 3, 1) := by decide +kernel
theorem dX4_appendPart_6 : decode cX4_appendPart 6 = .ok (.if_icmp .ge 29, 3) := by decide +kernel
theorem dX4_appendPart_9 : decode cX4_appendPart 9 = .ok (.aload_n 1, 1) := by decide +kernel
theorem dX4_appendPart_10 : decode cX4_appendPart 10 = .ok (.iload 4, 2) := by decide +kernel
theorem dX4_appendPart_12 : decode cX4_appendPart 12 = .ok (.invokevirtual 19, 3) := by decide +kernel
theorem dX4_appendPart_15 : decode cX4_appendPart 15 = .ok (.ifCond .eq 20, 3) := by decide +kernel
theorem dX4_appendPart_18 : decode cX4_appendPart 18 = .ok (.aload_n 0, 1) := by decide +kernel
theorem dX4_appendPart_19 : decode cX4_appendPart 19 = .ok (.aload_n 1, 1) := by decide +kernel
theorem dX4_appendPart_20 : decode cX4_appendPart 20 = .ok (.iload 4, 2) := by decide +kernel
theorem dX4_appendPart_22 : decode cX4_appendPart 22 = .ok (.invokevirtual 23, 3) := by decide +kernel
theorem dX4_appendPart_25 : decode cX4_appendPart 25 = .ok (.invokevirtual 27, 3) := by decide +kernel
theorem dX4_appendPart_28 : decode cX4_appendPart 28 = .ok (.pop, 1) := by decide +kernel
theorem dX4_appendPart_29 : decode cX4_appendPart 29 = .ok (.iinc 4 1, 3) := by decide +kernel
theorem dX4_appendPart_32 : decode cX4_appendPart 32 = .ok (.goto (-29), 3) := by decide +kernel
theorem dX4_appendPart_35 : decode cX4_appendPart 35 = .ok (.return_, 1) := by decide +kernel
theorem dX4_shorten_0 : decode cX4_shorten 0 = .ok (.iload_n 1, 1) := by decide +kernel
theorem dX4_shorten_1 : decode cX4_shorten 1 = .ok (.ifCond .lt 16, 3) := by decide +kernel
theorem dX4_shorten_4 : decode cX4_shorten 4 = .ok (.iload_n 1, 1) := by decide +kernel
theorem dX4_shorten_5 : decode cX4_shorten 5 = .ok (.aload_n 0, 1) := by decide +kernel
theorem dX4_shorten_6 : decode cX4_shorten 6 = .ok (.getfield 15, 3) := by decide +kernel
theorem dX4_shorten_9 : decode cX4_shorten 9 = .ok (.if_icmp .ge 8, 3) := by decide +kernel
theorem dX4_shorten_12 : decode cX4_shorten 12 = .ok (.aload_n 0, 1) := by decide +kernel
theorem dX4_shorten_13 : decode cX4_shorten 13 = .ok (.iload_n 1, 1) := by decide +kernel
theorem dX4_shorten_14 : decode cX4_shorten 14 = .ok (.putfield 15, 3) := by decide +kernel
theorem dX4_shorten_17 : decode cX4_shorten 17 = .ok (.return_, 1) := by decide +kernel
theorem dX4_copy_0 : decode cX4_copy 0 = .ok (.aload_n 0, 1) := by decide +kernel
theorem dX4_copy_1 : decode cX4_copy 1 = .ok (.iconst 0, 1) := by decide +kernel
theorem dX4_copy_2 : decode cX4_copy 2 = .ok (.invokevirtual 30, 3) := by decide +kernel
theorem dX4_copy_5 : decode cX4_copy 5 = .ok (.aload_n 0, 1) := by decide +kernel
theorem dX4_copy_6 : decode cX4_copy 6 = .ok (.aload_n 1, 1) := by decide +kernel
theorem dX4_copy_7 : decode cX4_copy 7 = .ok (.iconst 0, 1) := by decide +kernel
theorem dX4_copy_8 : decode cX4_copy 8 = .ok (.bipush 24, 2) := by decide +kernel
theorem dX4_copy_10 : decode cX4_copy 10 = .ok (.invokevirtual 34, 3) := by decide +kernel
theorem dX4_copy_13 : decode cX4_copy 13 = .ok (.return_, 1) := by decide +kernel
theorem dX4_copyParts_0 : decode cX4_copyParts 0 = .ok (.aload_n 0, 1) := by decide +kernel
theorem dX4_copyParts_1 : decode cX4_copyParts 1 = .ok (.iconst 0, 1) := by decide +kernel
theorem dX4_copyParts_2 : decode cX4_copyParts 2 = .ok (.invokevirtual 30, 3) := by decide +kernel
theorem dX4_copyParts_5 : decode cX4_copyParts 5 = .ok (.aload_n 0, 1) := by decide +kernel
theorem dX4_copyParts_6 : decode cX4_copyParts 6 = .ok (.aload_n 1, 1) := by decide +kernel
theorem dX4_copyParts_7 : decode cX4_copyParts 7 = .ok (.iconst 0, 1) := by decide +kernel
theorem dX4_copyParts_8 : decode cX4_copyParts 8 = .ok (.iload_n 2, 1) := by decide +kernel
theorem dX4_copyParts_9 : decode cX4_copyParts 9 = .ok (.invokevirtual 34, 3) := by decide +kernel
theorem dX4_copyParts_12 : decode cX4_copyParts 12 = .ok (.aload_n 0, 1) := by decide +kernel
theorem dX4_copyParts_13 : decode cX4_copyParts 13 = .ok (.aload_n 1, 1) := by decide +kernel
theorem dX4_copyParts_14 : decode cX4_copyParts 14 = .ok (.iload_n 3, 1) := by decide +kernel
theorem dX4_copyParts_15 : decode cX4_copyParts 15 = .ok (.bipush 24, 2) := by decide +kernel
theorem dX4_copyParts_17 : decode cX4_copyParts 17 = .ok (.invokevirtual 34, 3) := by decide +kernel
theorem dX4_copyParts_20 : decode cX4_copyParts 20 = .ok (.return_, 1) := by decide +kernel
theorem dX5_init_0 : decode cX5_init 0 = .ok (.aload_n 0, 1) := by decide +kernel
theorem dX5_init_1 : decode cX5_init 1 = .ok (.invokespecial 3, 3) := by decide +kernel
theorem dX5_init_4 : decode cX5_init 4 = .ok (.aload_n 0, 1) := by decide +kernel
theorem dX5_init_5 : decode cX5_init 5 = .ok (.sipush 320, 3) := by decide +kernel
theorem dX5_init_8 : decode cX5_init 8 = .ok (.newarray .int, 2) := by decide +kernel
theorem dX5_init_10 : decode cX5_init 10 = .ok (.putfield 11, 3) := by decide +kernel
theorem dX5_init_13 : decode cX5_init 13 = .ok (.aload_n 0, 1) := by decide +kernel
theorem dX5_init_14 : decode cX5_init 14 = .ok (.iconst 0, 1) := by decide +kernel
theorem dX5_init_15 : decode cX5_init 15 = .ok (.putfield 15, 3) := by decide +kernel
theorem dX5_init_18 : decode cX5_init 18 = .ok (.return_, 1) := by decide +kernel
theorem dX5_isPart_0 : decode cX5_isPart 0 = .ok (.iload_n 0, 1) := by decide +kernel
theorem dX5_isPart_1 : decode cX5_isPart 1 = .ok (.ifCond .lt 12, 3) := by decide +kernel
theorem dX5_isPart_4 : decode cX5_isPart 4 = .ok (.iload_n 0, 1) := by decide +kernel
theorem dX5_isPart_5 : decode cX5_isPart 5 = .ok (.iconst 4, 1) := by decide +kernel
theorem dX5_isPart_6 : decode cX5_isPart 6 = .ok (.if_icmp .ge 7, 3) := by decide +kernel
theorem dX5_isPart_9 : decode cX5_isPart 9 = .ok (.iconst 1, 1) := by decide +kernel
theorem dX5_isPart_10 : decode cX5_isPart 10 = .ok (.goto 4, 3) := by decide +kernel
theorem dX5_isPart_13 : decode cX5_isPart 13 = .ok (.iconst 0, 1) := by decide +kernel
theorem dX5_isPart_14 : decode cX5_isPart 14 = .ok (.ireturn, 1) := by decide +kernel
theorem dX5_fits_0 : decode cX5_fits 0 = .ok (.iload_n 0, 1) := by decide +kernel
theorem dX5_fits_1 : decode cX5_fits 1 = .ok (.bipush 17, 2) := by decide +kernel
theorem dX5_fits_3 : decode cX5_fits 3 = .ok (.invokestatic 19, 3) := by decide +kernel
theorem dX5_fits_6 : decode cX5_fits 6 = .ok (.ifCond .eq 71, 3) := by decide +kernel
theorem dX5_fits_9 : decode cX5_fits 9 = .ok (.iload_n 1, 1) := by decide +kernel
theorem dX5_fits_10 : decode cX5_fits 10 = .ok (.iload_n 0, 1) := by decide +kernel
theorem dX5_fits_11 : decode cX5_fits 11 = .ok (.invokestatic 23, 3) := by decide +kernel
theorem dX5_fits_14 : decode cX5_fits 14 = .ok (.ifCond .eq 8, 3) := by decide +kernel
theorem dX5_fits_17 : decode cX5_fits 17 = .ok (.bipush 7, 2) := by decide +kernel
theorem dX5_fits_19 : decode cX5_fits 19 = .ok (.goto 4, 3) := by decide +kernel
theorem dX5_fits_22 : decode cX5_fits 22 = .ok (.iconst 0, 1) := by decide +kernel
theorem dX5_fits_23 : decode cX5_fits 23 = .ok (.invokestatic 19, 3) := by decide +kernel
theorem dX5_fits_26 : decode cX5_fits 26 = .ok (.ifCond .eq 51, 3) := by decide +kernel
theorem dX5_fits_29 : decode cX5_fits 29 = .ok (.iload_n 0, 1) := by decide +kernel
theorem dX5_fits_30 : decode cX5_fits 30 = .ok (.ifCond .eq 23, 3) := by decide +kernel
theorem dX5_fits_33 : decode cX5_fits 33 = .ok (.iload_n 2, 1) := by decide +kernel
theorem dX5_fits_34 : decode cX5_fits 34 = .ok (.iload_n 0, 1) := by decide +kernel
theorem dX5_fits_35 : decode cX5_fits 35 = .ok (.invokestatic 29, 3) := by decide +kernel
theorem dX5_fits_38 : decode cX5_fits 38 = .ok (.ifCond .eq 8, 3) := by decide +kernel
theorem dX5_fits_41 : decode cX5_fits 41 = .ok (.bipush 7, 2) := by decide +kernel
theorem dX5_fits_43 : decode cX5_fits 43 = .ok (.goto 4, 3) := by decide +kernel
theorem dX5_fits_46 : decode cX5_fits 46 = .ok (.iconst 0, 1) := by decide +kernel
theorem dX5_fits_47 : decode cX5_fits 47 = .ok (.invokestatic 19, 3) := by decide +kernel
theorem dX5_fits_50 : decode cX5_fits 50 = .ok (.ifCond .eq 27, 3) := by decide +kernel
theorem dX5_fits_53 : decode cX5_fits 53 = .ok (.iload_n 3, 1) := by decide +kernel
theorem dX5_fits_54 : decode cX5_fits 54 = .ok (.iload_n 0, 1) := by decide +kernel
theorem dX5_fits_55 : decode cX5_fits 55 = .ok (.invokestatic 32, 3) := by decide +kernel
theorem dX5_fits_58 : decode cX5_fits 58 = .ok (.ifCond .eq 8, 3) := by decide +kernel
theorem dX5_fits_61 : decode cX5_fits 61 = .ok (.bipush 79, 2) := by decide +kernel
theorem dX5_fits_63 : decode cX5_fits 63 = .ok (.goto 4, 3) := by decide +kernel
theorem dX5_fits_66 : decode cX5_fits 66 = .ok (.iconst 0, 1) := by decide +kernel
theorem dX5_fits_67 : decode cX5_fits 67 = .ok (.invokestatic 19, 3) := by decide +kernel
theorem dX5_fits_70 : decode cX5_fits 70 = .ok (.ifCond .eq 7, 3) := by decide +kernel
theorem dX5_fits_73 : decode cX5_fits 73 = .ok (.iconst 1, 1) := by decide +kernel
theorem dX5_fits_74 : decode cX5_fits 74 = .ok (.goto 4, 3) := by decide +kernel
theorem dX5_fits_77 : decode cX5_fits 77 = .ok (.iconst 0, 1) := by decide +kernel
theorem dX5_fits_78 : decode cX5_fits 78 = .ok (.ireturn, 1) := by decide +kernel
theorem dX5_isWithin_0 : decode cX5_isWithin 0 = .ok (.iload_n 0, 1) := by decide +kernel
theorem dX5_isWithin_1 : decode cX5_isWithin 1 = .ok (.ifCond .lt 12, 3) := by decide +kernel
theorem dX5_isWithin_4 : decode cX5_isWithin 4 = .ok (.iload_n 0, 1) := by decide +kernel
theorem dX5_isWithin_5 : decode cX5_isWithin 5 = .ok (.iload_n 1, 1) := by decide +kernel
theorem dX5_isWithin_6 : decode cX5_isWithin 6 = .ok (.if_icmp .gt 7, 3) := by decide +kernel
theorem dX5_isWithin_9 : decode cX5_isWithin 9 = .ok (.iconst 1, 1) := by decide +kernel
theorem dX5_isWithin_10 : decode cX5_isWithin 10 = .ok (.goto 4, 3) := by decide +kernel
theorem dX5_isWithin_13 : decode cX5_isWithin 13 = .ok (.iconst 0, 1) := by decide +kernel
theorem dX5_isWithin_14 : decode cX5_isWithin 14 = .ok (.ireturn, 1) := by decide +kernel
theorem dX5_namesA_0 : decode cX5_namesA 0 = .ok (.iload_n 0, 1) := by decide +kernel
theorem dX5_namesA_1 : decode cX5_namesA 1 = .ok (.bipush 12, 2) := by decide +kernel
theorem dX5_namesA_3 : decode cX5_namesA 3 = .ok (.if_icmp .le 9, 3) := by decide +kernel
theorem dX5_namesA_6 : decode cX5_namesA 6 = .ok (.iload_n 0, 1) := by decide +kernel
theorem dX5_namesA_7 : decode cX5_namesA 7 = .ok (.bipush 16, 2) := by decide +kernel
theorem dX5_namesA_9 : decode cX5_namesA 9 = .ok (.if_icmp .ne 7, 3) := by decide +kernel
theorem dX5_namesA_12 : decode cX5_namesA 12 = .ok (.iconst 1, 1) := by decide +kernel
theorem dX5_namesA_13 : decode cX5_namesA 13 = .ok (.goto 4, 3) := by decide +kernel
theorem dX5_namesA_16 : decode cX5_namesA 16 = .ok (.iconst 0, 1) := by decide +kernel
theorem dX5_namesA_17 : decode cX5_namesA 17 = .ok (.ireturn, 1) := by decide +kernel
theorem dX5_namesB_0 : decode cX5_namesB 0 = .ok (.iload_n 0, 1) := by decide +kernel
theorem dX5_namesB_1 : decode cX5_namesB 1 = .ok (.iconst 1, 1) := by decide +kernel
theorem dX5_namesB_2 : decode cX5_namesB 2 = .ok (.if_icmp .lt 25, 3) := by decide +kernel
theorem dX5_namesB_5 : decode cX5_namesB 5 = .ok (.iload_n 0, 1) := by decide +kernel
theorem dX5_namesB_6 : decode cX5_namesB 6 = .ok (.bipush 12, 2) := by decide +kernel
theorem dX5_namesB_8 : decode cX5_namesB 8 = .ok (.if_icmp .gt 19, 3) := by decide +kernel
theorem dX5_namesB_11 : decode cX5_namesB 11 = .ok (.iload_n 0, 1) := by decide +kernel
theorem dX5_namesB_12 : decode cX5_namesB 12 = .ok (.bipush 6, 2) := by decide +kernel
theorem dX5_namesB_14 : decode cX5_namesB 14 = .ok (.if_icmp .eq 13, 3) := by decide +kernel
theorem dX5_namesB_17 : decode cX5_namesB 17 = .ok (.iload_n 0, 1) := by decide +kernel
theorem dX5_namesB_18 : decode cX5_namesB 18 = .ok (.bipush 8, 2) := by decide +kernel
theorem dX5_namesB_20 : decode cX5_namesB 20 = .ok (.if_icmp .eq 7, 3) := by decide +kernel
theorem dX5_namesB_23 : decode cX5_namesB 23 = .ok (.iconst 1, 1) := by decide +kernel
theorem dX5_namesB_24 : decode cX5_namesB 24 = .ok (.goto 4, 3) := by decide +kernel
theorem dX5_namesB_27 : decode cX5_namesB 27 = .ok (.iconst 0, 1) := by decide +kernel
theorem dX5_namesB_28 : decode cX5_namesB 28 = .ok (.ireturn, 1) := by decide +kernel
theorem dX5_namesC_0 : decode cX5_namesC 0 = .ok (.iload_n 0, 1) := by decide +kernel
theorem dX5_namesC_1 : decode cX5_namesC 1 = .ok (.bipush 11, 2) := by decide +kernel
theorem dX5_namesC_3 : decode cX5_namesC 3 = .ok (.if_icmp .lt 13, 3) := by decide +kernel
theorem dX5_namesC_6 : decode cX5_namesC 6 = .ok (.iload_n 0, 1) := by decide +kernel
theorem dX5_namesC_7 : decode cX5_namesC 7 = .ok (.bipush 14, 2) := by decide +kernel
theorem dX5_namesC_9 : decode cX5_namesC 9 = .ok (.if_icmp .gt 7, 3) := by decide +kernel
theorem dX5_namesC_12 : decode cX5_namesC 12 = .ok (.iconst 1, 1) := by decide +kernel
theorem dX5_namesC_13 : decode cX5_namesC 13 = .ok (.goto 4, 3) := by decide +kernel
theorem dX5_namesC_16 : decode cX5_namesC 16 = .ok (.iconst 0, 1) := by decide +kernel
theorem dX5_namesC_17 : decode cX5_namesC 17 = .ok (.ireturn, 1) := by decide +kernel
theorem dX5_size_0 : decode cX5_size 0 = .ok (.aload_n 0, 1) := by decide +kernel
theorem dX5_size_1 : decode cX5_size 1 = .ok (.getfield 15, 3) := by decide +kernel
theorem dX5_size_4 : decode cX5_size 4 = .ok (.ireturn, 1) := by decide +kernel
theorem dX5_has_0 : decode cX5_has 0 = .ok (.iload_n 1, 1) := by decide +kernel
theorem dX5_has_1 : decode cX5_has 1 = .ok (.ifCond .lt 15, 3) := by decide +kernel
theorem dX5_has_4 : decode cX5_has 4 = .ok (.iload_n 1, 1) := by decide +kernel
theorem dX5_has_5 : decode cX5_has 5 = .ok (.aload_n 0, 1) := by decide +kernel
theorem dX5_has_6 : decode cX5_has 6 = .ok (.getfield 15, 3) := by decide +kernel
theorem dX5_has_9 : decode cX5_has 9 = .ok (.if_icmp .ge 7, 3) := by decide +kernel
theorem dX5_has_12 : decode cX5_has 12 = .ok (.iconst 1, 1) := by decide +kernel
theorem dX5_has_13 : decode cX5_has 13 = .ok (.goto 4, 3) := by decide +kernel
theorem dX5_has_16 : decode cX5_has 16 = .ok (.iconst 0, 1) := by decide +kernel
theorem dX5_has_17 : decode cX5_has 17 = .ok (.ireturn, 1) := by decide +kernel
theorem dX5_part_0 : decode cX5_part 0 = .ok (.aload_n 0, 1) := by decide +kernel
theorem dX5_part_1 : decode cX5_part 1 = .ok (.iload_n 1, 1) := by decide +kernel
theorem dX5_part_2 : decode cX5_part 2 = .ok (.invokevirtual 35, 3) := by decide +kernel
theorem dX5_part_5 : decode cX5_part 5 = .ok (.ifCond .eq 23, 3) := by decide +kernel
theorem dX5_part_8 : decode cX5_part 8 = .ok (.iload_n 2, 1) := by decide +kernel
theorem dX5_part_9 : decode cX5_part 9 = .ok (.invokestatic 38, 3) := by decide +kernel
theorem dX5_part_12 : decode cX5_part 12 = .ok (.ifCond .eq 16, 3) := by decide +kernel
theorem dX5_part_15 : decode cX5_part 15 = .ok (.aload_n 0, 1) := by decide +kernel
theorem dX5_part_16 : decode cX5_part 16 = .ok (.getfield 11, 3) := by decide +kernel
theorem dX5_part_19 : decode cX5_part 19 = .ok (.iload_n 1, 1) := by decide +kernel
theorem dX5_part_20 : decode cX5_part 20 = .ok (.iconst 4, 1) := by decide +kernel
theorem dX5_part_21 : decode cX5_part 21 = .ok (.imul, 1) := by decide +kernel
theorem dX5_part_22 : decode cX5_part 22 = .ok (.iload_n 2, 1) := by decide +kernel
theorem dX5_part_23 : decode cX5_part 23 = .ok (.iadd, 1) := by decide +kernel
theorem dX5_part_24 : decode cX5_part 24 = .ok (.iaload, 1) := by decide +kernel
theorem dX5_part_25 : decode cX5_part 25 = .ok (.goto 4, 3) := by decide +kernel
theorem dX5_part_28 : decode cX5_part 28 = .ok (.iconst (-1), 1) := by decide +kernel
theorem dX5_part_29 : decode cX5_part 29 = .ok (.ireturn, 1) := by decide +kernel
theorem dX5_branchesAt_0 : decode cX5_branchesAt 0 = .ok (.aload_n 0, 1) := by decide +kernel
theorem dX5_branchesAt_1 : decode cX5_branchesAt 1 = .ok (.iload_n 1, 1) := by decide +kernel
theorem dX5_branchesAt_2 : decode cX5_branchesAt 2 = .ok (.iconst 0, 1) := by decide +kernel
theorem dX5_branchesAt_3 : decode cX5_branchesAt 3 = .ok (.invokevirtual 41, 3) := by decide +kernel
theorem dX5_branchesAt_6 : decode cX5_branchesAt 6 = .ok (.istore_n 2, 1) := by decide +kernel
theorem dX5_branchesAt_7 : decode cX5_branchesAt 7 = .ok (.iload_n 2, 1) := by decide +kernel
theorem dX5_branchesAt_8 : decode cX5_branchesAt 8 = .ok (.bipush 11, 2) := by decide +kernel
theorem dX5_branchesAt_10 : decode cX5_branchesAt 10 = .ok (.if_icmp .eq 9, 3) := by decide +kernel
theorem dX5_branchesAt_13 : decode cX5_branchesAt 13 = .ok (.iload_n 2, 1) := by decide +kernel
theorem dX5_branchesAt_14 : decode cX5_branchesAt 14 = .ok (.bipush 12, 2) := by decide +kernel
theorem dX5_branchesAt_16 : decode cX5_branchesAt 16 = .ok (.if_icmp .ne 7, 3) := by decide +kernel
theorem dX5_branchesAt_19 : decode cX5_branchesAt 19 = .ok (.iconst 1, 1) := by decide +kernel
theorem dX5_branchesAt_20 : decode cX5_branchesAt 20 = .ok (.goto 4, 3) := by decide +kernel
theorem dX5_branchesAt_23 : decode cX5_branchesAt 23 = .ok (.iconst 0, 1) := by decide +kernel
theorem dX5_branchesAt_24 : decode cX5_branchesAt 24 = .ok (.ireturn, 1) := by decide +kernel
theorem dX5_append_0 : decode cX5_append 0 = .ok (.aload_n 0, 1) := by decide +kernel
theorem dX5_append_1 : decode cX5_append 1 = .ok (.getfield 15, 3) := by decide +kernel
theorem dX5_append_4 : decode cX5_append 4 = .ok (.ifCond .lt 12, 3) := by decide +kernel
theorem dX5_append_7 : decode cX5_append 7 = .ok (.aload_n 0, 1) := by decide +kernel
theorem dX5_append_8 : decode cX5_append 8 = .ok (.getfield 15, 3) := by decide +kernel
theorem dX5_append_11 : decode cX5_append 11 = .ok (.bipush 80, 2) := by decide +kernel
theorem dX5_append_13 : decode cX5_append 13 = .ok (.if_icmp .lt 5, 3) := by decide +kernel
theorem dX5_append_16 : decode cX5_append 16 = .ok (.iconst 0, 1) := by decide +kernel
theorem dX5_append_17 : decode cX5_append 17 = .ok (.ireturn, 1) := by decide +kernel
theorem dX5_append_18 : decode cX5_append 18 = .ok (.aload_n 0, 1) := by decide +kernel
theorem dX5_append_19 : decode cX5_append 19 = .ok (.getfield 15, 3) := by decide +kernel
theorem dX5_append_22 : decode cX5_append 22 = .ok (.iconst 4, 1) := by decide +kernel
theorem dX5_append_23 : decode cX5_append 23 = .ok (.imul, 1) := by decide +kernel
theorem dX5_append_24 : decode cX5_append 24 = .ok (.istore 5, 2) := by decide +kernel
theorem dX5_append_26 : decode cX5_append 26 = .ok (.aload_n 0, 1) := by decide +kernel
theorem dX5_append_27 : decode cX5_append 27 = .ok (.getfield 11, 3) := by decide +kernel
theorem dX5_append_30 : decode cX5_append 30 = .ok (.iload 5, 2) := by decide +kernel
theorem dX5_append_32 : decode cX5_append 32 = .ok (.iconst 0, 1) := by decide +kernel
theorem dX5_append_33 : decode cX5_append 33 = .ok (.iadd, 1) := by decide +kernel
theorem dX5_append_34 : decode cX5_append 34 = .ok (.iload_n 1, 1) := by decide +kernel
theorem dX5_append_35 : decode cX5_append 35 = .ok (.iastore, 1) := by decide +kernel
theorem dX5_append_36 : decode cX5_append 36 = .ok (.aload_n 0, 1) := by decide +kernel
theorem dX5_append_37 : decode cX5_append 37 = .ok (.getfield 11, 3) := by decide +kernel
theorem dX5_append_40 : decode cX5_append 40 = .ok (.iload 5, 2) := by decide +kernel
theorem dX5_append_42 : decode cX5_append 42 = .ok (.iconst 1, 1) := by decide +kernel
theorem dX5_append_43 : decode cX5_append 43 = .ok (.iadd, 1) := by decide +kernel
theorem dX5_append_44 : decode cX5_append 44 = .ok (.iload_n 2, 1) := by decide +kernel
theorem dX5_append_45 : decode cX5_append 45 = .ok (.iastore, 1) := by decide +kernel
theorem dX5_append_46 : decode cX5_append 46 = .ok (.aload_n 0, 1) := by decide +kernel
theorem dX5_append_47 : decode cX5_append 47 = .ok (.getfield 11, 3) := by decide +kernel
theorem dX5_append_50 : decode cX5_append 50 = .ok (.iload 5, 2) := by decide +kernel
theorem dX5_append_52 : decode cX5_append 52 = .ok (.iconst 2, 1) := by decide +kernel
theorem dX5_append_53 : decode cX5_append 53 = .ok (.iadd, 1) := by decide +kernel
theorem dX5_append_54 : decode cX5_append 54 = .ok (.iload_n 3, 1) := by decide +kernel
theorem dX5_append_55 : decode cX5_append 55 = .ok (.iastore, 1) := by decide +kernel
theorem dX5_append_56 : decode cX5_append 56 = .ok (.aload_n 0, 1) := by decide +kernel
theorem dX5_append_57 : decode cX5_append 57 = .ok (.getfield 11, 3) := by decide +kernel
theorem dX5_append_60 : decode cX5_append 60 = .ok (.iload 5, 2) := by decide +kernel
theorem dX5_append_62 : decode cX5_append 62 = .ok (.iconst 3, 1) := by decide +kernel
theorem dX5_append_63 : decode cX5_append 63 = .ok (.iadd, 1) := by decide +kernel
theorem dX5_append_64 : decode cX5_append 64 = .ok (.iload 4, 2) := by decide +kernel
theorem dX5_append_66 : decode cX5_append 66 = .ok (.iastore, 1) := by decide +kernel
theorem dX5_append_67 : decode cX5_append 67 = .ok (.aload_n 0, 1) := by decide +kernel
theorem dX5_append_68 : decode cX5_append 68 = .ok (.dup, 1) := by decide +kernel
theorem dX5_append_69 : decode cX5_append 69 = .ok (.getfield 15, 3) := by decide +kernel
theorem dX5_append_72 : decode cX5_append 72 = .ok (.iconst 1, 1) := by decide +kernel
theorem dX5_append_73 : decode cX5_append 73 = .ok (.iadd, 1) := by decide +kernel
theorem dX5_append_74 : decode cX5_append 74 = .ok (.putfield 15, 3) := by decide +kernel
theorem dX5_append_77 : decode cX5_append 77 = .ok (.iconst 1, 1) := by decide +kernel
theorem dX5_append_78 : decode cX5_append 78 = .ok (.ireturn, 1) := by decide +kernel
theorem dX5_clear_0 : decode cX5_clear 0 = .ok (.aload_n 0, 1) := by decide +kernel
theorem dX5_clear_1 : decode cX5_clear 1 = .ok (.iconst 0, 1) := by decide +kernel
theorem dX5_clear_2 : decode cX5_clear 2 = .ok (.putfield 15, 3) := by decide +kernel
theorem dX5_clear_5 : decode cX5_clear 5 = .ok (.return_, 1) := by decide +kernel
theorem dX6_init_0 : decode cX6_init 0 = .ok (.aload_n 0, 1) := by decide +kernel
theorem dX6_init_1 : decode cX6_init 1 = .ok (.invokespecial 1, 3) := by decide +kernel
theorem dX6_init_4 : decode cX6_init 4 = .ok (.aload_n 0, 1) := by decide +kernel
theorem dX6_init_5 : decode cX6_init 5 = .ok (.iconst 0, 1) := by decide +kernel
theorem dX6_init_6 : decode cX6_init 6 = .ok (.putfield 7, 3) := by decide +kernel
theorem dX6_init_9 : decode cX6_init 9 = .ok (.aload_n 0, 1) := by decide +kernel
theorem dX6_init_10 : decode cX6_init 10 = .ok (.iload_n 1, 1) := by decide +kernel
theorem dX6_init_11 : decode cX6_init 11 = .ok (.iconst 0, 1) := by decide +kernel
theorem dX6_init_12 : decode cX6_init 12 = .ok (.invokestatic 13, 3) := by decide +kernel
theorem dX6_init_15 : decode cX6_init 15 = .ok (.putfield 19, 3) := by decide +kernel
theorem dX6_init_18 : decode cX6_init 18 = .ok (.aload_n 0, 1) := by decide +kernel
theorem dX6_init_19 : decode cX6_init 19 = .ok (.aload_n 0, 1) := by decide +kernel
theorem dX6_init_20 : decode cX6_init 20 = .ok (.getfield 19, 3) := by decide +kernel
theorem dX6_init_23 : decode cX6_init 23 = .ok (.bipush 24, 2) := by decide +kernel
theorem dX6_init_25 : decode cX6_init 25 = .ok (.imul, 1) := by decide +kernel
theorem dX6_init_26 : decode cX6_init 26 = .ok (.newarray .int, 2) := by decide +kernel
theorem dX6_init_28 : decode cX6_init 28 = .ok (.putfield 24, 3) := by decide +kernel
theorem dX6_init_31 : decode cX6_init 31 = .ok (.aload_n 0, 1) := by decide +kernel
theorem dX6_init_32 : decode cX6_init 32 = .ok (.aload_n 0, 1) := by decide +kernel
theorem dX6_init_33 : decode cX6_init 33 = .ok (.getfield 19, 3) := by decide +kernel
theorem dX6_init_36 : decode cX6_init 36 = .ok (.newarray .int, 2) := by decide +kernel
theorem dX6_init_38 : decode cX6_init 38 = .ok (.putfield 28, 3) := by decide +kernel
theorem dX6_init_41 : decode cX6_init 41 = .ok (.return_, 1) := by decide +kernel
theorem dX6_size_0 : decode cX6_size 0 = .ok (.aload_n 0, 1) := by decide +kernel
theorem dX6_size_1 : decode cX6_size 1 = .ok (.getfield 7, 3) := by decide +kernel
theorem dX6_size_4 : decode cX6_size 4 = .ok (.ireturn, 1) := by decide +kernel
theorem dX6_has_0 : decode cX6_has 0 = .ok (.iload_n 1, 1) := by decide +kernel
theorem dX6_has_1 : decode cX6_has 1 = .ok (.ifCond .lt 23, 3) := by decide +kernel
theorem dX6_has_4 : decode cX6_has 4 = .ok (.iload_n 1, 1) := by decide +kernel
theorem dX6_has_5 : decode cX6_has 5 = .ok (.aload_n 0, 1) := by decide +kernel
theorem dX6_has_6 : decode cX6_has 6 = .ok (.getfield 7, 3) := by decide +kernel
theorem dX6_has_9 : decode cX6_has 9 = .ok (.if_icmp .ge 15, 3) := by decide +kernel
theorem dX6_has_12 : decode cX6_has 12 = .ok (.iload_n 1, 1) := by decide +kernel
theorem dX6_has_13 : decode cX6_has 13 = .ok (.aload_n 0, 1) := by decide +kernel
theorem dX6_has_14 : decode cX6_has 14 = .ok (.getfield 19, 3) := by decide +kernel
theorem dX6_has_17 : decode cX6_has 17 = .ok (.if_icmp .ge 7, 3) := by decide +kernel
theorem dX6_has_20 : decode cX6_has 20 = .ok (.iconst 1, 1) := by decide +kernel
theorem dX6_has_21 : decode cX6_has 21 = .ok (.goto 4, 3) := by decide +kernel
theorem dX6_has_24 : decode cX6_has 24 = .ok (.iconst 0, 1) := by decide +kernel
theorem dX6_has_25 : decode cX6_has 25 = .ok (.ireturn, 1) := by decide +kernel
theorem dX6_append_0 : decode cX6_append 0 = .ok (.aload_n 0, 1) := by decide +kernel
theorem dX6_append_1 : decode cX6_append 1 = .ok (.getfield 7, 3) := by decide +kernel
theorem dX6_append_4 : decode cX6_append 4 = .ok (.ifCond .lt 14, 3) := by decide +kernel
theorem dX6_append_7 : decode cX6_append 7 = .ok (.aload_n 0, 1) := by decide +kernel
theorem dX6_append_8 : decode cX6_append 8 = .ok (.getfield 7, 3) := by decide +kernel
theorem dX6_append_11 : decode cX6_append 11 = .ok (.aload_n 0, 1) := by decide +kernel
theorem dX6_append_12 : decode cX6_append 12 = .ok (.getfield 19, 3) := by decide +kernel
theorem dX6_append_15 : decode cX6_append 15 = .ok (.if_icmp .lt 5, 3) := by decide +kernel
theorem dX6_append_18 : decode cX6_append 18 = .ok (.iconst 0, 1) := by decide +kernel
theorem dX6_append_19 : decode cX6_append 19 = .ok (.ireturn, 1) := by decide +kernel
theorem dX6_append_20 : decode cX6_append 20 = .ok (.aload_n 0, 1) := by decide +kernel
theorem dX6_append_21 : decode cX6_append 21 = .ok (.getfield 7, 3) := by decide +kernel
theorem dX6_append_24 : decode cX6_append 24 = .ok (.bipush 24, 2) := by decide +kernel
theorem dX6_append_26 : decode cX6_append 26 = .ok (.imul, 1) := by decide +kernel
theorem dX6_append_27 : decode cX6_append 27 = .ok (.istore_n 2, 1) := by decide +kernel
theorem dX6_append_28 : decode cX6_append 28 = .ok (.iconst 0, 1) := by decide +kernel
theorem dX6_append_29 : decode cX6_append 29 = .ok (.istore_n 3, 1) := by decide +kernel
theorem dX6_append_30 : decode cX6_append 30 = .ok (.iload_n 3, 1) := by decide +kernel
theorem dX6_append_31 : decode cX6_append 31 = .ok (.aload_n 1, 1) := by decide +kernel
theorem dX6_append_32 : decode cX6_append 32 = .ok (.invokevirtual 31, 3) := by decide +kernel
theorem dX6_append_35 : decode cX6_append 35 = .ok (.if_icmp .ge 28, 3) := by decide +kernel
theorem dX6_append_38 : decode cX6_append 38 = .ok (.iload_n 3, 1) := by decide +kernel
theorem dX6_append_39 : decode cX6_append 39 = .ok (.bipush 24, 2) := by decide +kernel
theorem dX6_append_41 : decode cX6_append 41 = .ok (.if_icmp .ge 22, 3) := by decide +kernel
theorem dX6_append_44 : decode cX6_append 44 = .ok (.aload_n 0, 1) := by decide +kernel
theorem dX6_append_45 : decode cX6_append 45 = .ok (.getfield 24, 3) := by decide +kernel
theorem dX6_append_48 : decode cX6_append 48 = .ok (.iload_n 2, 1) := by decide +kernel
theorem dX6_append_49 : decode cX6_append 49 = .ok (.iload_n 3, 1) := by decide +kernel
theorem dX6_append_50 : decode cX6_append 50 = .ok (.iadd, 1) := by decide +kernel
theorem dX6_append_51 : decode cX6_append 51 = .ok (.aload_n 1, 1) := by decide +kernel
theorem dX6_append_52 : decode cX6_append 52 = .ok (.iload_n 3, 1) := by decide +kernel
theorem dX6_append_53 : decode cX6_append 53 = .ok (.invokevirtual 35, 3) := by decide +kernel
theorem dX6_append_56 : decode cX6_append 56 = .ok (.iastore, 1) := by decide +kernel
theorem dX6_append_57 : decode cX6_append 57 = .ok (.iinc 3 1, 3) := by decide +kernel
theorem dX6_append_60 : decode cX6_append 60 = .ok (.goto (-30), 3) := by decide +kernel
theorem dX6_append_63 : decode cX6_append 63 = .ok (.aload_n 0, 1) := by decide +kernel
theorem dX6_append_64 : decode cX6_append 64 = .ok (.getfield 28, 3) := by decide +kernel
theorem dX6_append_67 : decode cX6_append 67 = .ok (.aload_n 0, 1) := by decide +kernel
theorem dX6_append_68 : decode cX6_append 68 = .ok (.getfield 7, 3) := by decide +kernel
theorem dX6_append_71 : decode cX6_append 71 = .ok (.aload_n 1, 1) := by decide +kernel
theorem dX6_append_72 : decode cX6_append 72 = .ok (.invokevirtual 31, 3) := by decide +kernel
theorem dX6_append_75 : decode cX6_append 75 = .ok (.iastore, 1) := by decide +kernel
theorem dX6_append_76 : decode cX6_append 76 = .ok (.aload_n 0, 1) := by decide +kernel
theorem dX6_append_77 : decode cX6_append 77 = .ok (.dup, 1) := by decide +kernel
theorem dX6_append_78 : decode cX6_append 78 = .ok (.getfield 7, 3) := by decide +kernel
theorem dX6_append_81 : decode cX6_append 81 = .ok (.iconst 1, 1) := by decide +kernel
theorem dX6_append_82 : decode cX6_append 82 = .ok (.iadd, 1) := by decide +kernel
theorem dX6_append_83 : decode cX6_append 83 = .ok (.putfield 7, 3) := by decide +kernel
theorem dX6_append_86 : decode cX6_append 86 = .ok (.iconst 1, 1) := by decide +kernel
theorem dX6_append_87 : decode cX6_append 87 = .ok (.ireturn, 1) := by decide +kernel
theorem dX6_copyTo_0 : decode cX6_copyTo 0 = .ok (.aload_n 0, 1) := by decide +kernel
theorem dX6_copyTo_1 : decode cX6_copyTo 1 = .ok (.iload_n 1, 1) := by decide +kernel
theorem dX6_copyTo_2 : decode cX6_copyTo 2 = .ok (.invokevirtual 39, 3) := by decide +kernel
theorem dX6_copyTo_5 : decode cX6_copyTo 5 = .ok (.ifCond .ne 4, 3) := by decide +kernel
theorem dX6_copyTo_8 : decode cX6_copyTo 8 = .ok (.return_, 1) := by decide +kernel
theorem dX6_copyTo_9 : decode cX6_copyTo 9 = .ok (.aload_n 2, 1) := by decide +kernel
theorem dX6_copyTo_10 : decode cX6_copyTo 10 = .ok (.iconst 0, 1) := by decide +kernel
theorem dX6_copyTo_11 : decode cX6_copyTo 11 = .ok (.invokevirtual 43, 3) := by decide +kernel
theorem dX6_copyTo_14 : decode cX6_copyTo 14 = .ok (.iload_n 1, 1) := by decide +kernel
theorem dX6_copyTo_15 : decode cX6_copyTo 15 = .ok (.bipush 24, 2) := by decide +kernel
theorem dX6_copyTo_17 : decode cX6_copyTo 17 = .ok (.imul, 1) := by decide +kernel
theorem dX6_copyTo_18 : decode cX6_copyTo 18 = .ok (.istore_n 3, 1) := by decide +kernel
theorem dX6_copyTo_19 : decode cX6_copyTo 19 = .ok (.iconst 0, 1) := by decide +kernel
theorem dX6_copyTo_20 : decode cX6_copyTo 20 = .ok (.istore 4, 2) := by decide +kernel
theorem dX6_copyTo_22 : decode cX6_copyTo 22 = .ok (.iload 4, 2) := by decide +kernel
theorem dX6_copyTo_24 : decode cX6_copyTo 24 = .ok (.aload_n 0, 1) := by decide +kernel
theorem dX6_copyTo_25 : decode cX6_copyTo 25 = .ok (.getfield 28, 3) := by decide +kernel
theorem dX6_copyTo_28 : decode cX6_copyTo 28 = .ok (.iload_n 1, 1) := by decide +kernel
theorem dX6_copyTo_29 : decode cX6_copyTo 29 = .ok (.iaload, 1) := by decide +kernel
theorem dX6_copyTo_30 : decode cX6_copyTo 30 = .ok (.if_icmp .ge 30, 3) := by decide +kernel
theorem dX6_copyTo_33 : decode cX6_copyTo 33 = .ok (.iload 4, 2) := by decide +kernel
theorem dX6_copyTo_35 : decode cX6_copyTo 35 = .ok (.bipush 24, 2) := by decide +kernel
theorem dX6_copyTo_37 : decode cX6_copyTo 37 = .ok (.if_icmp .ge 23, 3) := by decide +kernel
theorem dX6_copyTo_40 : decode cX6_copyTo 40 = .ok (.aload_n 2, 1) := by decide +kernel
theorem dX6_copyTo_41 : decode cX6_copyTo 41 = .ok (.aload_n 0, 1) := by decide +kernel
theorem dX6_copyTo_42 : decode cX6_copyTo 42 = .ok (.getfield 24, 3) := by decide +kernel
theorem dX6_copyTo_45 : decode cX6_copyTo 45 = .ok (.iload_n 3, 1) := by decide +kernel
theorem dX6_copyTo_46 : decode cX6_copyTo 46 = .ok (.iload 4, 2) := by decide +kernel
theorem dX6_copyTo_48 : decode cX6_copyTo 48 = .ok (.iadd, 1) := by decide +kernel
theorem dX6_copyTo_49 : decode cX6_copyTo 49 = .ok (.iaload, 1) := by decide +kernel
theorem dX6_copyTo_50 : decode cX6_copyTo 50 = .ok (.invokevirtual 47, 3) := by decide +kernel
theorem dX6_copyTo_53 : decode cX6_copyTo 53 = .ok (.pop, 1) := by decide +kernel
theorem dX6_copyTo_54 : decode cX6_copyTo 54 = .ok (.iinc 4 1, 3) := by decide +kernel
theorem dX6_copyTo_57 : decode cX6_copyTo 57 = .ok (.goto (-35), 3) := by decide +kernel
theorem dX6_copyTo_60 : decode cX6_copyTo 60 = .ok (.return_, 1) := by decide +kernel
theorem dX6_clear_0 : decode cX6_clear 0 = .ok (.aload_n 0, 1) := by decide +kernel
theorem dX6_clear_1 : decode cX6_clear 1 = .ok (.iconst 0, 1) := by decide +kernel
theorem dX6_clear_2 : decode cX6_clear 2 = .ok (.putfield 7, 3) := by decide +kernel
theorem dX6_clear_5 : decode cX6_clear 5 = .ok (.return_, 1) := by decide +kernel
theorem dJ6_bitCount_0f7a4_0 : decode cJ6_bitCount_0f7a4 0 = .ok (.iload_n 0, 1) := by decide +kernel
theorem dJ6_bitCount_0f7a4_1 : decode cJ6_bitCount_0f7a4 1 = .ok (.iload_n 0, 1) := by decide +kernel
theorem dJ6_bitCount_0f7a4_2 : decode cJ6_bitCount_0f7a4 2 = .ok (.iconst 1, 1) := by decide +kernel
theorem dJ6_bitCount_0f7a4_3 : decode cJ6_bitCount_0f7a4 3 = .ok (.iushr, 1) := by decide +kernel
theorem dJ6_bitCount_0f7a4_4 : decode cJ6_bitCount_0f7a4 4 = .ok (.ldc_w 265, 3) := by decide +kernel
theorem dJ6_bitCount_0f7a4_7 : decode cJ6_bitCount_0f7a4 7 = .ok (.iand, 1) := by decide +kernel
theorem dJ6_bitCount_0f7a4_8 : decode cJ6_bitCount_0f7a4 8 = .ok (.isub, 1) := by decide +kernel
theorem dJ6_bitCount_0f7a4_9 : decode cJ6_bitCount_0f7a4 9 = .ok (.istore_n 0, 1) := by decide +kernel
theorem dJ6_bitCount_0f7a4_10 : decode cJ6_bitCount_0f7a4 10 = .ok (.iload_n 0, 1) := by decide +kernel
theorem dJ6_bitCount_0f7a4_11 : decode cJ6_bitCount_0f7a4 11 = .ok (.ldc_w 266, 3) := by decide +kernel
theorem dJ6_bitCount_0f7a4_14 : decode cJ6_bitCount_0f7a4 14 = .ok (.iand, 1) := by decide +kernel
theorem dJ6_bitCount_0f7a4_15 : decode cJ6_bitCount_0f7a4 15 = .ok (.iload_n 0, 1) := by decide +kernel
theorem dJ6_bitCount_0f7a4_16 : decode cJ6_bitCount_0f7a4 16 = .ok (.iconst 2, 1) := by decide +kernel
theorem dJ6_bitCount_0f7a4_17 : decode cJ6_bitCount_0f7a4 17 = .ok (.iushr, 1) := by decide +kernel
theorem dJ6_bitCount_0f7a4_18 : decode cJ6_bitCount_0f7a4 18 = .ok (.ldc_w 266, 3) := by decide +kernel
theorem dJ6_bitCount_0f7a4_21 : decode cJ6_bitCount_0f7a4 21 = .ok (.iand, 1) := by decide +kernel
theorem dJ6_bitCount_0f7a4_22 : decode cJ6_bitCount_0f7a4 22 = .ok (.iadd, 1) := by decide +kernel
theorem dJ6_bitCount_0f7a4_23 : decode cJ6_bitCount_0f7a4 23 = .ok (.istore_n 0, 1) := by decide +kernel
theorem dJ6_bitCount_0f7a4_24 : decode cJ6_bitCount_0f7a4 24 = .ok (.iload_n 0, 1) := by decide +kernel
theorem dJ6_bitCount_0f7a4_25 : decode cJ6_bitCount_0f7a4 25 = .ok (.iload_n 0, 1) := by decide +kernel
theorem dJ6_bitCount_0f7a4_26 : decode cJ6_bitCount_0f7a4 26 = .ok (.iconst 4, 1) := by decide +kernel
theorem dJ6_bitCount_0f7a4_27 : decode cJ6_bitCount_0f7a4 27 = .ok (.iushr, 1) := by decide +kernel
theorem dJ6_bitCount_0f7a4_28 : decode cJ6_bitCount_0f7a4 28 = .ok (.iadd, 1) := by decide +kernel
theorem dJ6_bitCount_0f7a4_29 : decode cJ6_bitCount_0f7a4 29 = .ok (.ldc_w 267, 3) := by decide +kernel
theorem dJ6_bitCount_0f7a4_32 : decode cJ6_bitCount_0f7a4 32 = .ok (.iand, 1) := by decide +kernel
theorem dJ6_bitCount_0f7a4_33 : decode cJ6_bitCount_0f7a4 33 = .ok (.istore_n 0, 1) := by decide +kernel
theorem dJ6_bitCount_0f7a4_34 : decode cJ6_bitCount_0f7a4 34 = .ok (.iload_n 0, 1) := by decide +kernel
theorem dJ6_bitCount_0f7a4_35 : decode cJ6_bitCount_0f7a4 35 = .ok (.iload_n 0, 1) := by decide +kernel
theorem dJ6_bitCount_0f7a4_36 : decode cJ6_bitCount_0f7a4 36 = .ok (.bipush 8, 2) := by decide +kernel
theorem dJ6_bitCount_0f7a4_38 : decode cJ6_bitCount_0f7a4 38 = .ok (.iushr, 1) := by decide +kernel
theorem dJ6_bitCount_0f7a4_39 : decode cJ6_bitCount_0f7a4 39 = .ok (.iadd, 1) := by decide +kernel
theorem dJ6_bitCount_0f7a4_40 : decode cJ6_bitCount_0f7a4 40 = .ok (.istore_n 0, 1) := by decide +kernel
theorem dJ6_bitCount_0f7a4_41 : decode cJ6_bitCount_0f7a4 41 = .ok (.iload_n 0, 1) := by decide +kernel
theorem dJ6_bitCount_0f7a4_42 : decode cJ6_bitCount_0f7a4 42 = .ok (.iload_n 0, 1) := by decide +kernel
theorem dJ6_bitCount_0f7a4_43 : decode cJ6_bitCount_0f7a4 43 = .ok (.bipush 16, 2) := by decide +kernel
theorem dJ6_bitCount_0f7a4_45 : decode cJ6_bitCount_0f7a4 45 = .ok (.iushr, 1) := by decide +kernel
theorem dJ6_bitCount_0f7a4_46 : decode cJ6_bitCount_0f7a4 46 = .ok (.iadd, 1) := by decide +kernel
theorem dJ6_bitCount_0f7a4_47 : decode cJ6_bitCount_0f7a4 47 = .ok (.istore_n 0, 1) := by decide +kernel
theorem dJ6_bitCount_0f7a4_48 : decode cJ6_bitCount_0f7a4 48 = .ok (.iload_n 0, 1) := by decide +kernel
theorem dJ6_bitCount_0f7a4_49 : decode cJ6_bitCount_0f7a4 49 = .ok (.bipush 63, 2) := by decide +kernel
theorem dJ6_bitCount_0f7a4_51 : decode cJ6_bitCount_0f7a4 51 = .ok (.iand, 1) := by decide +kernel
theorem dJ6_bitCount_0f7a4_52 : decode cJ6_bitCount_0f7a4 52 = .ok (.ireturn, 1) := by decide +kernel
theorem dJ9_max_7cf53_0 : decode cJ9_max_7cf53 0 = .ok (.iload_n 0, 1) := by decide +kernel
theorem dJ9_max_7cf53_1 : decode cJ9_max_7cf53 1 = .ok (.iload_n 1, 1) := by decide +kernel
theorem dJ9_max_7cf53_2 : decode cJ9_max_7cf53 2 = .ok (.if_icmp .lt 7, 3) := by decide +kernel
theorem dJ9_max_7cf53_5 : decode cJ9_max_7cf53 5 = .ok (.iload_n 0, 1) := by decide +kernel
theorem dJ9_max_7cf53_6 : decode cJ9_max_7cf53 6 = .ok (.goto 4, 3) := by decide +kernel
theorem dJ9_max_7cf53_9 : decode cJ9_max_7cf53 9 = .ok (.iload_n 1, 1) := by decide +kernel
theorem dJ9_max_7cf53_10 : decode cJ9_max_7cf53 10 = .ok (.ireturn, 1) := by decide +kernel
theorem dJ7_fill_53178_0 : decode cJ7_fill_53178 0 = .ok (.iconst 0, 1) := by decide +kernel
theorem dJ7_fill_53178_1 : decode cJ7_fill_53178 1 = .ok (.istore_n 2, 1) := by decide +kernel
theorem dJ7_fill_53178_2 : decode cJ7_fill_53178 2 = .ok (.aload_n 0, 1) := by decide +kernel
theorem dJ7_fill_53178_3 : decode cJ7_fill_53178 3 = .ok (.arraylength, 1) := by decide +kernel
theorem dJ7_fill_53178_4 : decode cJ7_fill_53178 4 = .ok (.istore_n 3, 1) := by decide +kernel
theorem dJ7_fill_53178_5 : decode cJ7_fill_53178 5 = .ok (.iload_n 2, 1) := by decide +kernel
theorem dJ7_fill_53178_6 : decode cJ7_fill_53178 6 = .ok (.iload_n 3, 1) := by decide +kernel
theorem dJ7_fill_53178_7 : decode cJ7_fill_53178 7 = .ok (.if_icmp .ge 13, 3) := by decide +kernel
theorem dJ7_fill_53178_10 : decode cJ7_fill_53178 10 = .ok (.aload_n 0, 1) := by decide +kernel
theorem dJ7_fill_53178_11 : decode cJ7_fill_53178 11 = .ok (.iload_n 2, 1) := by decide +kernel
theorem dJ7_fill_53178_12 : decode cJ7_fill_53178 12 = .ok (.iload_n 1, 1) := by decide +kernel
theorem dJ7_fill_53178_13 : decode cJ7_fill_53178 13 = .ok (.iastore, 1) := by decide +kernel
theorem dJ7_fill_53178_14 : decode cJ7_fill_53178 14 = .ok (.iinc 2 1, 3) := by decide +kernel
theorem dJ7_fill_53178_17 : decode cJ7_fill_53178 17 = .ok (.goto (-12), 3) := by decide +kernel
theorem dJ7_fill_53178_20 : decode cJ7_fill_53178 20 = .ok (.return_, 1) := by decide +kernel
