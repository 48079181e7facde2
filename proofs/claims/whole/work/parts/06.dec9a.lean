theorem dX9_init_0 : decode cX9_init 0 = .ok (.aload_n 0, 1) := by decide +kernel
theorem dX9_init_1 : decode cX9_init 1 = .ok (.invokespecial 1, 3) := by decide +kernel
theorem dX9_init_4 : decode cX9_init 4 = .ok (.aload_n 0, 1) := by decide +kernel
theorem dX9_init_5 : decode cX9_init 5 = .ok (.bipush 80, 2) := by decide +kernel
theorem dX9_init_7 : decode cX9_init 7 = .ok (.newarray .int, 2) := by decide +kernel
theorem dX9_init_9 : decode cX9_init 9 = .ok (.putfield 7, 3) := by decide +kernel
theorem dX9_init_12 : decode cX9_init 12 = .ok (.aload_n 0, 1) := by decide +kernel
theorem dX9_init_13 : decode cX9_init 13 = .ok (.bipush 80, 2) := by decide +kernel
theorem dX9_init_15 : decode cX9_init 15 = .ok (.newarray .int, 2) := by decide +kernel
theorem dX9_init_17 : decode cX9_init 17 = .ok (.putfield 13, 3) := by decide +kernel
theorem dX9_init_20 : decode cX9_init 20 = .ok (.aload_n 0, 1) := by decide +kernel
theorem dX9_init_21 : decode cX9_init 21 = .ok (.bipush 80, 2) := by decide +kernel
theorem dX9_init_23 : decode cX9_init 23 = .ok (.newarray .int, 2) := by decide +kernel
theorem dX9_init_25 : decode cX9_init 25 = .ok (.putfield 16, 3) := by decide +kernel
theorem dX9_init_28 : decode cX9_init 28 = .ok (.aload_n 0, 1) := by decide +kernel
theorem dX9_init_29 : decode cX9_init 29 = .ok (.bipush 80, 2) := by decide +kernel
theorem dX9_init_31 : decode cX9_init 31 = .ok (.newarray .int, 2) := by decide +kernel
theorem dX9_init_33 : decode cX9_init 33 = .ok (.putfield 19, 3) := by decide +kernel
theorem dX9_init_36 : decode cX9_init 36 = .ok (.aload_n 0, 1) := by decide +kernel
theorem dX9_init_37 : decode cX9_init 37 = .ok (.bipush 24, 2) := by decide +kernel
theorem dX9_init_39 : decode cX9_init 39 = .ok (.newarray .int, 2) := by decide +kernel
theorem dX9_init_41 : decode cX9_init 41 = .ok (.putfield 22, 3) := by decide +kernel
theorem dX9_init_44 : decode cX9_init 44 = .ok (.aload_n 0, 1) := by decide +kernel
theorem dX9_init_45 : decode cX9_init 45 = .ok (.bipush 24, 2) := by decide +kernel
theorem dX9_init_47 : decode cX9_init 47 = .ok (.newarray .int, 2) := by decide +kernel
theorem dX9_init_49 : decode cX9_init 49 = .ok (.putfield 25, 3) := by decide +kernel
theorem dX9_init_52 : decode cX9_init 52 = .ok (.aload_n 0, 1) := by decide +kernel
theorem dX9_init_53 : decode cX9_init 53 = .ok (.bipush 8, 2) := by decide +kernel
theorem dX9_init_55 : decode cX9_init 55 = .ok (.newarray .int, 2) := by decide +kernel
theorem dX9_init_57 : decode cX9_init 57 = .ok (.putfield 28, 3) := by decide +kernel
theorem dX9_init_60 : decode cX9_init 60 = .ok (.aload_n 0, 1) := by decide +kernel
theorem dX9_init_61 : decode cX9_init 61 = .ok (.bipush 16, 2) := by decide +kernel
theorem dX9_init_63 : decode cX9_init 63 = .ok (.newarray .int, 2) := by decide +kernel
theorem dX9_init_65 : decode cX9_init 65 = .ok (.putfield 31, 3) := by decide +kernel
theorem dX9_init_68 : decode cX9_init 68 = .ok (.aload_n 0, 1) := by decide +kernel
theorem dX9_init_69 : decode cX9_init 69 = .ok (.bipush 8, 2) := by decide +kernel
theorem dX9_init_71 : decode cX9_init 71 = .ok (.newarray .int, 2) := by decide +kernel
theorem dX9_init_73 : decode cX9_init 73 = .ok (.putfield 34, 3) := by decide +kernel
theorem dX9_init_76 : decode cX9_init 76 = .ok (.aload_n 0, 1) := by decide +kernel
theorem dX9_init_77 : decode cX9_init 77 = .ok (.sipush 160, 3) := by decide +kernel
theorem dX9_init_80 : decode cX9_init 80 = .ok (.newarray .int, 2) := by decide +kernel
theorem dX9_init_82 : decode cX9_init 82 = .ok (.putfield 37, 3) := by decide +kernel
theorem dX9_init_85 : decode cX9_init 85 = .ok (.aload_n 0, 1) := by decide +kernel
theorem dX9_init_86 : decode cX9_init 86 = .ok (.iconst (-1), 1) := by decide +kernel
theorem dX9_init_87 : decode cX9_init 87 = .ok (.putfield 40, 3) := by decide +kernel
theorem dX9_init_90 : decode cX9_init 90 = .ok (.aload_n 0, 1) := by decide +kernel
theorem dX9_init_91 : decode cX9_init 91 = .ok (.bipush 8, 2) := by decide +kernel
theorem dX9_init_93 : decode cX9_init 93 = .ok (.newarray .int, 2) := by decide +kernel
theorem dX9_init_95 : decode cX9_init 95 = .ok (.putfield 44, 3) := by decide +kernel
theorem dX9_init_98 : decode cX9_init 98 = .ok (.aload_n 0, 1) := by decide +kernel
theorem dX9_init_99 : decode cX9_init 99 = .ok (.bipush 8, 2) := by decide +kernel
theorem dX9_init_101 : decode cX9_init 101 = .ok (.newarray .int, 2) := by decide +kernel
theorem dX9_init_103 : decode cX9_init 103 = .ok (.putfield 47, 3) := by decide +kernel
theorem dX9_init_106 : decode cX9_init 106 = .ok (.aload_n 0, 1) := by decide +kernel
theorem dX9_init_107 : decode cX9_init 107 = .ok (.sipush 160, 3) := by decide +kernel
theorem dX9_init_110 : decode cX9_init 110 = .ok (.newarray .int, 2) := by decide +kernel
theorem dX9_init_112 : decode cX9_init 112 = .ok (.putfield 50, 3) := by decide +kernel
theorem dX9_init_115 : decode cX9_init 115 = .ok (.aload_n 0, 1) := by decide +kernel
theorem dX9_init_116 : decode cX9_init 116 = .ok (.sipush 1920, 3) := by decide +kernel
theorem dX9_init_119 : decode cX9_init 119 = .ok (.newarray .int, 2) := by decide +kernel
theorem dX9_init_121 : decode cX9_init 121 = .ok (.putfield 53, 3) := by decide +kernel
theorem dX9_init_124 : decode cX9_init 124 = .ok (.aload_n 0, 1) := by decide +kernel
theorem dX9_init_125 : decode cX9_init 125 = .ok (.bipush 80, 2) := by decide +kernel
theorem dX9_init_127 : decode cX9_init 127 = .ok (.newarray .int, 2) := by decide +kernel
theorem dX9_init_129 : decode cX9_init 129 = .ok (.putfield 56, 3) := by decide +kernel
theorem dX9_init_132 : decode cX9_init 132 = .ok (.aload_n 0, 1) := by decide +kernel
theorem dX9_init_133 : decode cX9_init 133 = .ok (.iconst 2, 1) := by decide +kernel
theorem dX9_init_134 : decode cX9_init 134 = .ok (.newarray .int, 2) := by decide +kernel
theorem dX9_init_136 : decode cX9_init 136 = .ok (.putfield 59, 3) := by decide +kernel
theorem dX9_init_139 : decode cX9_init 139 = .ok (.aload_n 0, 1) := by decide +kernel
theorem dX9_init_140 : decode cX9_init 140 = .ok (.sipush 3200, 3) := by decide +kernel
theorem dX9_init_143 : decode cX9_init 143 = .ok (.newarray .boolean, 2) := by decide +kernel
theorem dX9_init_145 : decode cX9_init 145 = .ok (.putfield 62, 3) := by decide +kernel
theorem dX9_init_148 : decode cX9_init 148 = .ok (.aload_n 0, 1) := by decide +kernel
theorem dX9_init_149 : decode cX9_init 149 = .ok (.iconst 2, 1) := by decide +kernel
theorem dX9_init_150 : decode cX9_init 150 = .ok (.newarray .int, 2) := by decide +kernel
theorem dX9_init_152 : decode cX9_init 152 = .ok (.putfield 66, 3) := by decide +kernel
theorem dX9_init_155 : decode cX9_init 155 = .ok (.aload_n 0, 1) := by decide +kernel
theorem dX9_init_156 : decode cX9_init 156 = .ok (.iconst 2, 1) := by decide +kernel
theorem dX9_init_157 : decode cX9_init 157 = .ok (.newarray .int, 2) := by decide +kernel
theorem dX9_init_159 : decode cX9_init 159 = .ok (.putfield 69, 3) := by decide +kernel
theorem dX9_init_162 : decode cX9_init 162 = .ok (.aload_n 0, 1) := by decide +kernel
theorem dX9_init_163 : decode cX9_init 163 = .ok (.sipush 200, 3) := by decide +kernel
theorem dX9_init_166 : decode cX9_init 166 = .ok (.newarray .int, 2) := by decide +kernel
theorem dX9_init_168 : decode cX9_init 168 = .ok (.putfield 72, 3) := by decide +kernel
theorem dX9_init_171 : decode cX9_init 171 = .ok (.aload_n 0, 1) := by decide +kernel
theorem dX9_init_172 : decode cX9_init 172 = .ok (.sipush 960, 3) := by decide +kernel
theorem dX9_init_175 : decode cX9_init 175 = .ok (.newarray .int, 2) := by decide +kernel
theorem dX9_init_177 : decode cX9_init 177 = .ok (.putfield 75, 3) := by decide +kernel
theorem dX9_init_180 : decode cX9_init 180 = .ok (.aload_n 0, 1) := by decide +kernel
theorem dX9_init_181 : decode cX9_init 181 = .ok (.bipush 40, 2) := by decide +kernel
theorem dX9_init_183 : decode cX9_init 183 = .ok (.newarray .int, 2) := by decide +kernel
theorem dX9_init_185 : decode cX9_init 185 = .ok (.putfield 78, 3) := by decide +kernel
theorem dX9_init_188 : decode cX9_init 188 = .ok (.aload_n 0, 1) := by decide +kernel
theorem dX9_init_189 : decode cX9_init 189 = .ok (.bipush 24, 2) := by decide +kernel
theorem dX9_init_191 : decode cX9_init 191 = .ok (.newarray .int, 2) := by decide +kernel
theorem dX9_init_193 : decode cX9_init 193 = .ok (.putfield 81, 3) := by decide +kernel
theorem dX9_init_196 : decode cX9_init 196 = .ok (.return_, 1) := by decide +kernel
theorem dX9_in_0 : decode cX9_in 0 = .ok (.iload_n 0, 1) := by decide +kernel
theorem dX9_in_1 : decode cX9_in 1 = .ok (.iload_n 1, 1) := by decide +kernel
theorem dX9_in_2 : decode cX9_in 2 = .ok (.if_icmp .lt 12, 3) := by decide +kernel
theorem dX9_in_5 : decode cX9_in 5 = .ok (.iload_n 0, 1) := by decide +kernel
theorem dX9_in_6 : decode cX9_in 6 = .ok (.iload_n 2, 1) := by decide +kernel
theorem dX9_in_7 : decode cX9_in 7 = .ok (.if_icmp .gt 7, 3) := by decide +kernel
theorem dX9_in_10 : decode cX9_in 10 = .ok (.iconst 1, 1) := by decide +kernel
theorem dX9_in_11 : decode cX9_in 11 = .ok (.goto 4, 3) := by decide +kernel
theorem dX9_in_14 : decode cX9_in 14 = .ok (.iconst 0, 1) := by decide +kernel
theorem dX9_in_15 : decode cX9_in 15 = .ok (.ireturn, 1) := by decide +kernel
theorem dX9_hasA_0 : decode cX9_hasA 0 = .ok (.iload_n 0, 1) := by decide +kernel
theorem dX9_hasA_1 : decode cX9_hasA 1 = .ok (.bipush 12, 2) := by decide +kernel
theorem dX9_hasA_3 : decode cX9_hasA 3 = .ok (.if_icmp .le 9, 3) := by decide +kernel
theorem dX9_hasA_6 : decode cX9_hasA 6 = .ok (.iload_n 0, 1) := by decide +kernel
theorem dX9_hasA_7 : decode cX9_hasA 7 = .ok (.bipush 16, 2) := by decide +kernel
theorem dX9_hasA_9 : decode cX9_hasA 9 = .ok (.if_icmp .ne 7, 3) := by decide +kernel
theorem dX9_hasA_12 : decode cX9_hasA 12 = .ok (.iconst 1, 1) := by decide +kernel
theorem dX9_hasA_13 : decode cX9_hasA 13 = .ok (.goto 4, 3) := by decide +kernel
theorem dX9_hasA_16 : decode cX9_hasA 16 = .ok (.iconst 0, 1) := by decide +kernel
theorem dX9_hasA_17 : decode cX9_hasA 17 = .ok (.ireturn, 1) := by decide +kernel
theorem dX9_hasB_0 : decode cX9_hasB 0 = .ok (.iload_n 0, 1) := by decide +kernel
theorem dX9_hasB_1 : decode cX9_hasB 1 = .ok (.iconst 1, 1) := by decide +kernel
theorem dX9_hasB_2 : decode cX9_hasB 2 = .ok (.iconst 5, 1) := by decide +kernel
theorem dX9_hasB_3 : decode cX9_hasB 3 = .ok (.invokestatic 87, 3) := by decide +kernel
theorem dX9_hasB_6 : decode cX9_hasB 6 = .ok (.ifCond .ne 20, 3) := by decide +kernel
theorem dX9_hasB_9 : decode cX9_hasB 9 = .ok (.iload_n 0, 1) := by decide +kernel
theorem dX9_hasB_10 : decode cX9_hasB 10 = .ok (.bipush 7, 2) := by decide +kernel
theorem dX9_hasB_12 : decode cX9_hasB 12 = .ok (.if_icmp .eq 14, 3) := by decide +kernel
theorem dX9_hasB_15 : decode cX9_hasB 15 = .ok (.iload_n 0, 1) := by decide +kernel
theorem dX9_hasB_16 : decode cX9_hasB 16 = .ok (.bipush 9, 2) := by decide +kernel
theorem dX9_hasB_18 : decode cX9_hasB 18 = .ok (.bipush 12, 2) := by decide +kernel
theorem dX9_hasB_20 : decode cX9_hasB 20 = .ok (.invokestatic 87, 3) := by decide +kernel
theorem dX9_hasB_23 : decode cX9_hasB 23 = .ok (.ifCond .eq 7, 3) := by decide +kernel
theorem dX9_hasB_26 : decode cX9_hasB 26 = .ok (.iconst 1, 1) := by decide +kernel
theorem dX9_hasB_27 : decode cX9_hasB 27 = .ok (.goto 4, 3) := by decide +kernel
theorem dX9_hasB_30 : decode cX9_hasB 30 = .ok (.iconst 0, 1) := by decide +kernel
theorem dX9_hasB_31 : decode cX9_hasB 31 = .ok (.ireturn, 1) := by decide +kernel
theorem dX9_hasC_0 : decode cX9_hasC 0 = .ok (.iload_n 0, 1) := by decide +kernel
theorem dX9_hasC_1 : decode cX9_hasC 1 = .ok (.bipush 11, 2) := by decide +kernel
theorem dX9_hasC_3 : decode cX9_hasC 3 = .ok (.bipush 14, 2) := by decide +kernel
theorem dX9_hasC_5 : decode cX9_hasC 5 = .ok (.invokestatic 87, 3) := by decide +kernel
theorem dX9_hasC_8 : decode cX9_hasC 8 = .ok (.ireturn, 1) := by decide +kernel
theorem dX9_code_0 : decode cX9_code 0 = .ok (.iload_n 1, 1) := by decide +kernel
theorem dX9_code_1 : decode cX9_code 1 = .ok (.iconst 0, 1) := by decide +kernel
theorem dX9_code_2 : decode cX9_code 2 = .ok (.bipush 17, 2) := by decide +kernel
theorem dX9_code_4 : decode cX9_code 4 = .ok (.invokestatic 87, 3) := by decide +kernel
theorem dX9_code_7 : decode cX9_code 7 = .ok (.ifCond .eq 71, 3) := by decide +kernel
theorem dX9_code_10 : decode cX9_code 10 = .ok (.iload_n 2, 1) := by decide +kernel
theorem dX9_code_11 : decode cX9_code 11 = .ok (.iconst 0, 1) := by decide +kernel
theorem dX9_code_12 : decode cX9_code 12 = .ok (.iload_n 1, 1) := by decide +kernel
theorem dX9_code_13 : decode cX9_code 13 = .ok (.invokestatic 91, 3) := by decide +kernel
theorem dX9_code_16 : decode cX9_code 16 = .ok (.ifCond .eq 8, 3) := by decide +kernel
theorem dX9_code_19 : decode cX9_code 19 = .ok (.bipush 7, 2) := by decide +kernel
theorem dX9_code_21 : decode cX9_code 21 = .ok (.goto 4, 3) := by decide +kernel
theorem dX9_code_24 : decode cX9_code 24 = .ok (.iconst 0, 1) := by decide +kernel
theorem dX9_code_25 : decode cX9_code 25 = .ok (.invokestatic 87, 3) := by decide +kernel
theorem dX9_code_28 : decode cX9_code 28 = .ok (.ifCond .eq 50, 3) := by decide +kernel
theorem dX9_code_31 : decode cX9_code 31 = .ok (.iload_n 1, 1) := by decide +kernel
theorem dX9_code_32 : decode cX9_code 32 = .ok (.ifCond .eq 24, 3) := by decide +kernel
theorem dX9_code_35 : decode cX9_code 35 = .ok (.iload_n 3, 1) := by decide +kernel
theorem dX9_code_36 : decode cX9_code 36 = .ok (.iconst 0, 1) := by decide +kernel
theorem dX9_code_37 : decode cX9_code 37 = .ok (.iload_n 1, 1) := by decide +kernel
theorem dX9_code_38 : decode cX9_code 38 = .ok (.invokestatic 95, 3) := by decide +kernel
theorem dX9_code_41 : decode cX9_code 41 = .ok (.ifCond .eq 8, 3) := by decide +kernel
theorem dX9_code_44 : decode cX9_code 44 = .ok (.bipush 7, 2) := by decide +kernel
theorem dX9_code_46 : decode cX9_code 46 = .ok (.goto 4, 3) := by decide +kernel
theorem dX9_code_49 : decode cX9_code 49 = .ok (.iconst 0, 1) := by decide +kernel
theorem dX9_code_50 : decode cX9_code 50 = .ok (.invokestatic 87, 3) := by decide +kernel
theorem dX9_code_53 : decode cX9_code 53 = .ok (.ifCond .eq 25, 3) := by decide +kernel
theorem dX9_code_56 : decode cX9_code 56 = .ok (.iload 4, 2) := by decide +kernel
theorem dX9_code_58 : decode cX9_code 58 = .ok (.iconst 0, 1) := by decide +kernel
theorem dX9_code_59 : decode cX9_code 59 = .ok (.iload_n 1, 1) := by decide +kernel
theorem dX9_code_60 : decode cX9_code 60 = .ok (.invokestatic 98, 3) := by decide +kernel
theorem dX9_code_63 : decode cX9_code 63 = .ok (.ifCond .eq 8, 3) := by decide +kernel
theorem dX9_code_66 : decode cX9_code 66 = .ok (.bipush 79, 2) := by decide +kernel
theorem dX9_code_68 : decode cX9_code 68 = .ok (.goto 4, 3) := by decide +kernel
theorem dX9_code_71 : decode cX9_code 71 = .ok (.iconst 0, 1) := by decide +kernel
theorem dX9_code_72 : decode cX9_code 72 = .ok (.invokestatic 87, 3) := by decide +kernel
theorem dX9_code_75 : decode cX9_code 75 = .ok (.ifCond .ne 6, 3) := by decide +kernel
theorem dX9_code_78 : decode cX9_code 78 = .ok (.bipush (-2), 2) := by decide +kernel
theorem dX9_code_80 : decode cX9_code 80 = .ok (.ireturn, 1) := by decide +kernel
theorem dX9_code_81 : decode cX9_code 81 = .ok (.aload_n 0, 1) := by decide +kernel
theorem dX9_code_82 : decode cX9_code 82 = .ok (.getfield 66, 3) := by decide +kernel
theorem dX9_code_85 : decode cX9_code 85 = .ok (.iconst 0, 1) := by decide +kernel
theorem dX9_code_86 : decode cX9_code 86 = .ok (.iaload, 1) := by decide +kernel
theorem dX9_code_87 : decode cX9_code 87 = .ok (.aload_n 0, 1) := by decide +kernel
theorem dX9_code_88 : decode cX9_code 88 = .ok (.getfield 66, 3) := by decide +kernel
theorem dX9_code_91 : decode cX9_code 91 = .ok (.iconst 1, 1) := by decide +kernel
theorem dX9_code_92 : decode cX9_code 92 = .ok (.iaload, 1) := by decide +kernel
theorem dX9_code_93 : decode cX9_code 93 = .ok (.iadd, 1) := by decide +kernel
theorem dX9_code_94 : decode cX9_code 94 = .ok (.ifCond .le 6, 3) := by decide +kernel
theorem dX9_code_97 : decode cX9_code 97 = .ok (.bipush (-3), 2) := by decide +kernel
theorem dX9_code_99 : decode cX9_code 99 = .ok (.ireturn, 1) := by decide +kernel
theorem dX9_code_100 : decode cX9_code 100 = .ok (.aload_n 0, 1) := by decide +kernel
theorem dX9_code_101 : decode cX9_code 101 = .ok (.getfield 101, 3) := by decide +kernel
theorem dX9_code_104 : decode cX9_code 104 = .ok (.bipush 80, 2) := by decide +kernel
theorem dX9_code_106 : decode cX9_code 106 = .ok (.if_icmp .ne 6, 3) := by decide +kernel
theorem dX9_code_109 : decode cX9_code 109 = .ok (.bipush (-4), 2) := by decide +kernel
theorem dX9_code_111 : decode cX9_code 111 = .ok (.ireturn, 1) := by decide +kernel
theorem dX9_code_112 : decode cX9_code 112 = .ok (.aload_n 0, 1) := by decide +kernel
theorem dX9_code_113 : decode cX9_code 113 = .ok (.getfield 7, 3) := by decide +kernel
theorem dX9_code_116 : decode cX9_code 116 = .ok (.aload_n 0, 1) := by decide +kernel
theorem dX9_code_117 : decode cX9_code 117 = .ok (.getfield 101, 3) := by decide +kernel
theorem dX9_code_120 : decode cX9_code 120 = .ok (.iload_n 1, 1) := by decide +kernel
theorem dX9_code_121 : decode cX9_code 121 = .ok (.iastore, 1) := by decide +kernel
theorem dX9_code_122 : decode cX9_code 122 = .ok (.aload_n 0, 1) := by decide +kernel
theorem dX9_code_123 : decode cX9_code 123 = .ok (.getfield 13, 3) := by decide +kernel
theorem dX9_code_126 : decode cX9_code 126 = .ok (.aload_n 0, 1) := by decide +kernel
theorem dX9_code_127 : decode cX9_code 127 = .ok (.getfield 101, 3) := by decide +kernel
theorem dX9_code_130 : decode cX9_code 130 = .ok (.iload_n 2, 1) := by decide +kernel
theorem dX9_code_131 : decode cX9_code 131 = .ok (.iastore, 1) := by decide +kernel
theorem dX9_code_132 : decode cX9_code 132 = .ok (.aload_n 0, 1) := by decide +kernel
theorem dX9_code_133 : decode cX9_code 133 = .ok (.getfield 16, 3) := by decide +kernel
theorem dX9_code_136 : decode cX9_code 136 = .ok (.aload_n 0, 1) := by decide +kernel
theorem dX9_code_137 : decode cX9_code 137 = .ok (.getfield 101, 3) := by decide +kernel
theorem dX9_code_140 : decode cX9_code 140 = .ok (.iload_n 3, 1) := by decide +kernel
theorem dX9_code_141 : decode cX9_code 141 = .ok (.iastore, 1) := by decide +kernel
theorem dX9_code_142 : decode cX9_code 142 = .ok (.aload_n 0, 1) := by decide +kernel
theorem dX9_code_143 : decode cX9_code 143 = .ok (.getfield 19, 3) := by decide +kernel
theorem dX9_code_146 : decode cX9_code 146 = .ok (.aload_n 0, 1) := by decide +kernel
theorem dX9_code_147 : decode cX9_code 147 = .ok (.getfield 101, 3) := by decide +kernel
theorem dX9_code_150 : decode cX9_code 150 = .ok (.iload 4, 2) := by decide +kernel
theorem dX9_code_152 : decode cX9_code 152 = .ok (.iastore, 1) := by decide +kernel
theorem dX9_code_153 : decode cX9_code 153 = .ok (.aload_n 0, 1) := by decide +kernel
theorem dX9_code_154 : decode cX9_code 154 = .ok (.dup, 1) := by decide +kernel
theorem dX9_code_155 : decode cX9_code 155 = .ok (.getfield 101, 3) := by decide +kernel
theorem dX9_code_158 : decode cX9_code 158 = .ok (.iconst 1, 1) := by decide +kernel
theorem dX9_code_159 : decode cX9_code 159 = .ok (.iadd, 1) := by decide +kernel
theorem dX9_code_160 : decode cX9_code 160 = .ok (.putfield 101, 3) := by decide +kernel
theorem dX9_code_163 : decode cX9_code 163 = .ok (.aload_n 0, 1) := by decide +kernel
theorem dX9_code_164 : decode cX9_code 164 = .ok (.getfield 101, 3) := by decide +kernel
theorem dX9_code_167 : decode cX9_code 167 = .ok (.iconst 1, 1) := by decide +kernel
theorem dX9_code_168 : decode cX9_code 168 = .ok (.isub, 1) := by decide +kernel
theorem dX9_code_169 : decode cX9_code 169 = .ok (.ireturn, 1) := by decide +kernel
theorem dX9_wipe_0 : decode cX9_wipe 0 = .ok (.aload_n 0, 1) := by decide +kernel
theorem dX9_wipe_1 : decode cX9_wipe 1 = .ok (.getfield 101, 3) := by decide +kernel
theorem dX9_wipe_4 : decode cX9_wipe 4 = .ok (.istore_n 1, 1) := by decide +kernel
theorem dX9_wipe_5 : decode cX9_wipe 5 = .ok (.aload_n 0, 1) := by decide +kernel
theorem dX9_wipe_6 : decode cX9_wipe 6 = .ok (.iconst 0, 1) := by decide +kernel
theorem dX9_wipe_7 : decode cX9_wipe 7 = .ok (.putfield 101, 3) := by decide +kernel
theorem dX9_wipe_10 : decode cX9_wipe 10 = .ok (.iconst 0, 1) := by decide +kernel
theorem dX9_wipe_11 : decode cX9_wipe 11 = .ok (.istore_n 2, 1) := by decide +kernel
theorem dX9_wipe_12 : decode cX9_wipe 12 = .ok (.iload_n 2, 1) := by decide +kernel
theorem dX9_wipe_13 : decode cX9_wipe 13 = .ok (.iconst 2, 1) := by decide +kernel
theorem dX9_wipe_14 : decode cX9_wipe 14 = .ok (.if_icmp .ge 58, 3) := by decide +kernel
theorem dX9_wipe_17 : decode cX9_wipe 17 = .ok (.aload_n 0, 1) := by decide +kernel
theorem dX9_wipe_18 : decode cX9_wipe 18 = .ok (.getfield 59, 3) := by decide +kernel
theorem dX9_wipe_21 : decode cX9_wipe 21 = .ok (.iload_n 2, 1) := by decide +kernel
theorem dX9_wipe_22 : decode cX9_wipe 22 = .ok (.iconst 0, 1) := by decide +kernel
theorem dX9_wipe_23 : decode cX9_wipe 23 = .ok (.iastore, 1) := by decide +kernel
theorem dX9_wipe_24 : decode cX9_wipe 24 = .ok (.aload_n 0, 1) := by decide +kernel
theorem dX9_wipe_25 : decode cX9_wipe 25 = .ok (.getfield 69, 3) := by decide +kernel
theorem dX9_wipe_28 : decode cX9_wipe 28 = .ok (.iload_n 2, 1) := by decide +kernel
theorem dX9_wipe_29 : decode cX9_wipe 29 = .ok (.iconst 0, 1) := by decide +kernel
theorem dX9_wipe_30 : decode cX9_wipe 30 = .ok (.iastore, 1) := by decide +kernel
theorem dX9_wipe_31 : decode cX9_wipe 31 = .ok (.aload_n 0, 1) := by decide +kernel
theorem dX9_wipe_32 : decode cX9_wipe 32 = .ok (.getfield 66, 3) := by decide +kernel
theorem dX9_wipe_35 : decode cX9_wipe 35 = .ok (.iload_n 2, 1) := by decide +kernel
theorem dX9_wipe_36 : decode cX9_wipe 36 = .ok (.iconst 0, 1) := by decide +kernel
theorem dX9_wipe_37 : decode cX9_wipe 37 = .ok (.iastore, 1) := by decide +kernel
theorem dX9_wipe_38 : decode cX9_wipe 38 = .ok (.iconst 0, 1) := by decide +kernel
theorem dX9_wipe_39 : decode cX9_wipe 39 = .ok (.istore_n 3, 1) := by decide +kernel
theorem dX9_wipe_40 : decode cX9_wipe 40 = .ok (.iload_n 3, 1) := by decide +kernel
theorem dX9_wipe_41 : decode cX9_wipe 41 = .ok (.sipush 1600, 3) := by decide +kernel
theorem dX9_wipe_44 : decode cX9_wipe 44 = .ok (.if_icmp .ge 22, 3) := by decide +kernel
theorem dX9_wipe_47 : decode cX9_wipe 47 = .ok (.aload_n 0, 1) := by decide +kernel
theorem dX9_wipe_48 : decode cX9_wipe 48 = .ok (.getfield 62, 3) := by decide +kernel
theorem dX9_wipe_51 : decode cX9_wipe 51 = .ok (.sipush 1600, 3) := by decide +kernel
theorem dX9_wipe_54 : decode cX9_wipe 54 = .ok (.iload_n 2, 1) := by decide +kernel
theorem dX9_wipe_55 : decode cX9_wipe 55 = .ok (.imul, 1) := by decide +kernel
theorem dX9_wipe_56 : decode cX9_wipe 56 = .ok (.iload_n 3, 1) := by decide +kernel
theorem dX9_wipe_57 : decode cX9_wipe 57 = .ok (.iadd, 1) := by decide +kernel
theorem dX9_wipe_58 : decode cX9_wipe 58 = .ok (.iconst 0, 1) := by decide +kernel
theorem dX9_wipe_59 : decode cX9_wipe 59 = .ok (.bastore, 1) := by decide +kernel
theorem dX9_wipe_60 : decode cX9_wipe 60 = .ok (.iinc 3 1, 3) := by decide +kernel
theorem dX9_wipe_63 : decode cX9_wipe 63 = .ok (.goto (-23), 3) := by decide +kernel
theorem dX9_wipe_66 : decode cX9_wipe 66 = .ok (.iinc 2 1, 3) := by decide +kernel
theorem dX9_wipe_69 : decode cX9_wipe 69 = .ok (.goto (-57), 3) := by decide +kernel
theorem dX9_wipe_72 : decode cX9_wipe 72 = .ok (.iload_n 1, 1) := by decide +kernel
theorem dX9_wipe_73 : decode cX9_wipe 73 = .ok (.ireturn, 1) := by decide +kernel
theorem dX9_instruction_0 : decode cX9_instruction 0 = .ok (.aload_n 0, 1) := by decide +kernel
theorem dX9_instruction_1 : decode cX9_instruction 1 = .ok (.iload_n 1, 1) := by decide +kernel
theorem dX9_instruction_2 : decode cX9_instruction 2 = .ok (.iconst 0, 1) := by decide +kernel
theorem dX9_instruction_3 : decode cX9_instruction 3 = .ok (.aload_n 0, 1) := by decide +kernel
theorem dX9_instruction_4 : decode cX9_instruction 4 = .ok (.getfield 101, 3) := by decide +kernel
theorem dX9_instruction_7 : decode cX9_instruction 7 = .ok (.iconst 1, 1) := by decide +kernel
theorem dX9_instruction_8 : decode cX9_instruction 8 = .ok (.isub, 1) := by decide +kernel
theorem dX9_instruction_9 : decode cX9_instruction 9 = .ok (.invokestatic 87, 3) := by decide +kernel
theorem dX9_instruction_12 : decode cX9_instruction 12 = .ok (.ifCond .eq 16, 3) := by decide +kernel
theorem dX9_instruction_15 : decode cX9_instruction 15 = .ok (.iload_n 2, 1) := by decide +kernel
theorem dX9_instruction_16 : decode cX9_instruction 16 = .ok (.iconst 0, 1) := by decide +kernel
theorem dX9_instruction_17 : decode cX9_instruction 17 = .ok (.iconst 3, 1) := by decide +kernel
theorem dX9_instruction_18 : decode cX9_instruction 18 = .ok (.invokestatic 87, 3) := by decide +kernel
theorem dX9_instruction_21 : decode cX9_instruction 21 = .ok (.ifCond .eq 7, 3) := by decide +kernel
theorem dX9_instruction_24 : decode cX9_instruction 24 = .ok (.iconst 0, 1) := by decide +kernel
theorem dX9_instruction_25 : decode cX9_instruction 25 = .ok (.goto 4, 3) := by decide +kernel
theorem dX9_instruction_28 : decode cX9_instruction 28 = .ok (.iconst (-1), 1) := by decide +kernel
theorem dX9_instruction_29 : decode cX9_instruction 29 = .ok (.putfield 104, 3) := by decide +kernel
theorem dX9_instruction_32 : decode cX9_instruction 32 = .ok (.aload_n 0, 1) := by decide +kernel
theorem dX9_instruction_33 : decode cX9_instruction 33 = .ok (.getfield 104, 3) := by decide +kernel
theorem dX9_instruction_36 : decode cX9_instruction 36 = .ok (.ifCond .eq 5, 3) := by decide +kernel
theorem dX9_instruction_39 : decode cX9_instruction 39 = .ok (.iconst (-1), 1) := by decide +kernel
theorem dX9_instruction_40 : decode cX9_instruction 40 = .ok (.ireturn, 1) := by decide +kernel
theorem dX9_instruction_41 : decode cX9_instruction 41 = .ok (.iload_n 2, 1) := by decide +kernel
theorem dX9_instruction_42 : decode cX9_instruction 42 = .ok (.ifCond .ne 12, 3) := by decide +kernel
theorem dX9_instruction_45 : decode cX9_instruction 45 = .ok (.aload_n 0, 1) := by decide +kernel
theorem dX9_instruction_46 : decode cX9_instruction 46 = .ok (.getfield 7, 3) := by decide +kernel
theorem dX9_instruction_49 : decode cX9_instruction 49 = .ok (.iload_n 1, 1) := by decide +kernel
theorem dX9_instruction_50 : decode cX9_instruction 50 = .ok (.iaload, 1) := by decide +kernel
theorem dX9_instruction_51 : decode cX9_instruction 51 = .ok (.goto 37, 3) := by decide +kernel
theorem dX9_instruction_54 : decode cX9_instruction 54 = .ok (.iload_n 2, 1) := by decide +kernel
theorem dX9_instruction_55 : decode cX9_instruction 55 = .ok (.iconst 1, 1) := by decide +kernel
theorem dX9_instruction_56 : decode cX9_instruction 56 = .ok (.if_icmp .ne 12, 3) := by decide +kernel
theorem dX9_instruction_59 : decode cX9_instruction 59 = .ok (.aload_n 0, 1) := by decide +kernel
theorem dX9_instruction_60 : decode cX9_instruction 60 = .ok (.getfield 13, 3) := by decide +kernel
theorem dX9_instruction_63 : decode cX9_instruction 63 = .ok (.iload_n 1, 1) := by decide +kernel
theorem dX9_instruction_64 : decode cX9_instruction 64 = .ok (.iaload, 1) := by decide +kernel
theorem dX9_instruction_65 : decode cX9_instruction 65 = .ok (.goto 23, 3) := by decide +kernel
theorem dX9_instruction_68 : decode cX9_instruction 68 = .ok (.iload_n 2, 1) := by decide +kernel
theorem dX9_instruction_69 : decode cX9_instruction 69 = .ok (.iconst 2, 1) := by decide +kernel
theorem dX9_instruction_70 : decode cX9_instruction 70 = .ok (.if_icmp .ne 12, 3) := by decide +kernel
theorem dX9_instruction_73 : decode cX9_instruction 73 = .ok (.aload_n 0, 1) := by decide +kernel
theorem dX9_instruction_74 : decode cX9_instruction 74 = .ok (.getfield 16, 3) := by decide +kernel
theorem dX9_instruction_77 : decode cX9_instruction 77 = .ok (.iload_n 1, 1) := by decide +kernel
theorem dX9_instruction_78 : decode cX9_instruction 78 = .ok (.iaload, 1) := by decide +kernel
theorem dX9_instruction_79 : decode cX9_instruction 79 = .ok (.goto 9, 3) := by decide +kernel
theorem dX9_instruction_82 : decode cX9_instruction 82 = .ok (.aload_n 0, 1) := by decide +kernel
theorem dX9_instruction_83 : decode cX9_instruction 83 = .ok (.getfield 19, 3) := by decide +kernel
theorem dX9_instruction_86 : decode cX9_instruction 86 = .ok (.iload_n 1, 1) := by decide +kernel
theorem dX9_instruction_87 : decode cX9_instruction 87 = .ok (.iaload, 1) := by decide +kernel
theorem dX9_instruction_88 : decode cX9_instruction 88 = .ok (.ireturn, 1) := by decide +kernel
theorem dX9_status_0 : decode cX9_status 0 = .ok (.aload_n 0, 1) := by decide +kernel
theorem dX9_status_1 : decode cX9_status 1 = .ok (.getfield 104, 3) := by decide +kernel
theorem dX9_status_4 : decode cX9_status 4 = .ok (.ireturn, 1) := by decide +kernel
theorem dX9_feed_0 : decode cX9_feed 0 = .ok (.iload_n 1, 1) := by decide +kernel
theorem dX9_feed_1 : decode cX9_feed 1 = .ok (.iconst 0, 1) := by decide +kernel
theorem dX9_feed_2 : decode cX9_feed 2 = .ok (.sipush 255, 3) := by decide +kernel
theorem dX9_feed_5 : decode cX9_feed 5 = .ok (.invokestatic 87, 3) := by decide +kernel
theorem dX9_feed_8 : decode cX9_feed 8 = .ok (.ifCond .ne 6, 3) := by decide +kernel
theorem dX9_feed_11 : decode cX9_feed 11 = .ok (.bipush (-2), 2) := by decide +kernel
theorem dX9_feed_13 : decode cX9_feed 13 = .ok (.ireturn, 1) := by decide +kernel
theorem dX9_feed_14 : decode cX9_feed 14 = .ok (.aload_n 0, 1) := by decide +kernel
theorem dX9_feed_15 : decode cX9_feed 15 = .ok (.getfield 107, 3) := by decide +kernel
theorem dX9_feed_18 : decode cX9_feed 18 = .ok (.bipush 24, 2) := by decide +kernel
theorem dX9_feed_20 : decode cX9_feed 20 = .ok (.if_icmp .ne 6, 3) := by decide +kernel
theorem dX9_feed_23 : decode cX9_feed 23 = .ok (.bipush (-4), 2) := by decide +kernel
theorem dX9_feed_25 : decode cX9_feed 25 = .ok (.ireturn, 1) := by decide +kernel
theorem dX9_feed_26 : decode cX9_feed 26 = .ok (.aload_n 0, 1) := by decide +kernel
theorem dX9_feed_27 : decode cX9_feed 27 = .ok (.getfield 22, 3) := by decide +kernel
theorem dX9_feed_30 : decode cX9_feed 30 = .ok (.aload_n 0, 1) := by decide +kernel
theorem dX9_feed_31 : decode cX9_feed 31 = .ok (.getfield 107, 3) := by decide +kernel
theorem dX9_feed_34 : decode cX9_feed 34 = .ok (.iload_n 1, 1) := by decide +kernel
theorem dX9_feed_35 : decode cX9_feed 35 = .ok (.iastore, 1) := by decide +kernel
theorem dX9_feed_36 : decode cX9_feed 36 = .ok (.aload_n 0, 1) := by decide +kernel
theorem dX9_feed_37 : decode cX9_feed 37 = .ok (.dup, 1) := by decide +kernel
theorem dX9_feed_38 : decode cX9_feed 38 = .ok (.getfield 107, 3) := by decide +kernel
theorem dX9_feed_41 : decode cX9_feed 41 = .ok (.iconst 1, 1) := by decide +kernel
theorem dX9_feed_42 : decode cX9_feed 42 = .ok (.iadd, 1) := by decide +kernel
theorem dX9_feed_43 : decode cX9_feed 43 = .ok (.putfield 107, 3) := by decide +kernel
theorem dX9_feed_46 : decode cX9_feed 46 = .ok (.aload_n 0, 1) := by decide +kernel
theorem dX9_feed_47 : decode cX9_feed 47 = .ok (.getfield 107, 3) := by decide +kernel
theorem dX9_feed_50 : decode cX9_feed 50 = .ok (.ireturn, 1) := by decide +kernel
theorem dX9_keep_0 : decode cX9_keep 0 = .ok (.iload_n 1, 1) := by decide +kernel
theorem dX9_keep_1 : decode cX9_keep 1 = .ok (.iconst 0, 1) := by decide +kernel
theorem dX9_keep_2 : decode cX9_keep 2 = .ok (.aload_n 0, 1) := by decide +kernel
theorem dX9_keep_3 : decode cX9_keep 3 = .ok (.getfield 107, 3) := by decide +kernel
theorem dX9_keep_6 : decode cX9_keep 6 = .ok (.invokestatic 87, 3) := by decide +kernel
theorem dX9_keep_9 : decode cX9_keep 9 = .ok (.ifCond .ne 6, 3) := by decide +kernel
theorem dX9_keep_12 : decode cX9_keep 12 = .ok (.bipush (-2), 2) := by decide +kernel
theorem dX9_keep_14 : decode cX9_keep 14 = .ok (.ireturn, 1) := by decide +kernel
theorem dX9_keep_15 : decode cX9_keep 15 = .ok (.aload_n 0, 1) := by decide +kernel
theorem dX9_keep_16 : decode cX9_keep 16 = .ok (.iload_n 1, 1) := by decide +kernel
theorem dX9_keep_17 : decode cX9_keep 17 = .ok (.putfield 107, 3) := by decide +kernel
theorem dX9_keep_20 : decode cX9_keep 20 = .ok (.iload_n 1, 1) := by decide +kernel
theorem dX9_keep_21 : decode cX9_keep 21 = .ok (.ireturn, 1) := by decide +kernel
theorem dX9_at_0 : decode cX9_at 0 = .ok (.iload_n 1, 1) := by decide +kernel
theorem dX9_at_1 : decode cX9_at 1 = .ok (.iconst 0, 1) := by decide +kernel
theorem dX9_at_2 : decode cX9_at 2 = .ok (.aload_n 0, 1) := by decide +kernel
theorem dX9_at_3 : decode cX9_at 3 = .ok (.getfield 107, 3) := by decide +kernel
theorem dX9_at_6 : decode cX9_at 6 = .ok (.iconst 1, 1) := by decide +kernel
theorem dX9_at_7 : decode cX9_at 7 = .ok (.isub, 1) := by decide +kernel
theorem dX9_at_8 : decode cX9_at 8 = .ok (.invokestatic 87, 3) := by decide +kernel
theorem dX9_at_11 : decode cX9_at 11 = .ok (.ifCond .eq 12, 3) := by decide +kernel
theorem dX9_at_14 : decode cX9_at 14 = .ok (.aload_n 0, 1) := by decide +kernel
theorem dX9_at_15 : decode cX9_at 15 = .ok (.getfield 22, 3) := by decide +kernel
theorem dX9_at_18 : decode cX9_at 18 = .ok (.iload_n 1, 1) := by decide +kernel
theorem dX9_at_19 : decode cX9_at 19 = .ok (.iaload, 1) := by decide +kernel
theorem dX9_at_20 : decode cX9_at 20 = .ok (.goto 4, 3) := by decide +kernel
theorem dX9_at_23 : decode cX9_at 23 = .ok (.iconst (-1), 1) := by decide +kernel
theorem dX9_at_24 : decode cX9_at 24 = .ok (.ireturn, 1) := by decide +kernel
theorem dX9_fromTape_0 : decode cX9_fromTape 0 = .ok (.aload_n 0, 1) := by decide +kernel
theorem dX9_fromTape_1 : decode cX9_fromTape 1 = .ok (.aload_n 0, 1) := by decide +kernel
theorem dX9_fromTape_2 : decode cX9_fromTape 2 = .ok (.getfield 107, 3) := by decide +kernel
theorem dX9_fromTape_5 : decode cX9_fromTape 5 = .ok (.putfield 110, 3) := by decide +kernel
theorem dX9_fromTape_8 : decode cX9_fromTape 8 = .ok (.iconst 0, 1) := by decide +kernel
theorem dX9_fromTape_9 : decode cX9_fromTape 9 = .ok (.istore_n 1, 1) := by decide +kernel
theorem dX9_fromTape_10 : decode cX9_fromTape 10 = .ok (.iload_n 1, 1) := by decide +kernel
theorem dX9_fromTape_11 : decode cX9_fromTape 11 = .ok (.aload_n 0, 1) := by decide +kernel
theorem dX9_fromTape_12 : decode cX9_fromTape 12 = .ok (.getfield 107, 3) := by decide +kernel
theorem dX9_fromTape_15 : decode cX9_fromTape 15 = .ok (.if_icmp .ge 21, 3) := by decide +kernel
theorem dX9_fromTape_18 : decode cX9_fromTape 18 = .ok (.aload_n 0, 1) := by decide +kernel
theorem dX9_fromTape_19 : decode cX9_fromTape 19 = .ok (.getfield 25, 3) := by decide +kernel
theorem dX9_fromTape_22 : decode cX9_fromTape 22 = .ok (.iload_n 1, 1) := by decide +kernel
theorem dX9_fromTape_23 : decode cX9_fromTape 23 = .ok (.aload_n 0, 1) := by decide +kernel
theorem dX9_fromTape_24 : decode cX9_fromTape 24 = .ok (.getfield 22, 3) := by decide +kernel
theorem dX9_fromTape_27 : decode cX9_fromTape 27 = .ok (.iload_n 1, 1) := by decide +kernel
theorem dX9_fromTape_28 : decode cX9_fromTape 28 = .ok (.iaload, 1) := by decide +kernel
theorem dX9_fromTape_29 : decode cX9_fromTape 29 = .ok (.iastore, 1) := by decide +kernel
theorem dX9_fromTape_30 : decode cX9_fromTape 30 = .ok (.iinc 1 1, 3) := by decide +kernel
theorem dX9_fromTape_33 : decode cX9_fromTape 33 = .ok (.goto (-23), 3) := by decide +kernel
theorem dX9_fromTape_36 : decode cX9_fromTape 36 = .ok (.return_, 1) := by decide +kernel
theorem dX9_toTape_0 : decode cX9_toTape 0 = .ok (.aload_n 0, 1) := by decide +kernel
theorem dX9_toTape_1 : decode cX9_toTape 1 = .ok (.aload_n 0, 1) := by decide +kernel
theorem dX9_toTape_2 : decode cX9_toTape 2 = .ok (.getfield 110, 3) := by decide +kernel
theorem dX9_toTape_5 : decode cX9_toTape 5 = .ok (.putfield 107, 3) := by decide +kernel
theorem dX9_toTape_8 : decode cX9_toTape 8 = .ok (.iconst 0, 1) := by decide +kernel
theorem dX9_toTape_9 : decode cX9_toTape 9 = .ok (.istore_n 1, 1) := by decide +kernel
theorem dX9_toTape_10 : decode cX9_toTape 10 = .ok (.iload_n 1, 1) := by decide +kernel
theorem dX9_toTape_11 : decode cX9_toTape 11 = .ok (.aload_n 0, 1) := by decide +kernel
theorem dX9_toTape_12 : decode cX9_toTape 12 = .ok (.getfield 110, 3) := by decide +kernel
theorem dX9_toTape_15 : decode cX9_toTape 15 = .ok (.if_icmp .ge 21, 3) := by decide +kernel
theorem dX9_toTape_18 : decode cX9_toTape 18 = .ok (.aload_n 0, 1) := by decide +kernel
theorem dX9_toTape_19 : decode cX9_toTape 19 = .ok (.getfield 22, 3) := by decide +kernel
theorem dX9_toTape_22 : decode cX9_toTape 22 = .ok (.iload_n 1, 1) := by decide +kernel
theorem dX9_toTape_23 : decode cX9_toTape 23 = .ok (.aload_n 0, 1) := by decide +kernel
theorem dX9_toTape_24 : decode cX9_toTape 24 = .ok (.getfield 25, 3) := by decide +kernel
theorem dX9_toTape_27 : decode cX9_toTape 27 = .ok (.iload_n 1, 1) := by decide +kernel
theorem dX9_toTape_28 : decode cX9_toTape 28 = .ok (.iaload, 1) := by decide +kernel
theorem dX9_toTape_29 : decode cX9_toTape 29 = .ok (.iastore, 1) := by decide +kernel
theorem dX9_toTape_30 : decode cX9_toTape 30 = .ok (.iinc 1 1, 3) := by decide +kernel
theorem dX9_toTape_33 : decode cX9_toTape 33 = .ok (.goto (-23), 3) := by decide +kernel
theorem dX9_toTape_36 : decode cX9_toTape 36 = .ok (.aload_n 0, 1) := by decide +kernel
theorem dX9_toTape_37 : decode cX9_toTape 37 = .ok (.getfield 107, 3) := by decide +kernel
theorem dX9_toTape_40 : decode cX9_toTape 40 = .ok (.ireturn, 1) := by decide +kernel
theorem dX9_change_0 : decode cX9_change 0 = .ok (.iload_n 1, 1) := by decide +kernel
theorem dX9_change_1 : decode cX9_change 1 = .ok (.iconst 0, 1) := by decide +kernel
theorem dX9_change_2 : decode cX9_change 2 = .ok (.iconst 1, 1) := by decide +kernel
theorem dX9_change_3 : decode cX9_change 3 = .ok (.invokestatic 87, 3) := by decide +kernel
theorem dX9_change_6 : decode cX9_change 6 = .ok (.ifCond .ne 5, 3) := by decide +kernel
theorem dX9_change_9 : decode cX9_change 9 = .ok (.iconst (-1), 1) := by decide +kernel
theorem dX9_change_10 : decode cX9_change 10 = .ok (.ireturn, 1) := by decide +kernel
theorem dX9_change_11 : decode cX9_change 11 = .ok (.iload_n 2, 1) := by decide +kernel
theorem dX9_change_12 : decode cX9_change 12 = .ok (.iconst 0, 1) := by decide +kernel
theorem dX9_change_13 : decode cX9_change 13 = .ok (.bipush 6, 2) := by decide +kernel
theorem dX9_change_15 : decode cX9_change 15 = .ok (.invokestatic 87, 3) := by decide +kernel
theorem dX9_change_18 : decode cX9_change 18 = .ok (.ifCond .eq 24, 3) := by decide +kernel
theorem dX9_change_21 : decode cX9_change 21 = .ok (.iload_n 3, 1) := by decide +kernel
theorem dX9_change_22 : decode cX9_change 22 = .ok (.iconst 0, 1) := by decide +kernel
theorem dX9_change_23 : decode cX9_change 23 = .ok (.ldc 113, 2) := by decide +kernel
theorem dX9_change_25 : decode cX9_change 25 = .ok (.invokestatic 87, 3) := by decide +kernel
theorem dX9_change_28 : decode cX9_change 28 = .ok (.ifCond .eq 14, 3) := by decide +kernel
theorem dX9_change_31 : decode cX9_change 31 = .ok (.iload 4, 2) := by decide +kernel
theorem dX9_change_33 : decode cX9_change 33 = .ok (.iconst 0, 1) := by decide +kernel
theorem dX9_change_34 : decode cX9_change 34 = .ok (.ldc 113, 2) := by decide +kernel
theorem dX9_change_36 : decode cX9_change 36 = .ok (.invokestatic 87, 3) := by decide +kernel
theorem dX9_change_39 : decode cX9_change 39 = .ok (.ifCond .ne 6, 3) := by decide +kernel
theorem dX9_change_42 : decode cX9_change 42 = .ok (.bipush (-2), 2) := by decide +kernel
theorem dX9_change_44 : decode cX9_change 44 = .ok (.ireturn, 1) := by decide +kernel
theorem dX9_change_45 : decode cX9_change 45 = .ok (.aload_n 0, 1) := by decide +kernel
theorem dX9_change_46 : decode cX9_change 46 = .ok (.getfield 107, 3) := by decide +kernel
theorem dX9_change_49 : decode cX9_change 49 = .ok (.istore 5, 2) := by decide +kernel
theorem dX9_change_51 : decode cX9_change 51 = .ok (.iload 5, 2) := by decide +kernel
theorem dX9_change_53 : decode cX9_change 53 = .ok (.ifCond .ne 14, 3) := by decide +kernel
theorem dX9_change_56 : decode cX9_change 56 = .ok (.iload_n 2, 1) := by decide +kernel
theorem dX9_change_57 : decode cX9_change 57 = .ok (.iconst 4, 1) := by decide +kernel
theorem dX9_change_58 : decode cX9_change 58 = .ok (.if_icmp .eq 9, 3) := by decide +kernel
theorem dX9_change_61 : decode cX9_change 61 = .ok (.iload_n 2, 1) := by decide +kernel
theorem dX9_change_62 : decode cX9_change 62 = .ok (.bipush 6, 2) := by decide +kernel
theorem dX9_change_64 : decode cX9_change 64 = .ok (.if_icmp .ne 18, 3) := by decide +kernel
theorem dX9_change_67 : decode cX9_change 67 = .ok (.iload_n 2, 1) := by decide +kernel
theorem dX9_change_68 : decode cX9_change 68 = .ok (.bipush 6, 2) := by decide +kernel
theorem dX9_change_70 : decode cX9_change 70 = .ok (.if_icmp .ne 15, 3) := by decide +kernel
theorem dX9_change_73 : decode cX9_change 73 = .ok (.aload_n 0, 1) := by decide +kernel
theorem dX9_change_74 : decode cX9_change 74 = .ok (.getfield 59, 3) := by decide +kernel
theorem dX9_change_77 : decode cX9_change 77 = .ok (.iload_n 1, 1) := by decide +kernel
theorem dX9_change_78 : decode cX9_change 78 = .ok (.iaload, 1) := by decide +kernel
theorem dX9_change_79 : decode cX9_change 79 = .ok (.ifCond .ne 6, 3) := by decide +kernel
theorem dX9_change_82 : decode cX9_change 82 = .ok (.iload 5, 2) := by decide +kernel
theorem dX9_change_84 : decode cX9_change 84 = .ok (.ireturn, 1) := by decide +kernel
theorem dX9_change_85 : decode cX9_change 85 = .ok (.aload_n 0, 1) := by decide +kernel
theorem dX9_change_86 : decode cX9_change 86 = .ok (.invokevirtual 114, 3) := by decide +kernel
theorem dX9_change_89 : decode cX9_change 89 = .ok (.iload 5, 2) := by decide +kernel
theorem dX9_change_91 : decode cX9_change 91 = .ok (.ifCond .ne 7, 3) := by decide +kernel
theorem dX9_change_94 : decode cX9_change 94 = .ok (.iconst 0, 1) := by decide +kernel
theorem dX9_change_95 : decode cX9_change 95 = .ok (.goto 7, 3) := by decide +kernel
theorem dX9_change_98 : decode cX9_change 98 = .ok (.iload_n 3, 1) := by decide +kernel
theorem dX9_change_99 : decode cX9_change 99 = .ok (.iload 5, 2) := by decide +kernel
theorem dX9_change_101 : decode cX9_change 101 = .ok (.irem, 1) := by decide +kernel
theorem dX9_change_102 : decode cX9_change 102 = .ok (.istore 6, 2) := by decide +kernel
theorem dX9_change_104 : decode cX9_change 104 = .ok (.iconst 1, 1) := by decide +kernel
theorem dX9_change_105 : decode cX9_change 105 = .ok (.iload 4, 2) := by decide +kernel
theorem dX9_change_107 : decode cX9_change 107 = .ok (.iconst 4, 1) := by decide +kernel
theorem dX9_change_108 : decode cX9_change 108 = .ok (.irem, 1) := by decide +kernel
theorem dX9_change_109 : decode cX9_change 109 = .ok (.iadd, 1) := by decide +kernel
theorem dX9_change_110 : decode cX9_change 110 = .ok (.istore 7, 2) := by decide +kernel
theorem dX9_change_112 : decode cX9_change 112 = .ok (.iload 6, 2) := by decide +kernel
theorem dX9_change_114 : decode cX9_change 114 = .ok (.iload 7, 2) := by decide +kernel
theorem dX9_change_116 : decode cX9_change 116 = .ok (.iadd, 1) := by decide +kernel
theorem dX9_change_117 : decode cX9_change 117 = .ok (.iload 5, 2) := by decide +kernel
theorem dX9_change_119 : decode cX9_change 119 = .ok (.if_icmp .le 11, 3) := by decide +kernel
theorem dX9_change_122 : decode cX9_change 122 = .ok (.iload 5, 2) := by decide +kernel
theorem dX9_change_124 : decode cX9_change 124 = .ok (.iload 6, 2) := by decide +kernel
theorem dX9_change_126 : decode cX9_change 126 = .ok (.isub, 1) := by decide +kernel
theorem dX9_change_127 : decode cX9_change 127 = .ok (.goto 5, 3) := by decide +kernel
theorem dX9_change_130 : decode cX9_change 130 = .ok (.iload 7, 2) := by decide +kernel
theorem dX9_change_132 : decode cX9_change 132 = .ok (.istore 7, 2) := by decide +kernel
theorem dX9_change_134 : decode cX9_change 134 = .ok (.iload_n 3, 1) := by decide +kernel
theorem dX9_change_135 : decode cX9_change 135 = .ok (.iload 5, 2) := by decide +kernel
theorem dX9_change_137 : decode cX9_change 137 = .ok (.iconst 1, 1) := by decide +kernel
theorem dX9_change_138 : decode cX9_change 138 = .ok (.iadd, 1) := by decide +kernel
theorem dX9_change_139 : decode cX9_change 139 = .ok (.irem, 1) := by decide +kernel
theorem dX9_change_140 : decode cX9_change 140 = .ok (.istore 8, 2) := by decide +kernel
theorem dX9_change_142 : decode cX9_change 142 = .ok (.iload_n 2, 1) := by decide +kernel
theorem dX9_change_143 : decode cX9_change 143 = .ok (.tableswitch 177 0 5 #[37, 57, 73, 84, 125, 140], 37) := by decide +kernel
theorem dX9_change_180 : decode cX9_change 180 = .ok (.aload_n 0, 1) := by decide +kernel
theorem dX9_change_181 : decode cX9_change 181 = .ok (.getfield 25, 3) := by decide +kernel
theorem dX9_change_184 : decode cX9_change 184 = .ok (.iload 6, 2) := by decide +kernel
theorem dX9_change_186 : decode cX9_change 186 = .ok (.dup2, 1) := by decide +kernel
theorem dX9_change_187 : decode cX9_change 187 = .ok (.iaload, 1) := by decide +kernel
theorem dX9_change_188 : decode cX9_change 188 = .ok (.iconst 1, 1) := by decide +kernel
theorem dX9_change_189 : decode cX9_change 189 = .ok (.iload 4, 2) := by decide +kernel
theorem dX9_change_191 : decode cX9_change 191 = .ok (.bipush 8, 2) := by decide +kernel
theorem dX9_change_193 : decode cX9_change 193 = .ok (.irem, 1) := by decide +kernel
theorem dX9_change_194 : decode cX9_change 194 = .ok (.ishl, 1) := by decide +kernel
theorem dX9_change_195 : decode cX9_change 195 = .ok (.ixor, 1) := by decide +kernel
theorem dX9_change_196 : decode cX9_change 196 = .ok (.iastore, 1) := by decide +kernel
theorem dX9_change_197 : decode cX9_change 197 = .ok (.goto 195, 3) := by decide +kernel
theorem dX9_change_200 : decode cX9_change 200 = .ok (.aload_n 0, 1) := by decide +kernel
theorem dX9_change_201 : decode cX9_change 201 = .ok (.getfield 25, 3) := by decide +kernel
theorem dX9_change_204 : decode cX9_change 204 = .ok (.iload 6, 2) := by decide +kernel
theorem dX9_change_206 : decode cX9_change 206 = .ok (.iload 4, 2) := by decide +kernel
theorem dX9_change_208 : decode cX9_change 208 = .ok (.sipush 256, 3) := by decide +kernel
theorem dX9_change_211 : decode cX9_change 211 = .ok (.irem, 1) := by decide +kernel
theorem dX9_change_212 : decode cX9_change 212 = .ok (.iastore, 1) := by decide +kernel
theorem dX9_change_213 : decode cX9_change 213 = .ok (.goto 179, 3) := by decide +kernel
theorem dX9_change_216 : decode cX9_change 216 = .ok (.aload_n 0, 1) := by decide +kernel
theorem dX9_change_217 : decode cX9_change 217 = .ok (.iload 6, 2) := by decide +kernel
theorem dX9_change_219 : decode cX9_change 219 = .ok (.iload 7, 2) := by decide +kernel
theorem dX9_change_221 : decode cX9_change 221 = .ok (.invokevirtual 117, 3) := by decide +kernel
theorem dX9_change_224 : decode cX9_change 224 = .ok (.goto 168, 3) := by decide +kernel
theorem dX9_change_227 : decode cX9_change 227 = .ok (.iconst 0, 1) := by decide +kernel
theorem dX9_change_228 : decode cX9_change 228 = .ok (.istore 9, 2) := by decide +kernel
theorem dX9_change_230 : decode cX9_change 230 = .ok (.iload 9, 2) := by decide +kernel
theorem dX9_change_232 : decode cX9_change 232 = .ok (.iload 7, 2) := by decide +kernel
theorem dX9_change_234 : decode cX9_change 234 = .ok (.if_icmp .ge 31, 3) := by decide +kernel
theorem dX9_change_237 : decode cX9_change 237 = .ok (.aload_n 0, 1) := by decide +kernel
theorem dX9_change_238 : decode cX9_change 238 = .ok (.iload 6, 2) := by decide +kernel
theorem dX9_change_240 : decode cX9_change 240 = .ok (.iload 7, 2) := by decide +kernel
theorem dX9_change_242 : decode cX9_change 242 = .ok (.iadd, 1) := by decide +kernel
theorem dX9_change_243 : decode cX9_change 243 = .ok (.iload 9, 2) := by decide +kernel
theorem dX9_change_245 : decode cX9_change 245 = .ok (.iadd, 1) := by decide +kernel
theorem dX9_change_246 : decode cX9_change 246 = .ok (.aload_n 0, 1) := by decide +kernel
theorem dX9_change_247 : decode cX9_change 247 = .ok (.getfield 22, 3) := by decide +kernel
theorem dX9_change_250 : decode cX9_change 250 = .ok (.iload 6, 2) := by decide +kernel
theorem dX9_change_252 : decode cX9_change 252 = .ok (.iload 9, 2) := by decide +kernel
theorem dX9_change_254 : decode cX9_change 254 = .ok (.iadd, 1) := by decide +kernel
theorem dX9_change_255 : decode cX9_change 255 = .ok (.iaload, 1) := by decide +kernel
theorem dX9_change_256 : decode cX9_change 256 = .ok (.invokevirtual 121, 3) := by decide +kernel
theorem dX9_change_259 : decode cX9_change 259 = .ok (.iinc 9 1, 3) := by decide +kernel
theorem dX9_change_262 : decode cX9_change 262 = .ok (.goto (-32), 3) := by decide +kernel
theorem dX9_change_265 : decode cX9_change 265 = .ok (.goto 127, 3) := by decide +kernel
theorem dX9_change_268 : decode cX9_change 268 = .ok (.aload_n 0, 1) := by decide +kernel
theorem dX9_change_269 : decode cX9_change 269 = .ok (.iload 8, 2) := by decide +kernel
theorem dX9_change_271 : decode cX9_change 271 = .ok (.iload 4, 2) := by decide +kernel
theorem dX9_change_273 : decode cX9_change 273 = .ok (.sipush 256, 3) := by decide +kernel
theorem dX9_change_276 : decode cX9_change 276 = .ok (.irem, 1) := by decide +kernel
theorem dX9_change_277 : decode cX9_change 277 = .ok (.invokevirtual 121, 3) := by decide +kernel
theorem dX9_change_280 : decode cX9_change 280 = .ok (.goto 112, 3) := by decide +kernel
theorem dX9_change_283 : decode cX9_change 283 = .ok (.aload_n 0, 1) := by decide +kernel
theorem dX9_change_284 : decode cX9_change 284 = .ok (.getfield 25, 3) := by decide +kernel
theorem dX9_change_287 : decode cX9_change 287 = .ok (.iload 6, 2) := by decide +kernel
theorem dX9_change_289 : decode cX9_change 289 = .ok (.aload_n 0, 1) := by decide +kernel
theorem dX9_change_290 : decode cX9_change 290 = .ok (.getfield 25, 3) := by decide +kernel
theorem dX9_change_293 : decode cX9_change 293 = .ok (.iload 6, 2) := by decide +kernel
theorem dX9_change_295 : decode cX9_change 295 = .ok (.iaload, 1) := by decide +kernel
theorem dX9_change_296 : decode cX9_change 296 = .ok (.iload 4, 2) := by decide +kernel
theorem dX9_change_298 : decode cX9_change 298 = .ok (.iconst 2, 1) := by decide +kernel
theorem dX9_change_299 : decode cX9_change 299 = .ok (.irem, 1) := by decide +kernel
theorem dX9_change_300 : decode cX9_change 300 = .ok (.iconst 1, 1) := by decide +kernel
theorem dX9_change_301 : decode cX9_change 301 = .ok (.if_icmp .ne 7, 3) := by decide +kernel
theorem dX9_change_304 : decode cX9_change 304 = .ok (.iconst 1, 1) := by decide +kernel
theorem dX9_change_305 : decode cX9_change 305 = .ok (.goto 6, 3) := by decide +kernel
theorem dX9_change_308 : decode cX9_change 308 = .ok (.sipush 255, 3) := by decide +kernel
theorem dX9_change_311 : decode cX9_change 311 = .ok (.iadd, 1) := by decide +kernel
theorem dX9_change_312 : decode cX9_change 312 = .ok (.sipush 255, 3) := by decide +kernel
theorem dX9_change_315 : decode cX9_change 315 = .ok (.iand, 1) := by decide +kernel
theorem dX9_change_316 : decode cX9_change 316 = .ok (.iastore, 1) := by decide +kernel
theorem dX9_change_317 : decode cX9_change 317 = .ok (.goto 75, 3) := by decide +kernel
theorem dX9_change_320 : decode cX9_change 320 = .ok (.bipush 40, 2) := by decide +kernel
theorem dX9_change_322 : decode cX9_change 322 = .ok (.iload_n 1, 1) := by decide +kernel
theorem dX9_change_323 : decode cX9_change 323 = .ok (.imul, 1) := by decide +kernel
theorem dX9_change_324 : decode cX9_change 324 = .ok (.iload 4, 2) := by decide +kernel
theorem dX9_change_326 : decode cX9_change 326 = .ok (.aload_n 0, 1) := by decide +kernel
theorem dX9_change_327 : decode cX9_change 327 = .ok (.getfield 59, 3) := by decide +kernel
theorem dX9_change_330 : decode cX9_change 330 = .ok (.iload_n 1, 1) := by decide +kernel
theorem dX9_change_331 : decode cX9_change 331 = .ok (.iaload, 1) := by decide +kernel
theorem dX9_change_332 : decode cX9_change 332 = .ok (.irem, 1) := by decide +kernel
theorem dX9_change_333 : decode cX9_change 333 = .ok (.iadd, 1) := by decide +kernel
theorem dX9_change_334 : decode cX9_change 334 = .ok (.istore 9, 2) := by decide +kernel
theorem dX9_change_336 : decode cX9_change 336 = .ok (.aload_n 0, 1) := by decide +kernel
theorem dX9_change_337 : decode cX9_change 337 = .ok (.iload 8, 2) := by decide +kernel
theorem dX9_change_339 : decode cX9_change 339 = .ok (.putfield 110, 3) := by decide +kernel
theorem dX9_change_342 : decode cX9_change 342 = .ok (.iload 8, 2) := by decide +kernel
theorem dX9_change_344 : decode cX9_change 344 = .ok (.istore 10, 2) := by decide +kernel
theorem dX9_change_346 : decode cX9_change 346 = .ok (.iload 10, 2) := by decide +kernel
theorem dX9_change_348 : decode cX9_change 348 = .ok (.aload_n 0, 1) := by decide +kernel
theorem dX9_change_349 : decode cX9_change 349 = .ok (.getfield 56, 3) := by decide +kernel
theorem dX9_change_352 : decode cX9_change 352 = .ok (.iload 9, 2) := by decide +kernel
theorem dX9_change_354 : decode cX9_change 354 = .ok (.iaload, 1) := by decide +kernel
theorem dX9_change_355 : decode cX9_change 355 = .ok (.if_icmp .ge 37, 3) := by decide +kernel
theorem dX9_change_358 : decode cX9_change 358 = .ok (.aload_n 0, 1) := by decide +kernel
theorem dX9_change_359 : decode cX9_change 359 = .ok (.getfield 25, 3) := by decide +kernel
theorem dX9_change_362 : decode cX9_change 362 = .ok (.iload 10, 2) := by decide +kernel
theorem dX9_change_364 : decode cX9_change 364 = .ok (.aload_n 0, 1) := by decide +kernel
theorem dX9_change_365 : decode cX9_change 365 = .ok (.getfield 53, 3) := by decide +kernel
theorem dX9_change_368 : decode cX9_change 368 = .ok (.bipush 24, 2) := by decide +kernel
theorem dX9_change_370 : decode cX9_change 370 = .ok (.iload 9, 2) := by decide +kernel
theorem dX9_change_372 : decode cX9_change 372 = .ok (.imul, 1) := by decide +kernel
theorem dX9_change_373 : decode cX9_change 373 = .ok (.iload 10, 2) := by decide +kernel
theorem dX9_change_375 : decode cX9_change 375 = .ok (.iadd, 1) := by decide +kernel
theorem dX9_change_376 : decode cX9_change 376 = .ok (.iaload, 1) := by decide +kernel
theorem dX9_change_377 : decode cX9_change 377 = .ok (.iastore, 1) := by decide +kernel
theorem dX9_change_378 : decode cX9_change 378 = .ok (.aload_n 0, 1) := by decide +kernel
theorem dX9_change_379 : decode cX9_change 379 = .ok (.iload 10, 2) := by decide +kernel
theorem dX9_change_381 : decode cX9_change 381 = .ok (.iconst 1, 1) := by decide +kernel
theorem dX9_change_382 : decode cX9_change 382 = .ok (.iadd, 1) := by decide +kernel
theorem dX9_change_383 : decode cX9_change 383 = .ok (.putfield 110, 3) := by decide +kernel
theorem dX9_change_386 : decode cX9_change 386 = .ok (.iinc 10 1, 3) := by decide +kernel
theorem dX9_change_389 : decode cX9_change 389 = .ok (.goto (-43), 3) := by decide +kernel
theorem dX9_change_392 : decode cX9_change 392 = .ok (.aload_n 0, 1) := by decide +kernel
theorem dX9_change_393 : decode cX9_change 393 = .ok (.invokevirtual 124, 3) := by decide +kernel
theorem dX9_change_396 : decode cX9_change 396 = .ok (.ireturn, 1) := by decide +kernel
theorem dX9_comes_0 : decode cX9_comes 0 = .ok (.iload_n 1, 1) := by decide +kernel
theorem dX9_comes_1 : decode cX9_comes 1 = .ok (.bipush 24, 2) := by decide +kernel
theorem dX9_comes_3 : decode cX9_comes 3 = .ok (.if_icmp .lt 4, 3) := by decide +kernel
theorem dX9_comes_6 : decode cX9_comes 6 = .ok (.return_, 1) := by decide +kernel
theorem dX9_comes_7 : decode cX9_comes 7 = .ok (.aload_n 0, 1) := by decide +kernel
theorem dX9_comes_8 : decode cX9_comes 8 = .ok (.getfield 110, 3) := by decide +kernel
theorem dX9_comes_11 : decode cX9_comes 11 = .ok (.bipush 24, 2) := by decide +kernel
theorem dX9_comes_13 : decode cX9_comes 13 = .ok (.if_icmp .ge 10, 3) := by decide +kernel
theorem dX9_comes_16 : decode cX9_comes 16 = .ok (.aload_n 0, 1) := by decide +kernel
theorem dX9_comes_17 : decode cX9_comes 17 = .ok (.getfield 110, 3) := by decide +kernel
theorem dX9_comes_20 : decode cX9_comes 20 = .ok (.goto 5, 3) := by decide +kernel
theorem dX9_comes_23 : decode cX9_comes 23 = .ok (.bipush 23, 2) := by decide +kernel
theorem dX9_comes_25 : decode cX9_comes 25 = .ok (.istore_n 3, 1) := by decide +kernel
theorem dX9_comes_26 : decode cX9_comes 26 = .ok (.iload_n 3, 1) := by decide +kernel
theorem dX9_comes_27 : decode cX9_comes 27 = .ok (.iload_n 1, 1) := by decide +kernel
theorem dX9_comes_28 : decode cX9_comes 28 = .ok (.if_icmp .le 23, 3) := by decide +kernel
theorem dX9_comes_31 : decode cX9_comes 31 = .ok (.aload_n 0, 1) := by decide +kernel
theorem dX9_comes_32 : decode cX9_comes 32 = .ok (.getfield 25, 3) := by decide +kernel
theorem dX9_comes_35 : decode cX9_comes 35 = .ok (.iload_n 3, 1) := by decide +kernel
theorem dX9_comes_36 : decode cX9_comes 36 = .ok (.aload_n 0, 1) := by decide +kernel
theorem dX9_comes_37 : decode cX9_comes 37 = .ok (.getfield 25, 3) := by decide +kernel
theorem dX9_comes_40 : decode cX9_comes 40 = .ok (.iload_n 3, 1) := by decide +kernel
theorem dX9_comes_41 : decode cX9_comes 41 = .ok (.iconst 1, 1) := by decide +kernel
theorem dX9_comes_42 : decode cX9_comes 42 = .ok (.isub, 1) := by decide +kernel
theorem dX9_comes_43 : decode cX9_comes 43 = .ok (.iaload, 1) := by decide +kernel
theorem dX9_comes_44 : decode cX9_comes 44 = .ok (.iastore, 1) := by decide +kernel
theorem dX9_comes_45 : decode cX9_comes 45 = .ok (.iinc 3 (-1), 3) := by decide +kernel
theorem dX9_comes_48 : decode cX9_comes 48 = .ok (.goto (-22), 3) := by decide +kernel
theorem dX9_comes_51 : decode cX9_comes 51 = .ok (.aload_n 0, 1) := by decide +kernel
theorem dX9_comes_52 : decode cX9_comes 52 = .ok (.getfield 25, 3) := by decide +kernel
theorem dX9_comes_55 : decode cX9_comes 55 = .ok (.iload_n 1, 1) := by decide +kernel
theorem dX9_comes_56 : decode cX9_comes 56 = .ok (.iload_n 2, 1) := by decide +kernel
theorem dX9_comes_57 : decode cX9_comes 57 = .ok (.iastore, 1) := by decide +kernel
theorem dX9_comes_58 : decode cX9_comes 58 = .ok (.aload_n 0, 1) := by decide +kernel
theorem dX9_comes_59 : decode cX9_comes 59 = .ok (.aload_n 0, 1) := by decide +kernel
theorem dX9_comes_60 : decode cX9_comes 60 = .ok (.getfield 110, 3) := by decide +kernel
theorem dX9_comes_63 : decode cX9_comes 63 = .ok (.bipush 24, 2) := by decide +kernel
theorem dX9_comes_65 : decode cX9_comes 65 = .ok (.if_icmp .ge 12, 3) := by decide +kernel
theorem dX9_comes_68 : decode cX9_comes 68 = .ok (.aload_n 0, 1) := by decide +kernel
theorem dX9_comes_69 : decode cX9_comes 69 = .ok (.getfield 110, 3) := by decide +kernel
theorem dX9_comes_72 : decode cX9_comes 72 = .ok (.iconst 1, 1) := by decide +kernel
theorem dX9_comes_73 : decode cX9_comes 73 = .ok (.iadd, 1) := by decide +kernel
theorem dX9_comes_74 : decode cX9_comes 74 = .ok (.goto 5, 3) := by decide +kernel
theorem dX9_comes_77 : decode cX9_comes 77 = .ok (.bipush 24, 2) := by decide +kernel
theorem dX9_comes_79 : decode cX9_comes 79 = .ok (.putfield 110, 3) := by decide +kernel
theorem dX9_comes_82 : decode cX9_comes 82 = .ok (.return_, 1) := by decide +kernel
theorem dX9_leaveOut_0 : decode cX9_leaveOut 0 = .ok (.iload_n 1, 1) := by decide +kernel
theorem dX9_leaveOut_1 : decode cX9_leaveOut 1 = .ok (.istore_n 3, 1) := by decide +kernel
theorem dX9_leaveOut_2 : decode cX9_leaveOut 2 = .ok (.iload_n 3, 1) := by decide +kernel
theorem dX9_leaveOut_3 : decode cX9_leaveOut 3 = .ok (.iload_n 2, 1) := by decide +kernel
theorem dX9_leaveOut_4 : decode cX9_leaveOut 4 = .ok (.iadd, 1) := by decide +kernel
theorem dX9_leaveOut_5 : decode cX9_leaveOut 5 = .ok (.aload_n 0, 1) := by decide +kernel
theorem dX9_leaveOut_6 : decode cX9_leaveOut 6 = .ok (.getfield 110, 3) := by decide +kernel
theorem dX9_leaveOut_9 : decode cX9_leaveOut 9 = .ok (.if_icmp .ge 23, 3) := by decide +kernel
theorem dX9_leaveOut_12 : decode cX9_leaveOut 12 = .ok (.aload_n 0, 1) := by decide +kernel
theorem dX9_leaveOut_13 : decode cX9_leaveOut 13 = .ok (.getfield 25, 3) := by decide +kernel
theorem dX9_leaveOut_16 : decode cX9_leaveOut 16 = .ok (.iload_n 3, 1) := by decide +kernel
theorem dX9_leaveOut_17 : decode cX9_leaveOut 17 = .ok (.aload_n 0, 1) := by decide +kernel
theorem dX9_leaveOut_18 : decode cX9_leaveOut 18 = .ok (.getfield 25, 3) := by decide +kernel
theorem dX9_leaveOut_21 : decode cX9_leaveOut 21 = .ok (.iload_n 3, 1) := by decide +kernel
theorem dX9_leaveOut_22 : decode cX9_leaveOut 22 = .ok (.iload_n 2, 1) := by decide +kernel
theorem dX9_leaveOut_23 : decode cX9_leaveOut 23 = .ok (.iadd, 1) := by decide +kernel
theorem dX9_leaveOut_24 : decode cX9_leaveOut 24 = .ok (.iaload, 1) := by decide +kernel
theorem dX9_leaveOut_25 : decode cX9_leaveOut 25 = .ok (.iastore, 1) := by decide +kernel
theorem dX9_leaveOut_26 : decode cX9_leaveOut 26 = .ok (.iinc 3 1, 3) := by decide +kernel
theorem dX9_leaveOut_29 : decode cX9_leaveOut 29 = .ok (.goto (-27), 3) := by decide +kernel
theorem dX9_leaveOut_32 : decode cX9_leaveOut 32 = .ok (.aload_n 0, 1) := by decide +kernel
theorem dX9_leaveOut_33 : decode cX9_leaveOut 33 = .ok (.dup, 1) := by decide +kernel
theorem dX9_leaveOut_34 : decode cX9_leaveOut 34 = .ok (.getfield 110, 3) := by decide +kernel
theorem dX9_leaveOut_37 : decode cX9_leaveOut 37 = .ok (.iload_n 2, 1) := by decide +kernel
theorem dX9_leaveOut_38 : decode cX9_leaveOut 38 = .ok (.isub, 1) := by decide +kernel
theorem dX9_leaveOut_39 : decode cX9_leaveOut 39 = .ok (.putfield 110, 3) := by decide +kernel
theorem dX9_leaveOut_42 : decode cX9_leaveOut 42 = .ok (.return_, 1) := by decide +kernel
theorem dX9_goThrough_0 : decode cX9_goThrough 0 = .ok (.iconst 0, 1) := by decide +kernel
theorem dX9_goThrough_1 : decode cX9_goThrough 1 = .ok (.istore_n 1, 1) := by decide +kernel
theorem dX9_goThrough_2 : decode cX9_goThrough 2 = .ok (.iload_n 1, 1) := by decide +kernel
theorem dX9_goThrough_3 : decode cX9_goThrough 3 = .ok (.bipush 8, 2) := by decide +kernel
theorem dX9_goThrough_5 : decode cX9_goThrough 5 = .ok (.if_icmp .ge 16, 3) := by decide +kernel
theorem dX9_goThrough_8 : decode cX9_goThrough 8 = .ok (.aload_n 0, 1) := by decide +kernel
theorem dX9_goThrough_9 : decode cX9_goThrough 9 = .ok (.getfield 28, 3) := by decide +kernel
theorem dX9_goThrough_12 : decode cX9_goThrough 12 = .ok (.iload_n 1, 1) := by decide +kernel
theorem dX9_goThrough_13 : decode cX9_goThrough 13 = .ok (.iconst 0, 1) := by decide +kernel
theorem dX9_goThrough_14 : decode cX9_goThrough 14 = .ok (.iastore, 1) := by decide +kernel
theorem dX9_goThrough_15 : decode cX9_goThrough 15 = .ok (.iinc 1 1, 3) := by decide +kernel
theorem dX9_goThrough_18 : decode cX9_goThrough 18 = .ok (.goto (-16), 3) := by decide +kernel
theorem dX9_goThrough_21 : decode cX9_goThrough 21 = .ok (.iconst 0, 1) := by decide +kernel
theorem dX9_goThrough_22 : decode cX9_goThrough 22 = .ok (.istore_n 1, 1) := by decide +kernel
theorem dX9_goThrough_23 : decode cX9_goThrough 23 = .ok (.iload_n 1, 1) := by decide +kernel
theorem dX9_goThrough_24 : decode cX9_goThrough 24 = .ok (.bipush 16, 2) := by decide +kernel
theorem dX9_goThrough_26 : decode cX9_goThrough 26 = .ok (.if_icmp .ge 16, 3) := by decide +kernel
theorem dX9_goThrough_29 : decode cX9_goThrough 29 = .ok (.aload_n 0, 1) := by decide +kernel
theorem dX9_goThrough_30 : decode cX9_goThrough 30 = .ok (.getfield 31, 3) := by decide +kernel
theorem dX9_goThrough_33 : decode cX9_goThrough 33 = .ok (.iload_n 1, 1) := by decide +kernel
theorem dX9_goThrough_34 : decode cX9_goThrough 34 = .ok (.iconst 0, 1) := by decide +kernel
theorem dX9_goThrough_35 : decode cX9_goThrough 35 = .ok (.iastore, 1) := by decide +kernel
theorem dX9_goThrough_36 : decode cX9_goThrough 36 = .ok (.iinc 1 1, 3) := by decide +kernel
theorem dX9_goThrough_39 : decode cX9_goThrough 39 = .ok (.goto (-16), 3) := by decide +kernel
theorem dX9_goThrough_42 : decode cX9_goThrough 42 = .ok (.iconst 0, 1) := by decide +kernel
theorem dX9_goThrough_43 : decode cX9_goThrough 43 = .ok (.istore_n 1, 1) := by decide +kernel
theorem dX9_goThrough_44 : decode cX9_goThrough 44 = .ok (.iload_n 1, 1) := by decide +kernel
theorem dX9_goThrough_45 : decode cX9_goThrough 45 = .ok (.sipush 160, 3) := by decide +kernel
theorem dX9_goThrough_48 : decode cX9_goThrough 48 = .ok (.if_icmp .ge 16, 3) := by decide +kernel
theorem dX9_goThrough_51 : decode cX9_goThrough 51 = .ok (.aload_n 0, 1) := by decide +kernel
theorem dX9_goThrough_52 : decode cX9_goThrough 52 = .ok (.getfield 37, 3) := by decide +kernel
theorem dX9_goThrough_55 : decode cX9_goThrough 55 = .ok (.iload_n 1, 1) := by decide +kernel
theorem dX9_goThrough_56 : decode cX9_goThrough 56 = .ok (.iconst 0, 1) := by decide +kernel
theorem dX9_goThrough_57 : decode cX9_goThrough 57 = .ok (.iastore, 1) := by decide +kernel
theorem dX9_goThrough_58 : decode cX9_goThrough 58 = .ok (.iinc 1 1, 3) := by decide +kernel
theorem dX9_goThrough_61 : decode cX9_goThrough 61 = .ok (.goto (-17), 3) := by decide +kernel
theorem dX9_goThrough_64 : decode cX9_goThrough 64 = .ok (.aload_n 0, 1) := by decide +kernel
theorem dX9_goThrough_65 : decode cX9_goThrough 65 = .ok (.iconst 0, 1) := by decide +kernel
theorem dX9_goThrough_66 : decode cX9_goThrough 66 = .ok (.putfield 128, 3) := by decide +kernel
theorem dX9_goThrough_69 : decode cX9_goThrough 69 = .ok (.aload_n 0, 1) := by decide +kernel
theorem dX9_goThrough_70 : decode cX9_goThrough 70 = .ok (.iconst 0, 1) := by decide +kernel
theorem dX9_goThrough_71 : decode cX9_goThrough 71 = .ok (.putfield 131, 3) := by decide +kernel
theorem dX9_goThrough_74 : decode cX9_goThrough 74 = .ok (.aload_n 0, 1) := by decide +kernel
theorem dX9_goThrough_75 : decode cX9_goThrough 75 = .ok (.iconst 0, 1) := by decide +kernel
theorem dX9_goThrough_76 : decode cX9_goThrough 76 = .ok (.putfield 134, 3) := by decide +kernel
theorem dX9_goThrough_79 : decode cX9_goThrough 79 = .ok (.aload_n 0, 1) := by decide +kernel
theorem dX9_goThrough_80 : decode cX9_goThrough 80 = .ok (.iconst 0, 1) := by decide +kernel
theorem dX9_goThrough_81 : decode cX9_goThrough 81 = .ok (.putfield 137, 3) := by decide +kernel
theorem dX9_goThrough_84 : decode cX9_goThrough 84 = .ok (.aload_n 0, 1) := by decide +kernel
theorem dX9_goThrough_85 : decode cX9_goThrough 85 = .ok (.iconst 0, 1) := by decide +kernel
theorem dX9_goThrough_86 : decode cX9_goThrough 86 = .ok (.putfield 140, 3) := by decide +kernel
theorem dX9_goThrough_89 : decode cX9_goThrough 89 = .ok (.iconst 1, 1) := by decide +kernel
theorem dX9_goThrough_90 : decode cX9_goThrough 90 = .ok (.istore_n 1, 1) := by decide +kernel
theorem dX9_goThrough_91 : decode cX9_goThrough 91 = .ok (.iload_n 1, 1) := by decide +kernel
theorem dX9_goThrough_92 : decode cX9_goThrough 92 = .ok (.ifCond .eq 59, 3) := by decide +kernel
theorem dX9_goThrough_95 : decode cX9_goThrough 95 = .ok (.aload_n 0, 1) := by decide +kernel
theorem dX9_goThrough_96 : decode cX9_goThrough 96 = .ok (.getfield 134, 3) := by decide +kernel
theorem dX9_goThrough_99 : decode cX9_goThrough 99 = .ok (.ifCond .lt 52, 3) := by decide +kernel
theorem dX9_goThrough_102 : decode cX9_goThrough 102 = .ok (.aload_n 0, 1) := by decide +kernel
theorem dX9_goThrough_103 : decode cX9_goThrough 103 = .ok (.getfield 134, 3) := by decide +kernel
theorem dX9_goThrough_106 : decode cX9_goThrough 106 = .ok (.aload_n 0, 1) := by decide +kernel
theorem dX9_goThrough_107 : decode cX9_goThrough 107 = .ok (.getfield 101, 3) := by decide +kernel
theorem dX9_goThrough_110 : decode cX9_goThrough 110 = .ok (.if_icmp .ge 41, 3) := by decide +kernel
theorem dX9_goThrough_113 : decode cX9_goThrough 113 = .ok (.aload_n 0, 1) := by decide +kernel
theorem dX9_goThrough_114 : decode cX9_goThrough 114 = .ok (.getfield 137, 3) := by decide +kernel
theorem dX9_goThrough_117 : decode cX9_goThrough 117 = .ok (.sipush 400, 3) := by decide +kernel
theorem dX9_goThrough_120 : decode cX9_goThrough 120 = .ok (.if_icmp .ne 9, 3) := by decide +kernel
theorem dX9_goThrough_123 : decode cX9_goThrough 123 = .ok (.aload_n 0, 1) := by decide +kernel
theorem dX9_goThrough_124 : decode cX9_goThrough 124 = .ok (.iconst 5, 1) := by decide +kernel
theorem dX9_goThrough_125 : decode cX9_goThrough 125 = .ok (.putfield 131, 3) := by decide +kernel
theorem dX9_goThrough_128 : decode cX9_goThrough 128 = .ok (.return_, 1) := by decide +kernel
theorem dX9_goThrough_129 : decode cX9_goThrough 129 = .ok (.aload_n 0, 1) := by decide +kernel
theorem dX9_goThrough_130 : decode cX9_goThrough 130 = .ok (.dup, 1) := by decide +kernel
theorem dX9_goThrough_131 : decode cX9_goThrough 131 = .ok (.getfield 137, 3) := by decide +kernel
theorem dX9_goThrough_134 : decode cX9_goThrough 134 = .ok (.iconst 1, 1) := by decide +kernel
theorem dX9_goThrough_135 : decode cX9_goThrough 135 = .ok (.iadd, 1) := by decide +kernel
theorem dX9_goThrough_136 : decode cX9_goThrough 136 = .ok (.putfield 137, 3) := by decide +kernel
theorem dX9_goThrough_139 : decode cX9_goThrough 139 = .ok (.aload_n 0, 1) := by decide +kernel
theorem dX9_goThrough_140 : decode cX9_goThrough 140 = .ok (.aload_n 0, 1) := by decide +kernel
theorem dX9_goThrough_141 : decode cX9_goThrough 141 = .ok (.getfield 134, 3) := by decide +kernel
theorem dX9_goThrough_144 : decode cX9_goThrough 144 = .ok (.invokevirtual 143, 3) := by decide +kernel
theorem dX9_goThrough_147 : decode cX9_goThrough 147 = .ok (.istore_n 1, 1) := by decide +kernel
theorem dX9_goThrough_148 : decode cX9_goThrough 148 = .ok (.goto (-57), 3) := by decide +kernel
theorem dX9_goThrough_151 : decode cX9_goThrough 151 = .ok (.aload_n 0, 1) := by decide +kernel
theorem dX9_goThrough_152 : decode cX9_goThrough 152 = .ok (.getfield 131, 3) := by decide +kernel
theorem dX9_goThrough_155 : decode cX9_goThrough 155 = .ok (.ifCond .ne 8, 3) := by decide +kernel
theorem dX9_goThrough_158 : decode cX9_goThrough 158 = .ok (.aload_n 0, 1) := by decide +kernel
theorem dX9_goThrough_159 : decode cX9_goThrough 159 = .ok (.iconst (-1), 1) := by decide +kernel
theorem dX9_goThrough_160 : decode cX9_goThrough 160 = .ok (.putfield 134, 3) := by decide +kernel
theorem dX9_goThrough_163 : decode cX9_goThrough 163 = .ok (.return_, 1) := by decide +kernel
theorem dX9_fails_0 : decode cX9_fails 0 = .ok (.aload_n 0, 1) := by decide +kernel
theorem dX9_fails_1 : decode cX9_fails 1 = .ok (.iload_n 1, 1) := by decide +kernel
theorem dX9_fails_2 : decode cX9_fails 2 = .ok (.putfield 131, 3) := by decide +kernel
theorem dX9_fails_5 : decode cX9_fails 5 = .ok (.iconst 0, 1) := by decide +kernel
theorem dX9_fails_6 : decode cX9_fails 6 = .ok (.ireturn, 1) := by decide +kernel
theorem dX9_does_0 : decode cX9_does 0 = .ok (.aload_n 0, 1) := by decide +kernel
theorem dX9_does_1 : decode cX9_does 1 = .ok (.getfield 13, 3) := by decide +kernel
theorem dX9_does_4 : decode cX9_does 4 = .ok (.iload_n 1, 1) := by decide +kernel
theorem dX9_does_5 : decode cX9_does 5 = .ok (.iaload, 1) := by decide +kernel
theorem dX9_does_6 : decode cX9_does 6 = .ok (.istore_n 2, 1) := by decide +kernel
theorem dX9_does_7 : decode cX9_does 7 = .ok (.aload_n 0, 1) := by decide +kernel
theorem dX9_does_8 : decode cX9_does 8 = .ok (.getfield 16, 3) := by decide +kernel
theorem dX9_does_11 : decode cX9_does 11 = .ok (.iload_n 1, 1) := by decide +kernel
theorem dX9_does_12 : decode cX9_does 12 = .ok (.iaload, 1) := by decide +kernel
theorem dX9_does_13 : decode cX9_does 13 = .ok (.istore_n 3, 1) := by decide +kernel
theorem dX9_does_14 : decode cX9_does 14 = .ok (.aload_n 0, 1) := by decide +kernel
theorem dX9_does_15 : decode cX9_does 15 = .ok (.iload_n 1, 1) := by decide +kernel
theorem dX9_does_16 : decode cX9_does 16 = .ok (.iconst 1, 1) := by decide +kernel
theorem dX9_does_17 : decode cX9_does 17 = .ok (.iadd, 1) := by decide +kernel
theorem dX9_does_18 : decode cX9_does 18 = .ok (.putfield 134, 3) := by decide +kernel
theorem dX9_does_21 : decode cX9_does 21 = .ok (.aload_n 0, 1) := by decide +kernel
theorem dX9_does_22 : decode cX9_does 22 = .ok (.getfield 7, 3) := by decide +kernel
theorem dX9_does_25 : decode cX9_does 25 = .ok (.iload_n 1, 1) := by decide +kernel
theorem dX9_does_26 : decode cX9_does 26 = .ok (.iaload, 1) := by decide +kernel
theorem dX9_does_27 : decode cX9_does 27 = .ok (.tableswitch 590 0 16 #[81, 91, 106, 124, 142, 160, 218, 276, 322, 335, 377, 419, 447, 475, 488, 537, 574], 81) := by decide +kernel
theorem dX9_does_108 : decode cX9_does 108 = .ok (.aload_n 0, 1) := by decide +kernel
theorem dX9_does_109 : decode cX9_does 109 = .ok (.getfield 28, 3) := by decide +kernel
theorem dX9_does_112 : decode cX9_does 112 = .ok (.iload_n 2, 1) := by decide +kernel
theorem dX9_does_113 : decode cX9_does 113 = .ok (.iload_n 3, 1) := by decide +kernel
theorem dX9_does_114 : decode cX9_does 114 = .ok (.iastore, 1) := by decide +kernel
theorem dX9_does_115 : decode cX9_does 115 = .ok (.goto 504, 3) := by decide +kernel
theorem dX9_does_118 : decode cX9_does 118 = .ok (.aload_n 0, 1) := by decide +kernel
theorem dX9_does_119 : decode cX9_does 119 = .ok (.getfield 28, 3) := by decide +kernel
theorem dX9_does_122 : decode cX9_does 122 = .ok (.iload_n 2, 1) := by decide +kernel
theorem dX9_does_123 : decode cX9_does 123 = .ok (.aload_n 0, 1) := by decide +kernel
theorem dX9_does_124 : decode cX9_does 124 = .ok (.getfield 28, 3) := by decide +kernel
theorem dX9_does_127 : decode cX9_does 127 = .ok (.iload_n 3, 1) := by decide +kernel
theorem dX9_does_128 : decode cX9_does 128 = .ok (.iaload, 1) := by decide +kernel
theorem dX9_does_129 : decode cX9_does 129 = .ok (.iastore, 1) := by decide +kernel
theorem dX9_does_130 : decode cX9_does 130 = .ok (.goto 489, 3) := by decide +kernel
theorem dX9_does_133 : decode cX9_does 133 = .ok (.aload_n 0, 1) := by decide +kernel
theorem dX9_does_134 : decode cX9_does 134 = .ok (.getfield 28, 3) := by decide +kernel
theorem dX9_does_137 : decode cX9_does 137 = .ok (.iload_n 2, 1) := by decide +kernel
theorem dX9_does_138 : decode cX9_does 138 = .ok (.dup2, 1) := by decide +kernel
theorem dX9_does_139 : decode cX9_does 139 = .ok (.iaload, 1) := by decide +kernel
theorem dX9_does_140 : decode cX9_does 140 = .ok (.aload_n 0, 1) := by decide +kernel
theorem dX9_does_141 : decode cX9_does 141 = .ok (.getfield 28, 3) := by decide +kernel
theorem dX9_does_144 : decode cX9_does 144 = .ok (.iload_n 3, 1) := by decide +kernel
theorem dX9_does_145 : decode cX9_does 145 = .ok (.iaload, 1) := by decide +kernel
theorem dX9_does_146 : decode cX9_does 146 = .ok (.iadd, 1) := by decide +kernel
theorem dX9_does_147 : decode cX9_does 147 = .ok (.iastore, 1) := by decide +kernel
theorem dX9_does_148 : decode cX9_does 148 = .ok (.goto 471, 3) := by decide +kernel
theorem dX9_does_151 : decode cX9_does 151 = .ok (.aload_n 0, 1) := by decide +kernel
theorem dX9_does_152 : decode cX9_does 152 = .ok (.getfield 28, 3) := by decide +kernel
theorem dX9_does_155 : decode cX9_does 155 = .ok (.iload_n 2, 1) := by decide +kernel
theorem dX9_does_156 : decode cX9_does 156 = .ok (.dup2, 1) := by decide +kernel
theorem dX9_does_157 : decode cX9_does 157 = .ok (.iaload, 1) := by decide +kernel
theorem dX9_does_158 : decode cX9_does 158 = .ok (.aload_n 0, 1) := by decide +kernel
theorem dX9_does_159 : decode cX9_does 159 = .ok (.getfield 28, 3) := by decide +kernel
theorem dX9_does_162 : decode cX9_does 162 = .ok (.iload_n 3, 1) := by decide +kernel
theorem dX9_does_163 : decode cX9_does 163 = .ok (.iaload, 1) := by decide +kernel
theorem dX9_does_164 : decode cX9_does 164 = .ok (.isub, 1) := by decide +kernel
theorem dX9_does_165 : decode cX9_does 165 = .ok (.iastore, 1) := by decide +kernel
theorem dX9_does_166 : decode cX9_does 166 = .ok (.goto 453, 3) := by decide +kernel
theorem dX9_does_169 : decode cX9_does 169 = .ok (.aload_n 0, 1) := by decide +kernel
theorem dX9_does_170 : decode cX9_does 170 = .ok (.getfield 28, 3) := by decide +kernel
theorem dX9_does_173 : decode cX9_does 173 = .ok (.iload_n 2, 1) := by decide +kernel
theorem dX9_does_174 : decode cX9_does 174 = .ok (.dup2, 1) := by decide +kernel
theorem dX9_does_175 : decode cX9_does 175 = .ok (.iaload, 1) := by decide +kernel
theorem dX9_does_176 : decode cX9_does 176 = .ok (.aload_n 0, 1) := by decide +kernel
theorem dX9_does_177 : decode cX9_does 177 = .ok (.getfield 28, 3) := by decide +kernel
theorem dX9_does_180 : decode cX9_does 180 = .ok (.iload_n 3, 1) := by decide +kernel
theorem dX9_does_181 : decode cX9_does 181 = .ok (.iaload, 1) := by decide +kernel
theorem dX9_does_182 : decode cX9_does 182 = .ok (.imul, 1) := by decide +kernel
theorem dX9_does_183 : decode cX9_does 183 = .ok (.iastore, 1) := by decide +kernel
theorem dX9_does_184 : decode cX9_does 184 = .ok (.goto 435, 3) := by decide +kernel
theorem dX9_does_187 : decode cX9_does 187 = .ok (.aload_n 0, 1) := by decide +kernel
theorem dX9_does_188 : decode cX9_does 188 = .ok (.getfield 28, 3) := by decide +kernel
theorem dX9_does_191 : decode cX9_does 191 = .ok (.iload_n 3, 1) := by decide +kernel
theorem dX9_does_192 : decode cX9_does 192 = .ok (.iaload, 1) := by decide +kernel
theorem dX9_does_193 : decode cX9_does 193 = .ok (.ifCond .ne 10, 3) := by decide +kernel
theorem dX9_does_196 : decode cX9_does 196 = .ok (.aload_n 0, 1) := by decide +kernel
theorem dX9_does_197 : decode cX9_does 197 = .ok (.iload_n 1, 1) := by decide +kernel
theorem dX9_does_198 : decode cX9_does 198 = .ok (.iconst 1, 1) := by decide +kernel
theorem dX9_does_199 : decode cX9_does 199 = .ok (.invokevirtual 146, 3) := by decide +kernel
theorem dX9_does_202 : decode cX9_does 202 = .ok (.ireturn, 1) := by decide +kernel
theorem dX9_does_203 : decode cX9_does 203 = .ok (.aload_n 0, 1) := by decide +kernel
theorem dX9_does_204 : decode cX9_does 204 = .ok (.getfield 28, 3) := by decide +kernel
theorem dX9_does_207 : decode cX9_does 207 = .ok (.iload_n 2, 1) := by decide +kernel
theorem dX9_does_208 : decode cX9_does 208 = .ok (.aload_n 0, 1) := by decide +kernel
theorem dX9_does_209 : decode cX9_does 209 = .ok (.getfield 28, 3) := by decide +kernel
theorem dX9_does_212 : decode cX9_does 212 = .ok (.iload_n 3, 1) := by decide +kernel
theorem dX9_does_213 : decode cX9_does 213 = .ok (.iaload, 1) := by decide +kernel
theorem dX9_does_214 : decode cX9_does 214 = .ok (.iconst (-1), 1) := by decide +kernel
theorem dX9_does_215 : decode cX9_does 215 = .ok (.if_icmp .ne 13, 3) := by decide +kernel
theorem dX9_does_218 : decode cX9_does 218 = .ok (.aload_n 0, 1) := by decide +kernel
theorem dX9_does_219 : decode cX9_does 219 = .ok (.getfield 28, 3) := by decide +kernel
theorem dX9_does_222 : decode cX9_does 222 = .ok (.iload_n 2, 1) := by decide +kernel
theorem dX9_does_223 : decode cX9_does 223 = .ok (.iaload, 1) := by decide +kernel
theorem dX9_does_224 : decode cX9_does 224 = .ok (.ineg, 1) := by decide +kernel
theorem dX9_does_225 : decode cX9_does 225 = .ok (.goto 16, 3) := by decide +kernel
theorem dX9_does_228 : decode cX9_does 228 = .ok (.aload_n 0, 1) := by decide +kernel
theorem dX9_does_229 : decode cX9_does 229 = .ok (.getfield 28, 3) := by decide +kernel
theorem dX9_does_232 : decode cX9_does 232 = .ok (.iload_n 2, 1) := by decide +kernel
theorem dX9_does_233 : decode cX9_does 233 = .ok (.iaload, 1) := by decide +kernel
theorem dX9_does_234 : decode cX9_does 234 = .ok (.aload_n 0, 1) := by decide +kernel
theorem dX9_does_235 : decode cX9_does 235 = .ok (.getfield 28, 3) := by decide +kernel
theorem dX9_does_238 : decode cX9_does 238 = .ok (.iload_n 3, 1) := by decide +kernel
theorem dX9_does_239 : decode cX9_does 239 = .ok (.iaload, 1) := by decide +kernel
theorem dX9_does_240 : decode cX9_does 240 = .ok (.idiv, 1) := by decide +kernel
theorem dX9_does_241 : decode cX9_does 241 = .ok (.iastore, 1) := by decide +kernel
theorem dX9_does_242 : decode cX9_does 242 = .ok (.goto 377, 3) := by decide +kernel
theorem dX9_does_245 : decode cX9_does 245 = .ok (.aload_n 0, 1) := by decide +kernel
theorem dX9_does_246 : decode cX9_does 246 = .ok (.getfield 28, 3) := by decide +kernel
theorem dX9_does_249 : decode cX9_does 249 = .ok (.iload_n 2, 1) := by decide +kernel
theorem dX9_does_250 : decode cX9_does 250 = .ok (.aload_n 0, 1) := by decide +kernel
theorem dX9_does_251 : decode cX9_does 251 = .ok (.getfield 140, 3) := by decide +kernel
theorem dX9_does_254 : decode cX9_does 254 = .ok (.aload_n 0, 1) := by decide +kernel
theorem dX9_does_255 : decode cX9_does 255 = .ok (.getfield 110, 3) := by decide +kernel
theorem dX9_does_258 : decode cX9_does 258 = .ok (.if_icmp .ge 15, 3) := by decide +kernel
theorem dX9_does_261 : decode cX9_does 261 = .ok (.aload_n 0, 1) := by decide +kernel
theorem dX9_does_262 : decode cX9_does 262 = .ok (.getfield 25, 3) := by decide +kernel
theorem dX9_does_265 : decode cX9_does 265 = .ok (.aload_n 0, 1) := by decide +kernel
theorem dX9_does_266 : decode cX9_does 266 = .ok (.getfield 140, 3) := by decide +kernel
theorem dX9_does_269 : decode cX9_does 269 = .ok (.iaload, 1) := by decide +kernel
theorem dX9_does_270 : decode cX9_does 270 = .ok (.goto 4, 3) := by decide +kernel
theorem dX9_does_273 : decode cX9_does 273 = .ok (.iconst (-1), 1) := by decide +kernel
theorem dX9_does_274 : decode cX9_does 274 = .ok (.iastore, 1) := by decide +kernel
theorem dX9_does_275 : decode cX9_does 275 = .ok (.aload_n 0, 1) := by decide +kernel
theorem dX9_does_276 : decode cX9_does 276 = .ok (.dup, 1) := by decide +kernel
theorem dX9_does_277 : decode cX9_does 277 = .ok (.getfield 140, 3) := by decide +kernel
theorem dX9_does_280 : decode cX9_does 280 = .ok (.aload_n 0, 1) := by decide +kernel
theorem dX9_does_281 : decode cX9_does 281 = .ok (.getfield 140, 3) := by decide +kernel
theorem dX9_does_284 : decode cX9_does 284 = .ok (.aload_n 0, 1) := by decide +kernel
theorem dX9_does_285 : decode cX9_does 285 = .ok (.getfield 110, 3) := by decide +kernel
theorem dX9_does_288 : decode cX9_does 288 = .ok (.if_icmp .ge 7, 3) := by decide +kernel
theorem dX9_does_291 : decode cX9_does 291 = .ok (.iconst 1, 1) := by decide +kernel
theorem dX9_does_292 : decode cX9_does 292 = .ok (.goto 4, 3) := by decide +kernel
theorem dX9_does_295 : decode cX9_does 295 = .ok (.iconst 0, 1) := by decide +kernel
theorem dX9_does_296 : decode cX9_does 296 = .ok (.iadd, 1) := by decide +kernel
theorem dX9_does_297 : decode cX9_does 297 = .ok (.putfield 140, 3) := by decide +kernel
theorem dX9_does_300 : decode cX9_does 300 = .ok (.goto 319, 3) := by decide +kernel
theorem dX9_does_303 : decode cX9_does 303 = .ok (.aload_n 0, 1) := by decide +kernel
theorem dX9_does_304 : decode cX9_does 304 = .ok (.getfield 28, 3) := by decide +kernel
theorem dX9_does_307 : decode cX9_does 307 = .ok (.iload_n 3, 1) := by decide +kernel
theorem dX9_does_308 : decode cX9_does 308 = .ok (.iaload, 1) := by decide +kernel
theorem dX9_does_309 : decode cX9_does 309 = .ok (.iconst 0, 1) := by decide +kernel
theorem dX9_does_310 : decode cX9_does 310 = .ok (.aload_n 0, 1) := by decide +kernel
theorem dX9_does_311 : decode cX9_does 311 = .ok (.getfield 110, 3) := by decide +kernel
theorem dX9_does_314 : decode cX9_does 314 = .ok (.iconst 1, 1) := by decide +kernel
theorem dX9_does_315 : decode cX9_does 315 = .ok (.isub, 1) := by decide +kernel
theorem dX9_does_316 : decode cX9_does 316 = .ok (.invokestatic 87, 3) := by decide +kernel
theorem dX9_does_319 : decode cX9_does 319 = .ok (.ifCond .ne 10, 3) := by decide +kernel
theorem dX9_does_322 : decode cX9_does 322 = .ok (.aload_n 0, 1) := by decide +kernel
theorem dX9_does_323 : decode cX9_does 323 = .ok (.iload_n 1, 1) := by decide +kernel
theorem dX9_does_324 : decode cX9_does 324 = .ok (.iconst 2, 1) := by decide +kernel
theorem dX9_does_325 : decode cX9_does 325 = .ok (.invokevirtual 146, 3) := by decide +kernel
theorem dX9_does_328 : decode cX9_does 328 = .ok (.ireturn, 1) := by decide +kernel
theorem dX9_does_329 : decode cX9_does 329 = .ok (.aload_n 0, 1) := by decide +kernel
theorem dX9_does_330 : decode cX9_does 330 = .ok (.getfield 28, 3) := by decide +kernel
theorem dX9_does_333 : decode cX9_does 333 = .ok (.iload_n 2, 1) := by decide +kernel
theorem dX9_does_334 : decode cX9_does 334 = .ok (.aload_n 0, 1) := by decide +kernel
theorem dX9_does_335 : decode cX9_does 335 = .ok (.getfield 25, 3) := by decide +kernel
theorem dX9_does_338 : decode cX9_does 338 = .ok (.aload_n 0, 1) := by decide +kernel
theorem dX9_does_339 : decode cX9_does 339 = .ok (.getfield 28, 3) := by decide +kernel
theorem dX9_does_342 : decode cX9_does 342 = .ok (.iload_n 3, 1) := by decide +kernel
theorem dX9_does_343 : decode cX9_does 343 = .ok (.iaload, 1) := by decide +kernel
theorem dX9_does_344 : decode cX9_does 344 = .ok (.iaload, 1) := by decide +kernel
theorem dX9_does_345 : decode cX9_does 345 = .ok (.iastore, 1) := by decide +kernel
theorem dX9_does_346 : decode cX9_does 346 = .ok (.goto 273, 3) := by decide +kernel
theorem dX9_does_349 : decode cX9_does 349 = .ok (.aload_n 0, 1) := by decide +kernel
theorem dX9_does_350 : decode cX9_does 350 = .ok (.getfield 28, 3) := by decide +kernel
theorem dX9_does_353 : decode cX9_does 353 = .ok (.iload_n 2, 1) := by decide +kernel
theorem dX9_does_354 : decode cX9_does 354 = .ok (.aload_n 0, 1) := by decide +kernel
theorem dX9_does_355 : decode cX9_does 355 = .ok (.getfield 110, 3) := by decide +kernel
theorem dX9_does_358 : decode cX9_does 358 = .ok (.iastore, 1) := by decide +kernel
theorem dX9_does_359 : decode cX9_does 359 = .ok (.goto 260, 3) := by decide +kernel
theorem dX9_does_362 : decode cX9_does 362 = .ok (.aload_n 0, 1) := by decide +kernel
theorem dX9_does_363 : decode cX9_does 363 = .ok (.getfield 28, 3) := by decide +kernel
theorem dX9_does_366 : decode cX9_does 366 = .ok (.iload_n 2, 1) := by decide +kernel
theorem dX9_does_367 : decode cX9_does 367 = .ok (.iaload, 1) := by decide +kernel
theorem dX9_does_368 : decode cX9_does 368 = .ok (.iconst 0, 1) := by decide +kernel
theorem dX9_does_369 : decode cX9_does 369 = .ok (.bipush 15, 2) := by decide +kernel
theorem dX9_does_371 : decode cX9_does 371 = .ok (.invokestatic 87, 3) := by decide +kernel
theorem dX9_does_374 : decode cX9_does 374 = .ok (.ifCond .ne 10, 3) := by decide +kernel
theorem dX9_does_377 : decode cX9_does 377 = .ok (.aload_n 0, 1) := by decide +kernel
theorem dX9_does_378 : decode cX9_does 378 = .ok (.iload_n 1, 1) := by decide +kernel
theorem dX9_does_379 : decode cX9_does 379 = .ok (.iconst 2, 1) := by decide +kernel
theorem dX9_does_380 : decode cX9_does 380 = .ok (.invokevirtual 146, 3) := by decide +kernel
theorem dX9_does_383 : decode cX9_does 383 = .ok (.ireturn, 1) := by decide +kernel
theorem dX9_does_384 : decode cX9_does 384 = .ok (.aload_n 0, 1) := by decide +kernel
theorem dX9_does_385 : decode cX9_does 385 = .ok (.getfield 31, 3) := by decide +kernel
theorem dX9_does_388 : decode cX9_does 388 = .ok (.aload_n 0, 1) := by decide +kernel
theorem dX9_does_389 : decode cX9_does 389 = .ok (.getfield 28, 3) := by decide +kernel
theorem dX9_does_392 : decode cX9_does 392 = .ok (.iload_n 2, 1) := by decide +kernel
theorem dX9_does_393 : decode cX9_does 393 = .ok (.iaload, 1) := by decide +kernel
theorem dX9_does_394 : decode cX9_does 394 = .ok (.aload_n 0, 1) := by decide +kernel
theorem dX9_does_395 : decode cX9_does 395 = .ok (.getfield 28, 3) := by decide +kernel
theorem dX9_does_398 : decode cX9_does 398 = .ok (.iload_n 3, 1) := by decide +kernel
theorem dX9_does_399 : decode cX9_does 399 = .ok (.iaload, 1) := by decide +kernel
theorem dX9_does_400 : decode cX9_does 400 = .ok (.iastore, 1) := by decide +kernel
theorem dX9_does_401 : decode cX9_does 401 = .ok (.goto 218, 3) := by decide +kernel
theorem dX9_does_404 : decode cX9_does 404 = .ok (.aload_n 0, 1) := by decide +kernel
theorem dX9_does_405 : decode cX9_does 405 = .ok (.getfield 28, 3) := by decide +kernel
theorem dX9_does_408 : decode cX9_does 408 = .ok (.iload_n 3, 1) := by decide +kernel
theorem dX9_does_409 : decode cX9_does 409 = .ok (.iaload, 1) := by decide +kernel
theorem dX9_does_410 : decode cX9_does 410 = .ok (.iconst 0, 1) := by decide +kernel
theorem dX9_does_411 : decode cX9_does 411 = .ok (.bipush 15, 2) := by decide +kernel
theorem dX9_does_413 : decode cX9_does 413 = .ok (.invokestatic 87, 3) := by decide +kernel
theorem dX9_does_416 : decode cX9_does 416 = .ok (.ifCond .ne 10, 3) := by decide +kernel
theorem dX9_does_419 : decode cX9_does 419 = .ok (.aload_n 0, 1) := by decide +kernel
theorem dX9_does_420 : decode cX9_does 420 = .ok (.iload_n 1, 1) := by decide +kernel
theorem dX9_does_421 : decode cX9_does 421 = .ok (.iconst 2, 1) := by decide +kernel
theorem dX9_does_422 : decode cX9_does 422 = .ok (.invokevirtual 146, 3) := by decide +kernel
theorem dX9_does_425 : decode cX9_does 425 = .ok (.ireturn, 1) := by decide +kernel
theorem dX9_does_426 : decode cX9_does 426 = .ok (.aload_n 0, 1) := by decide +kernel
theorem dX9_does_427 : decode cX9_does 427 = .ok (.getfield 28, 3) := by decide +kernel
theorem dX9_does_430 : decode cX9_does 430 = .ok (.iload_n 2, 1) := by decide +kernel
theorem dX9_does_431 : decode cX9_does 431 = .ok (.aload_n 0, 1) := by decide +kernel
theorem dX9_does_432 : decode cX9_does 432 = .ok (.getfield 31, 3) := by decide +kernel
theorem dX9_does_435 : decode cX9_does 435 = .ok (.aload_n 0, 1) := by decide +kernel
theorem dX9_does_436 : decode cX9_does 436 = .ok (.getfield 28, 3) := by decide +kernel
theorem dX9_does_439 : decode cX9_does 439 = .ok (.iload_n 3, 1) := by decide +kernel
theorem dX9_does_440 : decode cX9_does 440 = .ok (.iaload, 1) := by decide +kernel
theorem dX9_does_441 : decode cX9_does 441 = .ok (.iaload, 1) := by decide +kernel
theorem dX9_does_442 : decode cX9_does 442 = .ok (.iastore, 1) := by decide +kernel
theorem dX9_does_443 : decode cX9_does 443 = .ok (.goto 176, 3) := by decide +kernel
theorem dX9_does_446 : decode cX9_does 446 = .ok (.aload_n 0, 1) := by decide +kernel
theorem dX9_does_447 : decode cX9_does 447 = .ok (.iload_n 1, 1) := by decide +kernel
theorem dX9_does_448 : decode cX9_does 448 = .ok (.aload_n 0, 1) := by decide +kernel
theorem dX9_does_449 : decode cX9_does 449 = .ok (.getfield 28, 3) := by decide +kernel
theorem dX9_does_452 : decode cX9_does 452 = .ok (.iload_n 2, 1) := by decide +kernel
theorem dX9_does_453 : decode cX9_does 453 = .ok (.iaload, 1) := by decide +kernel
theorem dX9_does_454 : decode cX9_does 454 = .ok (.aload_n 0, 1) := by decide +kernel
theorem dX9_does_455 : decode cX9_does 455 = .ok (.getfield 28, 3) := by decide +kernel
theorem dX9_does_458 : decode cX9_does 458 = .ok (.iload_n 3, 1) := by decide +kernel
theorem dX9_does_459 : decode cX9_does 459 = .ok (.iaload, 1) := by decide +kernel
theorem dX9_does_460 : decode cX9_does 460 = .ok (.if_icmp .ge 7, 3) := by decide +kernel
theorem dX9_does_463 : decode cX9_does 463 = .ok (.iconst 1, 1) := by decide +kernel
theorem dX9_does_464 : decode cX9_does 464 = .ok (.goto 4, 3) := by decide +kernel
theorem dX9_does_467 : decode cX9_does 467 = .ok (.iconst 0, 1) := by decide +kernel
theorem dX9_does_468 : decode cX9_does 468 = .ok (.invokevirtual 150, 3) := by decide +kernel
theorem dX9_does_471 : decode cX9_does 471 = .ok (.goto 148, 3) := by decide +kernel
theorem dX9_does_474 : decode cX9_does 474 = .ok (.aload_n 0, 1) := by decide +kernel
theorem dX9_does_475 : decode cX9_does 475 = .ok (.iload_n 1, 1) := by decide +kernel
theorem dX9_does_476 : decode cX9_does 476 = .ok (.aload_n 0, 1) := by decide +kernel
theorem dX9_does_477 : decode cX9_does 477 = .ok (.getfield 28, 3) := by decide +kernel
theorem dX9_does_480 : decode cX9_does 480 = .ok (.iload_n 2, 1) := by decide +kernel
theorem dX9_does_481 : decode cX9_does 481 = .ok (.iaload, 1) := by decide +kernel
theorem dX9_does_482 : decode cX9_does 482 = .ok (.aload_n 0, 1) := by decide +kernel
theorem dX9_does_483 : decode cX9_does 483 = .ok (.getfield 28, 3) := by decide +kernel
theorem dX9_does_486 : decode cX9_does 486 = .ok (.iload_n 3, 1) := by decide +kernel
theorem dX9_does_487 : decode cX9_does 487 = .ok (.iaload, 1) := by decide +kernel
theorem dX9_does_488 : decode cX9_does 488 = .ok (.if_icmp .ne 7, 3) := by decide +kernel
theorem dX9_does_491 : decode cX9_does 491 = .ok (.iconst 1, 1) := by decide +kernel
theorem dX9_does_492 : decode cX9_does 492 = .ok (.goto 4, 3) := by decide +kernel
theorem dX9_does_495 : decode cX9_does 495 = .ok (.iconst 0, 1) := by decide +kernel
theorem dX9_does_496 : decode cX9_does 496 = .ok (.invokevirtual 150, 3) := by decide +kernel
theorem dX9_does_499 : decode cX9_does 499 = .ok (.goto 120, 3) := by decide +kernel
theorem dX9_does_502 : decode cX9_does 502 = .ok (.aload_n 0, 1) := by decide +kernel
theorem dX9_does_503 : decode cX9_does 503 = .ok (.aload_n 0, 1) := by decide +kernel
theorem dX9_does_504 : decode cX9_does 504 = .ok (.getfield 19, 3) := by decide +kernel
theorem dX9_does_507 : decode cX9_does 507 = .ok (.iload_n 1, 1) := by decide +kernel
theorem dX9_does_508 : decode cX9_does 508 = .ok (.iaload, 1) := by decide +kernel
theorem dX9_does_509 : decode cX9_does 509 = .ok (.putfield 134, 3) := by decide +kernel
theorem dX9_does_512 : decode cX9_does 512 = .ok (.goto 107, 3) := by decide +kernel
theorem dX9_does_515 : decode cX9_does 515 = .ok (.aload_n 0, 1) := by decide +kernel
theorem dX9_does_516 : decode cX9_does 516 = .ok (.getfield 128, 3) := by decide +kernel
theorem dX9_does_519 : decode cX9_does 519 = .ok (.bipush 8, 2) := by decide +kernel
theorem dX9_does_521 : decode cX9_does 521 = .ok (.if_icmp .ne 10, 3) := by decide +kernel
theorem dX9_does_524 : decode cX9_does 524 = .ok (.aload_n 0, 1) := by decide +kernel
theorem dX9_does_525 : decode cX9_does 525 = .ok (.iload_n 1, 1) := by decide +kernel
theorem dX9_does_526 : decode cX9_does 526 = .ok (.iconst 3, 1) := by decide +kernel
theorem dX9_does_527 : decode cX9_does 527 = .ok (.invokevirtual 146, 3) := by decide +kernel
theorem dX9_does_530 : decode cX9_does 530 = .ok (.ireturn, 1) := by decide +kernel
theorem dX9_does_531 : decode cX9_does 531 = .ok (.aload_n 0, 1) := by decide +kernel
theorem dX9_does_532 : decode cX9_does 532 = .ok (.getfield 34, 3) := by decide +kernel
theorem dX9_does_535 : decode cX9_does 535 = .ok (.aload_n 0, 1) := by decide +kernel
theorem dX9_does_536 : decode cX9_does 536 = .ok (.getfield 128, 3) := by decide +kernel
theorem dX9_does_539 : decode cX9_does 539 = .ok (.iload_n 1, 1) := by decide +kernel
theorem dX9_does_540 : decode cX9_does 540 = .ok (.iastore, 1) := by decide +kernel
theorem dX9_does_541 : decode cX9_does 541 = .ok (.aload_n 0, 1) := by decide +kernel
theorem dX9_does_542 : decode cX9_does 542 = .ok (.dup, 1) := by decide +kernel
theorem dX9_does_543 : decode cX9_does 543 = .ok (.getfield 128, 3) := by decide +kernel
theorem dX9_does_546 : decode cX9_does 546 = .ok (.iconst 1, 1) := by decide +kernel
theorem dX9_does_547 : decode cX9_does 547 = .ok (.iadd, 1) := by decide +kernel
theorem dX9_does_548 : decode cX9_does 548 = .ok (.putfield 128, 3) := by decide +kernel
theorem dX9_does_551 : decode cX9_does 551 = .ok (.aload_n 0, 1) := by decide +kernel
theorem dX9_does_552 : decode cX9_does 552 = .ok (.aload_n 0, 1) := by decide +kernel
theorem dX9_does_553 : decode cX9_does 553 = .ok (.getfield 19, 3) := by decide +kernel
theorem dX9_does_556 : decode cX9_does 556 = .ok (.iload_n 1, 1) := by decide +kernel
theorem dX9_does_557 : decode cX9_does 557 = .ok (.iaload, 1) := by decide +kernel
theorem dX9_does_558 : decode cX9_does 558 = .ok (.putfield 134, 3) := by decide +kernel
theorem dX9_does_561 : decode cX9_does 561 = .ok (.goto 58, 3) := by decide +kernel
theorem dX9_does_564 : decode cX9_does 564 = .ok (.aload_n 0, 1) := by decide +kernel
theorem dX9_does_565 : decode cX9_does 565 = .ok (.getfield 128, 3) := by decide +kernel
theorem dX9_does_568 : decode cX9_does 568 = .ok (.ifCond .ne 5, 3) := by decide +kernel
theorem dX9_does_571 : decode cX9_does 571 = .ok (.iconst 0, 1) := by decide +kernel
theorem dX9_does_572 : decode cX9_does 572 = .ok (.ireturn, 1) := by decide +kernel
theorem dX9_does_573 : decode cX9_does 573 = .ok (.aload_n 0, 1) := by decide +kernel
theorem dX9_does_574 : decode cX9_does 574 = .ok (.dup, 1) := by decide +kernel
theorem dX9_does_575 : decode cX9_does 575 = .ok (.getfield 128, 3) := by decide +kernel
theorem dX9_does_578 : decode cX9_does 578 = .ok (.iconst 1, 1) := by decide +kernel
theorem dX9_does_579 : decode cX9_does 579 = .ok (.isub, 1) := by decide +kernel
theorem dX9_does_580 : decode cX9_does 580 = .ok (.putfield 128, 3) := by decide +kernel
theorem dX9_does_583 : decode cX9_does 583 = .ok (.aload_n 0, 1) := by decide +kernel
theorem dX9_does_584 : decode cX9_does 584 = .ok (.aload_n 0, 1) := by decide +kernel
theorem dX9_does_585 : decode cX9_does 585 = .ok (.getfield 34, 3) := by decide +kernel
theorem dX9_does_588 : decode cX9_does 588 = .ok (.aload_n 0, 1) := by decide +kernel
theorem dX9_does_589 : decode cX9_does 589 = .ok (.getfield 128, 3) := by decide +kernel
theorem dX9_does_592 : decode cX9_does 592 = .ok (.iaload, 1) := by decide +kernel
theorem dX9_does_593 : decode cX9_does 593 = .ok (.iconst 1, 1) := by decide +kernel
theorem dX9_does_594 : decode cX9_does 594 = .ok (.iadd, 1) := by decide +kernel
theorem dX9_does_595 : decode cX9_does 595 = .ok (.putfield 134, 3) := by decide +kernel
theorem dX9_does_598 : decode cX9_does 598 = .ok (.goto 21, 3) := by decide +kernel
theorem dX9_does_601 : decode cX9_does 601 = .ok (.aload_n 0, 1) := by decide +kernel
theorem dX9_does_602 : decode cX9_does 602 = .ok (.getfield 28, 3) := by decide +kernel
theorem dX9_does_605 : decode cX9_does 605 = .ok (.iload_n 2, 1) := by decide +kernel
theorem dX9_does_606 : decode cX9_does 606 = .ok (.iaload, 1) := by decide +kernel
theorem dX9_does_607 : decode cX9_does 607 = .ok (.ifCond .ne 12, 3) := by decide +kernel
theorem dX9_does_610 : decode cX9_does 610 = .ok (.aload_n 0, 1) := by decide +kernel
theorem dX9_does_611 : decode cX9_does 611 = .ok (.iload_n 1, 1) := by decide +kernel
theorem dX9_does_612 : decode cX9_does 612 = .ok (.iconst 4, 1) := by decide +kernel
theorem dX9_does_613 : decode cX9_does 613 = .ok (.invokevirtual 146, 3) := by decide +kernel
theorem dX9_does_616 : decode cX9_does 616 = .ok (.ireturn, 1) := by decide +kernel
theorem dX9_does_617 : decode cX9_does 617 = .ok (.iconst 0, 1) := by decide +kernel
theorem dX9_does_618 : decode cX9_does 618 = .ok (.ireturn, 1) := by decide +kernel
theorem dX9_does_619 : decode cX9_does 619 = .ok (.iconst 1, 1) := by decide +kernel
theorem dX9_does_620 : decode cX9_does 620 = .ok (.ireturn, 1) := by decide +kernel
theorem dX9_failsAt_0 : decode cX9_failsAt 0 = .ok (.aload_n 0, 1) := by decide +kernel
theorem dX9_failsAt_1 : decode cX9_failsAt 1 = .ok (.iload_n 1, 1) := by decide +kernel
theorem dX9_failsAt_2 : decode cX9_failsAt 2 = .ok (.putfield 134, 3) := by decide +kernel
theorem dX9_failsAt_5 : decode cX9_failsAt 5 = .ok (.aload_n 0, 1) := by decide +kernel
theorem dX9_failsAt_6 : decode cX9_failsAt 6 = .ok (.iload_n 2, 1) := by decide +kernel
theorem dX9_failsAt_7 : decode cX9_failsAt 7 = .ok (.invokevirtual 154, 3) := by decide +kernel
theorem dX9_failsAt_10 : decode cX9_failsAt 10 = .ok (.ireturn, 1) := by decide +kernel
theorem dX9_branch_0 : decode cX9_branch 0 = .ok (.aload_n 0, 1) := by decide +kernel
theorem dX9_branch_1 : decode cX9_branch 1 = .ok (.getfield 37, 3) := by decide +kernel
theorem dX9_branch_4 : decode cX9_branch 4 = .ok (.iconst 2, 1) := by decide +kernel
theorem dX9_branch_5 : decode cX9_branch 5 = .ok (.iload_n 1, 1) := by decide +kernel
theorem dX9_branch_6 : decode cX9_branch 6 = .ok (.imul, 1) := by decide +kernel
theorem dX9_branch_7 : decode cX9_branch 7 = .ok (.iload_n 2, 1) := by decide +kernel
theorem dX9_branch_8 : decode cX9_branch 8 = .ok (.ifCond .eq 7, 3) := by decide +kernel
theorem dX9_branch_11 : decode cX9_branch 11 = .ok (.iconst 1, 1) := by decide +kernel
theorem dX9_branch_12 : decode cX9_branch 12 = .ok (.goto 4, 3) := by decide +kernel
theorem dX9_branch_15 : decode cX9_branch 15 = .ok (.iconst 0, 1) := by decide +kernel
theorem dX9_branch_16 : decode cX9_branch 16 = .ok (.iadd, 1) := by decide +kernel
theorem dX9_branch_17 : decode cX9_branch 17 = .ok (.dup2, 1) := by decide +kernel
theorem dX9_branch_18 : decode cX9_branch 18 = .ok (.iaload, 1) := by decide +kernel
theorem dX9_branch_19 : decode cX9_branch 19 = .ok (.iconst 1, 1) := by decide +kernel
theorem dX9_branch_20 : decode cX9_branch 20 = .ok (.iadd, 1) := by decide +kernel
theorem dX9_branch_21 : decode cX9_branch 21 = .ok (.iastore, 1) := by decide +kernel
theorem dX9_branch_22 : decode cX9_branch 22 = .ok (.iload_n 2, 1) := by decide +kernel
theorem dX9_branch_23 : decode cX9_branch 23 = .ok (.ifCond .eq 13, 3) := by decide +kernel
theorem dX9_branch_26 : decode cX9_branch 26 = .ok (.aload_n 0, 1) := by decide +kernel
theorem dX9_branch_27 : decode cX9_branch 27 = .ok (.aload_n 0, 1) := by decide +kernel
theorem dX9_branch_28 : decode cX9_branch 28 = .ok (.getfield 19, 3) := by decide +kernel
theorem dX9_branch_31 : decode cX9_branch 31 = .ok (.iload_n 1, 1) := by decide +kernel
theorem dX9_branch_32 : decode cX9_branch 32 = .ok (.iaload, 1) := by decide +kernel
theorem dX9_branch_33 : decode cX9_branch 33 = .ok (.putfield 134, 3) := by decide +kernel
theorem dX9_branch_36 : decode cX9_branch 36 = .ok (.return_, 1) := by decide +kernel
theorem dX9_digits_0 : decode cX9_digits 0 = .ok (.iconst 0, 1) := by decide +kernel
theorem dX9_digits_1 : decode cX9_digits 1 = .ok (.istore_n 1, 1) := by decide +kernel
theorem dX9_digits_2 : decode cX9_digits 2 = .ok (.iload_n 0, 1) := by decide +kernel
theorem dX9_digits_3 : decode cX9_digits 3 = .ok (.istore_n 2, 1) := by decide +kernel
theorem dX9_digits_4 : decode cX9_digits 4 = .ok (.iload_n 2, 1) := by decide +kernel
theorem dX9_digits_5 : decode cX9_digits 5 = .ok (.ifCond .le 13, 3) := by decide +kernel
theorem dX9_digits_8 : decode cX9_digits 8 = .ok (.iinc 1 1, 3) := by decide +kernel
theorem dX9_digits_11 : decode cX9_digits 11 = .ok (.iload_n 2, 1) := by decide +kernel
theorem dX9_digits_12 : decode cX9_digits 12 = .ok (.iconst 2, 1) := by decide +kernel
theorem dX9_digits_13 : decode cX9_digits 13 = .ok (.idiv, 1) := by decide +kernel
theorem dX9_digits_14 : decode cX9_digits 14 = .ok (.istore_n 2, 1) := by decide +kernel
theorem dX9_digits_15 : decode cX9_digits 15 = .ok (.goto (-11), 3) := by decide +kernel
theorem dX9_digits_18 : decode cX9_digits 18 = .ok (.iload_n 1, 1) := by decide +kernel
theorem dX9_digits_19 : decode cX9_digits 19 = .ok (.ireturn, 1) := by decide +kernel
