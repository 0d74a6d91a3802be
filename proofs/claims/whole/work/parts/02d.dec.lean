theorem dX10_turns_136 : decode cX10_turns 136 = .ok (.isub, 1) := by decide +kernel
theorem dX10_turns_137 : decode cX10_turns 137 = .ok (.iaload, 1) := by decide +kernel
theorem dX10_turns_138 : decode cX10_turns 138 = .ok (.ireturn, 1) := by decide +kernel
theorem dX10_turns_139 : decode cX10_turns 139 = .ok (.aload_n 1, 1) := by decide +kernel
theorem dX10_turns_140 : decode cX10_turns 140 = .ok (.iload_n 2, 1) := by decide +kernel
theorem dX10_turns_141 : decode cX10_turns 141 = .ok (.bipush 15, 2) := by decide +kernel
theorem dX10_turns_143 : decode cX10_turns 143 = .ok (.iadd, 1) := by decide +kernel
theorem dX10_turns_144 : decode cX10_turns 144 = .ok (.iconst 1, 1) := by decide +kernel
theorem dX10_turns_145 : decode cX10_turns 145 = .ok (.iastore, 1) := by decide +kernel
theorem dX10_turns_146 : decode cX10_turns 146 = .ok (.iload_n 3, 1) := by decide +kernel
theorem dX10_turns_147 : decode cX10_turns 147 = .ok (.ireturn, 1) := by decide +kernel
theorem dX10_turns_148 : decode cX10_turns 148 = .ok (.iconst (-1), 1) := by decide +kernel
theorem dX10_turns_149 : decode cX10_turns 149 = .ok (.ireturn, 1) := by decide +kernel
theorem dX10_goes_0 : decode cX10_goes 0 = .ok (.iload_n 2, 1) := by decide +kernel
theorem dX10_goes_1 : decode cX10_goes 1 = .ok (.invokestatic 111, 3) := by decide +kernel
theorem dX10_goes_4 : decode cX10_goes 4 = .ok (.istore_n 3, 1) := by decide +kernel
theorem dX10_goes_5 : decode cX10_goes 5 = .ok (.aload_n 1, 1) := by decide +kernel
theorem dX10_goes_6 : decode cX10_goes 6 = .ok (.iload_n 3, 1) := by decide +kernel
theorem dX10_goes_7 : decode cX10_goes 7 = .ok (.iconst 1, 1) := by decide +kernel
theorem dX10_goes_8 : decode cX10_goes 8 = .ok (.iadd, 1) := by decide +kernel
theorem dX10_goes_9 : decode cX10_goes 9 = .ok (.iaload, 1) := by decide +kernel
theorem dX10_goes_10 : decode cX10_goes 10 = .ok (.istore 4, 2) := by decide +kernel
theorem dX10_goes_12 : decode cX10_goes 12 = .ok (.aload_n 1, 1) := by decide +kernel
theorem dX10_goes_13 : decode cX10_goes 13 = .ok (.iload_n 3, 1) := by decide +kernel
theorem dX10_goes_14 : decode cX10_goes 14 = .ok (.bipush 15, 2) := by decide +kernel
theorem dX10_goes_16 : decode cX10_goes 16 = .ok (.iadd, 1) := by decide +kernel
theorem dX10_goes_17 : decode cX10_goes 17 = .ok (.iaload, 1) := by decide +kernel
theorem dX10_goes_18 : decode cX10_goes 18 = .ok (.iconst 1, 1) := by decide +kernel
theorem dX10_goes_19 : decode cX10_goes 19 = .ok (.if_icmp .ne 5, 3) := by decide +kernel
theorem dX10_goes_22 : decode cX10_goes 22 = .ok (.iconst 0, 1) := by decide +kernel
theorem dX10_goes_23 : decode cX10_goes 23 = .ok (.ireturn, 1) := by decide +kernel
theorem dX10_goes_24 : decode cX10_goes 24 = .ok (.aload_n 0, 1) := by decide +kernel
theorem dX10_goes_25 : decode cX10_goes 25 = .ok (.iload 4, 2) := by decide +kernel
theorem dX10_goes_27 : decode cX10_goes 27 = .ok (.invokevirtual 121, 3) := by decide +kernel
theorem dX10_goes_30 : decode cX10_goes 30 = .ok (.ifCond .ne 12, 3) := by decide +kernel
theorem dX10_goes_33 : decode cX10_goes 33 = .ok (.aload_n 1, 1) := by decide +kernel
theorem dX10_goes_34 : decode cX10_goes 34 = .ok (.iload_n 3, 1) := by decide +kernel
theorem dX10_goes_35 : decode cX10_goes 35 = .ok (.bipush 15, 2) := by decide +kernel
theorem dX10_goes_37 : decode cX10_goes 37 = .ok (.iadd, 1) := by decide +kernel
theorem dX10_goes_38 : decode cX10_goes 38 = .ok (.iconst 1, 1) := by decide +kernel
theorem dX10_goes_39 : decode cX10_goes 39 = .ok (.iastore, 1) := by decide +kernel
theorem dX10_goes_40 : decode cX10_goes 40 = .ok (.iconst 0, 1) := by decide +kernel
theorem dX10_goes_41 : decode cX10_goes 41 = .ok (.ireturn, 1) := by decide +kernel
theorem dX10_goes_42 : decode cX10_goes 42 = .ok (.aload_n 1, 1) := by decide +kernel
theorem dX10_goes_43 : decode cX10_goes 43 = .ok (.iload_n 3, 1) := by decide +kernel
theorem dX10_goes_44 : decode cX10_goes 44 = .ok (.bipush 16, 2) := by decide +kernel
theorem dX10_goes_46 : decode cX10_goes 46 = .ok (.iadd, 1) := by decide +kernel
theorem dX10_goes_47 : decode cX10_goes 47 = .ok (.dup2, 1) := by decide +kernel
theorem dX10_goes_48 : decode cX10_goes 48 = .ok (.iaload, 1) := by decide +kernel
theorem dX10_goes_49 : decode cX10_goes 49 = .ok (.iconst 1, 1) := by decide +kernel
theorem dX10_goes_50 : decode cX10_goes 50 = .ok (.iadd, 1) := by decide +kernel
theorem dX10_goes_51 : decode cX10_goes 51 = .ok (.iastore, 1) := by decide +kernel
theorem dX10_goes_52 : decode cX10_goes 52 = .ok (.aload_n 0, 1) := by decide +kernel
theorem dX10_goes_53 : decode cX10_goes 53 = .ok (.aload_n 1, 1) := by decide +kernel
theorem dX10_goes_54 : decode cX10_goes 54 = .ok (.iload_n 3, 1) := by decide +kernel
theorem dX10_goes_55 : decode cX10_goes 55 = .ok (.iload 4, 2) := by decide +kernel
theorem dX10_goes_57 : decode cX10_goes 57 = .ok (.invokevirtual 124, 3) := by decide +kernel
theorem dX10_goes_60 : decode cX10_goes 60 = .ok (.istore 5, 2) := by decide +kernel
theorem dX10_goes_62 : decode cX10_goes 62 = .ok (.aload_n 1, 1) := by decide +kernel
theorem dX10_goes_63 : decode cX10_goes 63 = .ok (.iload_n 3, 1) := by decide +kernel
theorem dX10_goes_64 : decode cX10_goes 64 = .ok (.iconst 1, 1) := by decide +kernel
theorem dX10_goes_65 : decode cX10_goes 65 = .ok (.iadd, 1) := by decide +kernel
theorem dX10_goes_66 : decode cX10_goes 66 = .ok (.iload 5, 2) := by decide +kernel
theorem dX10_goes_68 : decode cX10_goes 68 = .ok (.ifCond .ge 14, 3) := by decide +kernel
theorem dX10_goes_71 : decode cX10_goes 71 = .ok (.aload_n 0, 1) := by decide +kernel
theorem dX10_goes_72 : decode cX10_goes 72 = .ok (.aload_n 1, 1) := by decide +kernel
theorem dX10_goes_73 : decode cX10_goes 73 = .ok (.iload_n 3, 1) := by decide +kernel
theorem dX10_goes_74 : decode cX10_goes 74 = .ok (.iload 4, 2) := by decide +kernel
theorem dX10_goes_76 : decode cX10_goes 76 = .ok (.invokevirtual 128, 3) := by decide +kernel
theorem dX10_goes_79 : decode cX10_goes 79 = .ok (.goto 5, 3) := by decide +kernel
theorem dX10_goes_82 : decode cX10_goes 82 = .ok (.iload 5, 2) := by decide +kernel
theorem dX10_goes_84 : decode cX10_goes 84 = .ok (.iastore, 1) := by decide +kernel
theorem dX10_goes_85 : decode cX10_goes 85 = .ok (.iconst 1, 1) := by decide +kernel
theorem dX10_goes_86 : decode cX10_goes 86 = .ok (.ireturn, 1) := by decide +kernel
theorem dX10_does_0 : decode cX10_does 0 = .ok (.iload_n 1, 1) := by decide +kernel
theorem dX10_does_1 : decode cX10_does 1 = .ok (.invokestatic 111, 3) := by decide +kernel
theorem dX10_does_4 : decode cX10_does 4 = .ok (.istore_n 2, 1) := by decide +kernel
theorem dX10_does_5 : decode cX10_does 5 = .ok (.aload_n 0, 1) := by decide +kernel
theorem dX10_does_6 : decode cX10_does 6 = .ok (.getfield 20, 3) := by decide +kernel
theorem dX10_does_9 : decode cX10_does 9 = .ok (.iload_n 2, 1) := by decide +kernel
theorem dX10_does_10 : decode cX10_does 10 = .ok (.iconst 1, 1) := by decide +kernel
theorem dX10_does_11 : decode cX10_does 11 = .ok (.iadd, 1) := by decide +kernel
theorem dX10_does_12 : decode cX10_does 12 = .ok (.iaload, 1) := by decide +kernel
theorem dX10_does_13 : decode cX10_does 13 = .ok (.istore_n 3, 1) := by decide +kernel
theorem dX10_does_14 : decode cX10_does 14 = .ok (.aload_n 0, 1) := by decide +kernel
theorem dX10_does_15 : decode cX10_does 15 = .ok (.getfield 20, 3) := by decide +kernel
theorem dX10_does_18 : decode cX10_does 18 = .ok (.iload_n 2, 1) := by decide +kernel
theorem dX10_does_19 : decode cX10_does 19 = .ok (.bipush 15, 2) := by decide +kernel
theorem dX10_does_21 : decode cX10_does 21 = .ok (.iadd, 1) := by decide +kernel
theorem dX10_does_22 : decode cX10_does 22 = .ok (.iaload, 1) := by decide +kernel
theorem dX10_does_23 : decode cX10_does 23 = .ok (.ifCond .ne 71, 3) := by decide +kernel
theorem dX10_does_26 : decode cX10_does 26 = .ok (.aload_n 0, 1) := by decide +kernel
theorem dX10_does_27 : decode cX10_does 27 = .ok (.iload_n 3, 1) := by decide +kernel
theorem dX10_does_28 : decode cX10_does 28 = .ok (.invokevirtual 121, 3) := by decide +kernel
theorem dX10_does_31 : decode cX10_does 31 = .ok (.ifCond .eq 63, 3) := by decide +kernel
theorem dX10_does_34 : decode cX10_does 34 = .ok (.aload_n 0, 1) := by decide +kernel
theorem dX10_does_35 : decode cX10_does 35 = .ok (.iload_n 3, 1) := by decide +kernel
theorem dX10_does_36 : decode cX10_does 36 = .ok (.invokevirtual 99, 3) := by decide +kernel
theorem dX10_does_39 : decode cX10_does 39 = .ok (.istore 4, 2) := by decide +kernel
theorem dX10_does_41 : decode cX10_does 41 = .ok (.iload 4, 2) := by decide +kernel
theorem dX10_does_43 : decode cX10_does 43 = .ok (.bipush (-4), 2) := by decide +kernel
theorem dX10_does_45 : decode cX10_does 45 = .ok (.if_icmp .eq 49, 3) := by decide +kernel
theorem dX10_does_48 : decode cX10_does 48 = .ok (.aload_n 0, 1) := by decide +kernel
theorem dX10_does_49 : decode cX10_does 49 = .ok (.getfield 20, 3) := by decide +kernel
theorem dX10_does_52 : decode cX10_does 52 = .ok (.iload 4, 2) := by decide +kernel
theorem dX10_does_54 : decode cX10_does 54 = .ok (.invokestatic 96, 3) := by decide +kernel
theorem dX10_does_57 : decode cX10_does 57 = .ok (.iaload, 1) := by decide +kernel
theorem dX10_does_58 : decode cX10_does 58 = .ok (.ifCond .ne 36, 3) := by decide +kernel
theorem dX10_does_61 : decode cX10_does 61 = .ok (.aload_n 0, 1) := by decide +kernel
theorem dX10_does_62 : decode cX10_does 62 = .ok (.getfield 20, 3) := by decide +kernel
theorem dX10_does_65 : decode cX10_does 65 = .ok (.iload_n 2, 1) := by decide +kernel
theorem dX10_does_66 : decode cX10_does 66 = .ok (.bipush 16, 2) := by decide +kernel
theorem dX10_does_68 : decode cX10_does 68 = .ok (.iadd, 1) := by decide +kernel
theorem dX10_does_69 : decode cX10_does 69 = .ok (.dup2, 1) := by decide +kernel
theorem dX10_does_70 : decode cX10_does 70 = .ok (.iaload, 1) := by decide +kernel
theorem dX10_does_71 : decode cX10_does 71 = .ok (.iconst 1, 1) := by decide +kernel
theorem dX10_does_72 : decode cX10_does 72 = .ok (.iadd, 1) := by decide +kernel
theorem dX10_does_73 : decode cX10_does 73 = .ok (.iastore, 1) := by decide +kernel
theorem dX10_does_74 : decode cX10_does 74 = .ok (.aload_n 0, 1) := by decide +kernel
theorem dX10_does_75 : decode cX10_does 75 = .ok (.iload 4, 2) := by decide +kernel
theorem dX10_does_77 : decode cX10_does 77 = .ok (.iload_n 1, 1) := by decide +kernel
theorem dX10_does_78 : decode cX10_does 78 = .ok (.invokevirtual 131, 3) := by decide +kernel
theorem dX10_does_81 : decode cX10_does 81 = .ok (.aload_n 0, 1) := by decide +kernel
theorem dX10_does_82 : decode cX10_does 82 = .ok (.getfield 20, 3) := by decide +kernel
theorem dX10_does_85 : decode cX10_does 85 = .ok (.iload_n 2, 1) := by decide +kernel
theorem dX10_does_86 : decode cX10_does 86 = .ok (.bipush 16, 2) := by decide +kernel
theorem dX10_does_88 : decode cX10_does 88 = .ok (.iadd, 1) := by decide +kernel
theorem dX10_does_89 : decode cX10_does 89 = .ok (.dup2, 1) := by decide +kernel
theorem dX10_does_90 : decode cX10_does 90 = .ok (.iaload, 1) := by decide +kernel
theorem dX10_does_91 : decode cX10_does 91 = .ok (.iconst 1, 1) := by decide +kernel
theorem dX10_does_92 : decode cX10_does 92 = .ok (.isub, 1) := by decide +kernel
theorem dX10_does_93 : decode cX10_does 93 = .ok (.iastore, 1) := by decide +kernel
theorem dX10_does_94 : decode cX10_does 94 = .ok (.aload_n 0, 1) := by decide +kernel
theorem dX10_does_95 : decode cX10_does 95 = .ok (.getfield 20, 3) := by decide +kernel
theorem dX10_does_98 : decode cX10_does 98 = .ok (.iload_n 2, 1) := by decide +kernel
theorem dX10_does_99 : decode cX10_does 99 = .ok (.iconst 2, 1) := by decide +kernel
theorem dX10_does_100 : decode cX10_does 100 = .ok (.iadd, 1) := by decide +kernel
theorem dX10_does_101 : decode cX10_does 101 = .ok (.iaload, 1) := by decide +kernel
theorem dX10_does_102 : decode cX10_does 102 = .ok (.istore 4, 2) := by decide +kernel
theorem dX10_does_104 : decode cX10_does 104 = .ok (.aload_n 0, 1) := by decide +kernel
theorem dX10_does_105 : decode cX10_does 105 = .ok (.aload_n 0, 1) := by decide +kernel
theorem dX10_does_106 : decode cX10_does 106 = .ok (.getfield 20, 3) := by decide +kernel
theorem dX10_does_109 : decode cX10_does 109 = .ok (.iload_n 1, 1) := by decide +kernel
theorem dX10_does_110 : decode cX10_does 110 = .ok (.invokevirtual 134, 3) := by decide +kernel
theorem dX10_does_113 : decode cX10_does 113 = .ok (.istore 5, 2) := by decide +kernel
theorem dX10_does_115 : decode cX10_does 115 = .ok (.aload_n 0, 1) := by decide +kernel
theorem dX10_does_116 : decode cX10_does 116 = .ok (.getfield 20, 3) := by decide +kernel
theorem dX10_does_119 : decode cX10_does 119 = .ok (.iload_n 2, 1) := by decide +kernel
theorem dX10_does_120 : decode cX10_does 120 = .ok (.iconst 2, 1) := by decide +kernel
theorem dX10_does_121 : decode cX10_does 121 = .ok (.iadd, 1) := by decide +kernel
theorem dX10_does_122 : decode cX10_does 122 = .ok (.iaload, 1) := by decide +kernel
theorem dX10_does_123 : decode cX10_does 123 = .ok (.iload 4, 2) := by decide +kernel
theorem dX10_does_125 : decode cX10_does 125 = .ok (.if_icmp .ge 69, 3) := by decide +kernel
theorem dX10_does_128 : decode cX10_does 128 = .ok (.aload_n 0, 1) := by decide +kernel
theorem dX10_does_129 : decode cX10_does 129 = .ok (.getfield 20, 3) := by decide +kernel
theorem dX10_does_132 : decode cX10_does 132 = .ok (.iload_n 2, 1) := by decide +kernel
theorem dX10_does_133 : decode cX10_does 133 = .ok (.bipush 9, 2) := by decide +kernel
theorem dX10_does_135 : decode cX10_does 135 = .ok (.iadd, 1) := by decide +kernel
theorem dX10_does_136 : decode cX10_does 136 = .ok (.iload 4, 2) := by decide +kernel
theorem dX10_does_138 : decode cX10_does 138 = .ok (.iadd, 1) := by decide +kernel
theorem dX10_does_139 : decode cX10_does 139 = .ok (.iconst 1, 1) := by decide +kernel
theorem dX10_does_140 : decode cX10_does 140 = .ok (.isub, 1) := by decide +kernel
theorem dX10_does_141 : decode cX10_does 141 = .ok (.iaload, 1) := by decide +kernel
theorem dX10_does_142 : decode cX10_does 142 = .ok (.istore 6, 2) := by decide +kernel
theorem dX10_does_144 : decode cX10_does 144 = .ok (.iload 6, 2) := by decide +kernel
theorem dX10_does_146 : decode cX10_does 146 = .ok (.ifCond .le 27, 3) := by decide +kernel
theorem dX10_does_149 : decode cX10_does 149 = .ok (.aload_n 0, 1) := by decide +kernel
theorem dX10_does_150 : decode cX10_does 150 = .ok (.getfield 20, 3) := by decide +kernel
theorem dX10_does_153 : decode cX10_does 153 = .ok (.iload 6, 2) := by decide +kernel
theorem dX10_does_155 : decode cX10_does 155 = .ok (.iconst 1, 1) := by decide +kernel
theorem dX10_does_156 : decode cX10_does 156 = .ok (.isub, 1) := by decide +kernel
theorem dX10_does_157 : decode cX10_does 157 = .ok (.invokestatic 96, 3) := by decide +kernel
theorem dX10_does_160 : decode cX10_does 160 = .ok (.iaload, 1) := by decide +kernel
theorem dX10_does_161 : decode cX10_does 161 = .ok (.ifCond .ne 12, 3) := by decide +kernel
theorem dX10_does_164 : decode cX10_does 164 = .ok (.aload_n 0, 1) := by decide +kernel
theorem dX10_does_165 : decode cX10_does 165 = .ok (.iload 6, 2) := by decide +kernel
theorem dX10_does_167 : decode cX10_does 167 = .ok (.iconst 1, 1) := by decide +kernel
theorem dX10_does_168 : decode cX10_does 168 = .ok (.isub, 1) := by decide +kernel
theorem dX10_does_169 : decode cX10_does 169 = .ok (.iload_n 1, 1) := by decide +kernel
theorem dX10_does_170 : decode cX10_does 170 = .ok (.invokevirtual 114, 3) := by decide +kernel
theorem dX10_does_173 : decode cX10_does 173 = .ok (.aload_n 0, 1) := by decide +kernel
theorem dX10_does_174 : decode cX10_does 174 = .ok (.iload 6, 2) := by decide +kernel
theorem dX10_does_176 : decode cX10_does 176 = .ok (.invokevirtual 138, 3) := by decide +kernel
theorem dX10_does_179 : decode cX10_does 179 = .ok (.aload_n 0, 1) := by decide +kernel
theorem dX10_does_180 : decode cX10_does 180 = .ok (.getfield 20, 3) := by decide +kernel
theorem dX10_does_183 : decode cX10_does 183 = .ok (.iload_n 2, 1) := by decide +kernel
theorem dX10_does_184 : decode cX10_does 184 = .ok (.bipush 9, 2) := by decide +kernel
theorem dX10_does_186 : decode cX10_does 186 = .ok (.iadd, 1) := by decide +kernel
theorem dX10_does_187 : decode cX10_does 187 = .ok (.iload 4, 2) := by decide +kernel
theorem dX10_does_189 : decode cX10_does 189 = .ok (.iadd, 1) := by decide +kernel
theorem dX10_does_190 : decode cX10_does 190 = .ok (.iconst 1, 1) := by decide +kernel
theorem dX10_does_191 : decode cX10_does 191 = .ok (.isub, 1) := by decide +kernel
theorem dX10_does_192 : decode cX10_does 192 = .ok (.iconst 0, 1) := by decide +kernel
theorem dX10_does_193 : decode cX10_does 193 = .ok (.iastore, 1) := by decide +kernel
theorem dX10_does_194 : decode cX10_does 194 = .ok (.iload 5, 2) := by decide +kernel
theorem dX10_does_196 : decode cX10_does 196 = .ok (.ireturn, 1) := by decide +kernel
theorem dX10_isProcessor_0 : decode cX10_isProcessor 0 = .ok (.iload_n 0, 1) := by decide +kernel
theorem dX10_isProcessor_1 : decode cX10_isProcessor 1 = .ok (.iconst 0, 1) := by decide +kernel
theorem dX10_isProcessor_2 : decode cX10_isProcessor 2 = .ok (.iconst 1, 1) := by decide +kernel
theorem dX10_isProcessor_3 : decode cX10_isProcessor 3 = .ok (.invokestatic 59, 3) := by decide +kernel
theorem dX10_isProcessor_6 : decode cX10_isProcessor 6 = .ok (.ireturn, 1) := by decide +kernel
theorem dX10_step_0 : decode cX10_step 0 = .ok (.iload_n 1, 1) := by decide +kernel
theorem dX10_step_1 : decode cX10_step 1 = .ok (.invokestatic 141, 3) := by decide +kernel
theorem dX10_step_4 : decode cX10_step 4 = .ok (.ifCond .eq 13, 3) := by decide +kernel
theorem dX10_step_7 : decode cX10_step 7 = .ok (.iload_n 2, 1) := by decide +kernel
theorem dX10_step_8 : decode cX10_step 8 = .ok (.iconst 1, 1) := by decide +kernel
theorem dX10_step_9 : decode cX10_step 9 = .ok (.bipush 60, 2) := by decide +kernel
theorem dX10_step_11 : decode cX10_step 11 = .ok (.invokestatic 59, 3) := by decide +kernel
theorem dX10_step_14 : decode cX10_step 14 = .ok (.ifCond .ne 5, 3) := by decide +kernel
theorem dX10_step_17 : decode cX10_step 17 = .ok (.iconst (-1), 1) := by decide +kernel
theorem dX10_step_18 : decode cX10_step 18 = .ok (.ireturn, 1) := by decide +kernel
theorem dX10_step_19 : decode cX10_step 19 = .ok (.aload_n 0, 1) := by decide +kernel
theorem dX10_step_20 : decode cX10_step 20 = .ok (.getfield 20, 3) := by decide +kernel
theorem dX10_step_23 : decode cX10_step 23 = .ok (.iload_n 1, 1) := by decide +kernel
theorem dX10_step_24 : decode cX10_step 24 = .ok (.invokestatic 111, 3) := by decide +kernel
theorem dX10_step_27 : decode cX10_step 27 = .ok (.bipush 15, 2) := by decide +kernel
theorem dX10_step_29 : decode cX10_step 29 = .ok (.iadd, 1) := by decide +kernel
theorem dX10_step_30 : decode cX10_step 30 = .ok (.iaload, 1) := by decide +kernel
theorem dX10_step_31 : decode cX10_step 31 = .ok (.iconst 1, 1) := by decide +kernel
theorem dX10_step_32 : decode cX10_step 32 = .ok (.if_icmp .ne 6, 3) := by decide +kernel
theorem dX10_step_35 : decode cX10_step 35 = .ok (.bipush (-2), 2) := by decide +kernel
theorem dX10_step_37 : decode cX10_step 37 = .ok (.ireturn, 1) := by decide +kernel
theorem dX10_step_38 : decode cX10_step 38 = .ok (.aload_n 0, 1) := by decide +kernel
theorem dX10_step_39 : decode cX10_step 39 = .ok (.invokevirtual 105, 3) := by decide +kernel
theorem dX10_step_42 : decode cX10_step 42 = .ok (.iconst 0, 1) := by decide +kernel
theorem dX10_step_43 : decode cX10_step 43 = .ok (.istore_n 3, 1) := by decide +kernel
theorem dX10_step_44 : decode cX10_step 44 = .ok (.iconst 0, 1) := by decide +kernel
theorem dX10_step_45 : decode cX10_step 45 = .ok (.istore 4, 2) := by decide +kernel
theorem dX10_step_47 : decode cX10_step 47 = .ok (.iload 4, 2) := by decide +kernel
theorem dX10_step_49 : decode cX10_step 49 = .ok (.iload_n 2, 1) := by decide +kernel
theorem dX10_step_50 : decode cX10_step 50 = .ok (.if_icmp .ge 25, 3) := by decide +kernel
theorem dX10_step_53 : decode cX10_step 53 = .ok (.iload_n 3, 1) := by decide +kernel
theorem dX10_step_54 : decode cX10_step 54 = .ok (.aload_n 0, 1) := by decide +kernel
theorem dX10_step_55 : decode cX10_step 55 = .ok (.iload_n 1, 1) := by decide +kernel
theorem dX10_step_56 : decode cX10_step 56 = .ok (.invokevirtual 144, 3) := by decide +kernel
theorem dX10_step_59 : decode cX10_step 59 = .ok (.ifCond .eq 7, 3) := by decide +kernel
theorem dX10_step_62 : decode cX10_step 62 = .ok (.iconst 1, 1) := by decide +kernel
theorem dX10_step_63 : decode cX10_step 63 = .ok (.goto 4, 3) := by decide +kernel
theorem dX10_step_66 : decode cX10_step 66 = .ok (.iconst 0, 1) := by decide +kernel
theorem dX10_step_67 : decode cX10_step 67 = .ok (.iadd, 1) := by decide +kernel
theorem dX10_step_68 : decode cX10_step 68 = .ok (.istore_n 3, 1) := by decide +kernel
theorem dX10_step_69 : decode cX10_step 69 = .ok (.iinc 4 1, 3) := by decide +kernel
theorem dX10_step_72 : decode cX10_step 72 = .ok (.goto (-25), 3) := by decide +kernel
theorem dX10_step_75 : decode cX10_step 75 = .ok (.iload_n 3, 1) := by decide +kernel
theorem dX10_step_76 : decode cX10_step 76 = .ok (.ireturn, 1) := by decide +kernel
theorem dX10_start_0 : decode cX10_start 0 = .ok (.iload_n 1, 1) := by decide +kernel
theorem dX10_start_1 : decode cX10_start 1 = .ok (.invokestatic 141, 3) := by decide +kernel
theorem dX10_start_4 : decode cX10_start 4 = .ok (.ifCond .eq 22, 3) := by decide +kernel
theorem dX10_start_7 : decode cX10_start 7 = .ok (.aload_n 0, 1) := by decide +kernel
theorem dX10_start_8 : decode cX10_start 8 = .ok (.iload_n 2, 1) := by decide +kernel
theorem dX10_start_9 : decode cX10_start 9 = .ok (.invokevirtual 93, 3) := by decide +kernel
theorem dX10_start_12 : decode cX10_start 12 = .ok (.ifCond .eq 14, 3) := by decide +kernel
theorem dX10_start_15 : decode cX10_start 15 = .ok (.iload_n 3, 1) := by decide +kernel
theorem dX10_start_16 : decode cX10_start 16 = .ok (.iconst 0, 1) := by decide +kernel
theorem dX10_start_17 : decode cX10_start 17 = .ok (.sipush 999, 3) := by decide +kernel
theorem dX10_start_20 : decode cX10_start 20 = .ok (.invokestatic 59, 3) := by decide +kernel
theorem dX10_start_23 : decode cX10_start 23 = .ok (.ifCond .ne 5, 3) := by decide +kernel
theorem dX10_start_26 : decode cX10_start 26 = .ok (.iconst (-1), 1) := by decide +kernel
theorem dX10_start_27 : decode cX10_start 27 = .ok (.ireturn, 1) := by decide +kernel
theorem dX10_start_28 : decode cX10_start 28 = .ok (.aload_n 0, 1) := by decide +kernel
theorem dX10_start_29 : decode cX10_start 29 = .ok (.getfield 16, 3) := by decide +kernel
theorem dX10_start_32 : decode cX10_start 32 = .ok (.iload_n 2, 1) := by decide +kernel
theorem dX10_start_33 : decode cX10_start 33 = .ok (.baload, 1) := by decide +kernel
theorem dX10_start_34 : decode cX10_start 34 = .ok (.ifCond .ne 6, 3) := by decide +kernel
theorem dX10_start_37 : decode cX10_start 37 = .ok (.bipush (-2), 2) := by decide +kernel
theorem dX10_start_39 : decode cX10_start 39 = .ok (.ireturn, 1) := by decide +kernel
theorem dX10_start_40 : decode cX10_start 40 = .ok (.aload_n 0, 1) := by decide +kernel
theorem dX10_start_41 : decode cX10_start 41 = .ok (.invokevirtual 105, 3) := by decide +kernel
theorem dX10_start_44 : decode cX10_start 44 = .ok (.iload_n 1, 1) := by decide +kernel
theorem dX10_start_45 : decode cX10_start 45 = .ok (.invokestatic 111, 3) := by decide +kernel
theorem dX10_start_48 : decode cX10_start 48 = .ok (.istore 4, 2) := by decide +kernel
theorem dX10_start_50 : decode cX10_start 50 = .ok (.iconst 0, 1) := by decide +kernel
theorem dX10_start_51 : decode cX10_start 51 = .ok (.istore 5, 2) := by decide +kernel
theorem dX10_start_53 : decode cX10_start 53 = .ok (.iconst 0, 1) := by decide +kernel
theorem dX10_start_54 : decode cX10_start 54 = .ok (.istore 6, 2) := by decide +kernel
theorem dX10_start_56 : decode cX10_start 56 = .ok (.iload 6, 2) := by decide +kernel
theorem dX10_start_58 : decode cX10_start 58 = .ok (.aload_n 0, 1) := by decide +kernel
theorem dX10_start_59 : decode cX10_start 59 = .ok (.getfield 20, 3) := by decide +kernel
theorem dX10_start_62 : decode cX10_start 62 = .ok (.iload 4, 2) := by decide +kernel
theorem dX10_start_64 : decode cX10_start 64 = .ok (.iconst 2, 1) := by decide +kernel
theorem dX10_start_65 : decode cX10_start 65 = .ok (.iadd, 1) := by decide +kernel
theorem dX10_start_66 : decode cX10_start 66 = .ok (.iaload, 1) := by decide +kernel
theorem dX10_start_67 : decode cX10_start 67 = .ok (.if_icmp .ge 66, 3) := by decide +kernel
theorem dX10_start_70 : decode cX10_start 70 = .ok (.iload 5, 2) := by decide +kernel
theorem dX10_start_72 : decode cX10_start 72 = .ok (.aload_n 0, 1) := by decide +kernel
theorem dX10_start_73 : decode cX10_start 73 = .ok (.getfield 20, 3) := by decide +kernel
theorem dX10_start_76 : decode cX10_start 76 = .ok (.iload 4, 2) := by decide +kernel
theorem dX10_start_78 : decode cX10_start 78 = .ok (.bipush 9, 2) := by decide +kernel
theorem dX10_start_80 : decode cX10_start 80 = .ok (.iadd, 1) := by decide +kernel
theorem dX10_start_81 : decode cX10_start 81 = .ok (.iload 6, 2) := by decide +kernel
theorem dX10_start_83 : decode cX10_start 83 = .ok (.iadd, 1) := by decide +kernel
theorem dX10_start_84 : decode cX10_start 84 = .ok (.iaload, 1) := by decide +kernel
theorem dX10_start_85 : decode cX10_start 85 = .ok (.ifCond .le 7, 3) := by decide +kernel
theorem dX10_start_88 : decode cX10_start 88 = .ok (.iconst 1, 1) := by decide +kernel
theorem dX10_start_89 : decode cX10_start 89 = .ok (.goto 4, 3) := by decide +kernel
theorem dX10_start_92 : decode cX10_start 92 = .ok (.iconst 0, 1) := by decide +kernel
theorem dX10_start_93 : decode cX10_start 93 = .ok (.iadd, 1) := by decide +kernel
theorem dX10_start_94 : decode cX10_start 94 = .ok (.istore 5, 2) := by decide +kernel
theorem dX10_start_96 : decode cX10_start 96 = .ok (.aload_n 0, 1) := by decide +kernel
theorem dX10_start_97 : decode cX10_start 97 = .ok (.aload_n 0, 1) := by decide +kernel
theorem dX10_start_98 : decode cX10_start 98 = .ok (.getfield 20, 3) := by decide +kernel
theorem dX10_start_101 : decode cX10_start 101 = .ok (.iload 4, 2) := by decide +kernel
theorem dX10_start_103 : decode cX10_start 103 = .ok (.bipush 9, 2) := by decide +kernel
theorem dX10_start_105 : decode cX10_start 105 = .ok (.iadd, 1) := by decide +kernel
theorem dX10_start_106 : decode cX10_start 106 = .ok (.iload 6, 2) := by decide +kernel
theorem dX10_start_108 : decode cX10_start 108 = .ok (.iadd, 1) := by decide +kernel
theorem dX10_start_109 : decode cX10_start 109 = .ok (.iaload, 1) := by decide +kernel
theorem dX10_start_110 : decode cX10_start 110 = .ok (.invokevirtual 138, 3) := by decide +kernel
theorem dX10_start_113 : decode cX10_start 113 = .ok (.aload_n 0, 1) := by decide +kernel
theorem dX10_start_114 : decode cX10_start 114 = .ok (.getfield 20, 3) := by decide +kernel
theorem dX10_start_117 : decode cX10_start 117 = .ok (.iload 4, 2) := by decide +kernel
theorem dX10_start_119 : decode cX10_start 119 = .ok (.bipush 9, 2) := by decide +kernel
theorem dX10_start_121 : decode cX10_start 121 = .ok (.iadd, 1) := by decide +kernel
theorem dX10_start_122 : decode cX10_start 122 = .ok (.iload 6, 2) := by decide +kernel
theorem dX10_start_124 : decode cX10_start 124 = .ok (.iadd, 1) := by decide +kernel
theorem dX10_start_125 : decode cX10_start 125 = .ok (.iconst 0, 1) := by decide +kernel
theorem dX10_start_126 : decode cX10_start 126 = .ok (.iastore, 1) := by decide +kernel
theorem dX10_start_127 : decode cX10_start 127 = .ok (.iinc 6 1, 3) := by decide +kernel
theorem dX10_start_130 : decode cX10_start 130 = .ok (.goto (-74), 3) := by decide +kernel
theorem dX10_start_133 : decode cX10_start 133 = .ok (.aload_n 0, 1) := by decide +kernel
theorem dX10_start_134 : decode cX10_start 134 = .ok (.getfield 20, 3) := by decide +kernel
theorem dX10_start_137 : decode cX10_start 137 = .ok (.iload 4, 2) := by decide +kernel
theorem dX10_start_139 : decode cX10_start 139 = .ok (.iload_n 3, 1) := by decide +kernel
theorem dX10_start_140 : decode cX10_start 140 = .ok (.iastore, 1) := by decide +kernel
theorem dX10_start_141 : decode cX10_start 141 = .ok (.aload_n 0, 1) := by decide +kernel
theorem dX10_start_142 : decode cX10_start 142 = .ok (.getfield 20, 3) := by decide +kernel
theorem dX10_start_145 : decode cX10_start 145 = .ok (.iload 4, 2) := by decide +kernel
theorem dX10_start_147 : decode cX10_start 147 = .ok (.iconst 1, 1) := by decide +kernel
theorem dX10_start_148 : decode cX10_start 148 = .ok (.iadd, 1) := by decide +kernel
theorem dX10_start_149 : decode cX10_start 149 = .ok (.iload_n 2, 1) := by decide +kernel
theorem dX10_start_150 : decode cX10_start 150 = .ok (.iastore, 1) := by decide +kernel
theorem dX10_start_151 : decode cX10_start 151 = .ok (.aload_n 0, 1) := by decide +kernel
theorem dX10_start_152 : decode cX10_start 152 = .ok (.getfield 20, 3) := by decide +kernel
theorem dX10_start_155 : decode cX10_start 155 = .ok (.iload 4, 2) := by decide +kernel
theorem dX10_start_157 : decode cX10_start 157 = .ok (.iconst 2, 1) := by decide +kernel
theorem dX10_start_158 : decode cX10_start 158 = .ok (.iadd, 1) := by decide +kernel
theorem dX10_start_159 : decode cX10_start 159 = .ok (.iconst 0, 1) := by decide +kernel
theorem dX10_start_160 : decode cX10_start 160 = .ok (.iastore, 1) := by decide +kernel
theorem dX10_start_161 : decode cX10_start 161 = .ok (.aload_n 0, 1) := by decide +kernel
theorem dX10_start_162 : decode cX10_start 162 = .ok (.getfield 20, 3) := by decide +kernel
theorem dX10_start_165 : decode cX10_start 165 = .ok (.iload 4, 2) := by decide +kernel
theorem dX10_start_167 : decode cX10_start 167 = .ok (.bipush 15, 2) := by decide +kernel
theorem dX10_start_169 : decode cX10_start 169 = .ok (.iadd, 1) := by decide +kernel
theorem dX10_start_170 : decode cX10_start 170 = .ok (.iconst 0, 1) := by decide +kernel
theorem dX10_start_171 : decode cX10_start 171 = .ok (.iastore, 1) := by decide +kernel
theorem dX10_start_172 : decode cX10_start 172 = .ok (.iload 5, 2) := by decide +kernel
theorem dX10_start_174 : decode cX10_start 174 = .ok (.ireturn, 1) := by decide +kernel
theorem dX10_poke_0 : decode cX10_poke 0 = .ok (.iload_n 1, 1) := by decide +kernel
theorem dX10_poke_1 : decode cX10_poke 1 = .ok (.iconst 0, 1) := by decide +kernel
theorem dX10_poke_2 : decode cX10_poke 2 = .ok (.bipush 7, 2) := by decide +kernel
theorem dX10_poke_4 : decode cX10_poke 4 = .ok (.invokestatic 59, 3) := by decide +kernel
theorem dX10_poke_7 : decode cX10_poke 7 = .ok (.ifCond .eq 14, 3) := by decide +kernel
theorem dX10_poke_10 : decode cX10_poke 10 = .ok (.iload_n 2, 1) := by decide +kernel
theorem dX10_poke_11 : decode cX10_poke 11 = .ok (.iconst 0, 1) := by decide +kernel
theorem dX10_poke_12 : decode cX10_poke 12 = .ok (.sipush 999, 3) := by decide +kernel
theorem dX10_poke_15 : decode cX10_poke 15 = .ok (.invokestatic 59, 3) := by decide +kernel
theorem dX10_poke_18 : decode cX10_poke 18 = .ok (.ifCond .ne 5, 3) := by decide +kernel
theorem dX10_poke_21 : decode cX10_poke 21 = .ok (.iconst (-1), 1) := by decide +kernel
theorem dX10_poke_22 : decode cX10_poke 22 = .ok (.ireturn, 1) := by decide +kernel
theorem dX10_poke_23 : decode cX10_poke 23 = .ok (.aload_n 0, 1) := by decide +kernel
theorem dX10_poke_24 : decode cX10_poke 24 = .ok (.getfield 20, 3) := by decide +kernel
theorem dX10_poke_27 : decode cX10_poke 27 = .ok (.iload_n 1, 1) := by decide +kernel
theorem dX10_poke_28 : decode cX10_poke 28 = .ok (.iaload, 1) := by decide +kernel
theorem dX10_poke_29 : decode cX10_poke 29 = .ok (.istore_n 3, 1) := by decide +kernel
theorem dX10_poke_30 : decode cX10_poke 30 = .ok (.iload_n 3, 1) := by decide +kernel
theorem dX10_poke_31 : decode cX10_poke 31 = .ok (.iload_n 2, 1) := by decide +kernel
theorem dX10_poke_32 : decode cX10_poke 32 = .ok (.if_icmp .ne 6, 3) := by decide +kernel
theorem dX10_poke_35 : decode cX10_poke 35 = .ok (.bipush (-2), 2) := by decide +kernel
theorem dX10_poke_37 : decode cX10_poke 37 = .ok (.ireturn, 1) := by decide +kernel
theorem dX10_poke_38 : decode cX10_poke 38 = .ok (.aload_n 0, 1) := by decide +kernel
theorem dX10_poke_39 : decode cX10_poke 39 = .ok (.invokevirtual 105, 3) := by decide +kernel
theorem dX10_poke_42 : decode cX10_poke 42 = .ok (.aload_n 0, 1) := by decide +kernel
theorem dX10_poke_43 : decode cX10_poke 43 = .ok (.getfield 20, 3) := by decide +kernel
theorem dX10_poke_46 : decode cX10_poke 46 = .ok (.iload_n 1, 1) := by decide +kernel
theorem dX10_poke_47 : decode cX10_poke 47 = .ok (.iload_n 2, 1) := by decide +kernel
theorem dX10_poke_48 : decode cX10_poke 48 = .ok (.iastore, 1) := by decide +kernel
theorem dX10_poke_49 : decode cX10_poke 49 = .ok (.iload_n 3, 1) := by decide +kernel
theorem dX10_poke_50 : decode cX10_poke 50 = .ok (.ireturn, 1) := by decide +kernel
theorem dX10_code_0 : decode cX10_code 0 = .ok (.aload_n 0, 1) := by decide +kernel
theorem dX10_code_1 : decode cX10_code 1 = .ok (.iload_n 1, 1) := by decide +kernel
theorem dX10_code_2 : decode cX10_code 2 = .ok (.invokevirtual 93, 3) := by decide +kernel
theorem dX10_code_5 : decode cX10_code 5 = .ok (.ifCond .eq 12, 3) := by decide +kernel
theorem dX10_code_8 : decode cX10_code 8 = .ok (.iload_n 2, 1) := by decide +kernel
theorem dX10_code_9 : decode cX10_code 9 = .ok (.iconst 0, 1) := by decide +kernel
theorem dX10_code_10 : decode cX10_code 10 = .ok (.iconst 1, 1) := by decide +kernel
theorem dX10_code_11 : decode cX10_code 11 = .ok (.invokestatic 59, 3) := by decide +kernel
theorem dX10_code_14 : decode cX10_code 14 = .ok (.ifCond .ne 5, 3) := by decide +kernel
theorem dX10_code_17 : decode cX10_code 17 = .ok (.iconst (-1), 1) := by decide +kernel
theorem dX10_code_18 : decode cX10_code 18 = .ok (.ireturn, 1) := by decide +kernel
theorem dX10_code_19 : decode cX10_code 19 = .ok (.aload_n 0, 1) := by decide +kernel
theorem dX10_code_20 : decode cX10_code 20 = .ok (.iload_n 1, 1) := by decide +kernel
theorem dX10_code_21 : decode cX10_code 21 = .ok (.invokevirtual 99, 3) := by decide +kernel
theorem dX10_code_24 : decode cX10_code 24 = .ok (.istore_n 3, 1) := by decide +kernel
theorem dX10_code_25 : decode cX10_code 25 = .ok (.iload_n 2, 1) := by decide +kernel
theorem dX10_code_26 : decode cX10_code 26 = .ok (.ifCond .ne 26, 3) := by decide +kernel
theorem dX10_code_29 : decode cX10_code 29 = .ok (.iload_n 3, 1) := by decide +kernel
theorem dX10_code_30 : decode cX10_code 30 = .ok (.bipush (-4), 2) := by decide +kernel
theorem dX10_code_32 : decode cX10_code 32 = .ok (.if_icmp .eq 20, 3) := by decide +kernel
theorem dX10_code_35 : decode cX10_code 35 = .ok (.aload_n 0, 1) := by decide +kernel
theorem dX10_code_36 : decode cX10_code 36 = .ok (.getfield 20, 3) := by decide +kernel
theorem dX10_code_39 : decode cX10_code 39 = .ok (.iload_n 3, 1) := by decide +kernel
theorem dX10_code_40 : decode cX10_code 40 = .ok (.invokestatic 96, 3) := by decide +kernel
theorem dX10_code_43 : decode cX10_code 43 = .ok (.iaload, 1) := by decide +kernel
theorem dX10_code_44 : decode cX10_code 44 = .ok (.ifCond .ne 8, 3) := by decide +kernel
theorem dX10_code_47 : decode cX10_code 47 = .ok (.bipush 33, 2) := by decide +kernel
theorem dX10_code_49 : decode cX10_code 49 = .ok (.goto 9, 3) := by decide +kernel
theorem dX10_code_52 : decode cX10_code 52 = .ok (.aload_n 0, 1) := by decide +kernel
theorem dX10_code_53 : decode cX10_code 53 = .ok (.getfield 13, 3) := by decide +kernel
theorem dX10_code_56 : decode cX10_code 56 = .ok (.iload_n 1, 1) := by decide +kernel
theorem dX10_code_57 : decode cX10_code 57 = .ok (.iaload, 1) := by decide +kernel
theorem dX10_code_58 : decode cX10_code 58 = .ok (.ireturn, 1) := by decide +kernel
theorem dX10_memory_0 : decode cX10_memory 0 = .ok (.iload_n 1, 1) := by decide +kernel
theorem dX10_memory_1 : decode cX10_memory 1 = .ok (.iconst 0, 1) := by decide +kernel
theorem dX10_memory_2 : decode cX10_memory 2 = .ok (.bipush 7, 2) := by decide +kernel
theorem dX10_memory_4 : decode cX10_memory 4 = .ok (.invokestatic 59, 3) := by decide +kernel
theorem dX10_memory_7 : decode cX10_memory 7 = .ok (.ifCond .eq 12, 3) := by decide +kernel
theorem dX10_memory_10 : decode cX10_memory 10 = .ok (.aload_n 0, 1) := by decide +kernel
theorem dX10_memory_11 : decode cX10_memory 11 = .ok (.getfield 20, 3) := by decide +kernel
theorem dX10_memory_14 : decode cX10_memory 14 = .ok (.iload_n 1, 1) := by decide +kernel
theorem dX10_memory_15 : decode cX10_memory 15 = .ok (.iaload, 1) := by decide +kernel
theorem dX10_memory_16 : decode cX10_memory 16 = .ok (.goto 4, 3) := by decide +kernel
theorem dX10_memory_19 : decode cX10_memory 19 = .ok (.iconst (-1), 1) := by decide +kernel
theorem dX10_memory_20 : decode cX10_memory 20 = .ok (.ireturn, 1) := by decide +kernel
theorem dX10_processor_0 : decode cX10_processor 0 = .ok (.iload_n 1, 1) := by decide +kernel
theorem dX10_processor_1 : decode cX10_processor 1 = .ok (.invokestatic 141, 3) := by decide +kernel
theorem dX10_processor_4 : decode cX10_processor 4 = .ok (.ifCond .ne 5, 3) := by decide +kernel
theorem dX10_processor_7 : decode cX10_processor 7 = .ok (.iconst (-1), 1) := by decide +kernel
theorem dX10_processor_8 : decode cX10_processor 8 = .ok (.ireturn, 1) := by decide +kernel
theorem dX10_processor_9 : decode cX10_processor 9 = .ok (.iload_n 1, 1) := by decide +kernel
theorem dX10_processor_10 : decode cX10_processor 10 = .ok (.invokestatic 111, 3) := by decide +kernel
theorem dX10_processor_13 : decode cX10_processor 13 = .ok (.istore_n 3, 1) := by decide +kernel
theorem dX10_processor_14 : decode cX10_processor 14 = .ok (.iload_n 2, 1) := by decide +kernel
theorem dX10_processor_15 : decode cX10_processor 15 = .ok (.tableswitch 106 0 6 #[41, 50, 57, 66, 76, 86, 96], 41) := by decide +kernel
theorem dX10_processor_56 : decode cX10_processor 56 = .ok (.aload_n 0, 1) := by decide +kernel
theorem dX10_processor_57 : decode cX10_processor 57 = .ok (.getfield 20, 3) := by decide +kernel
theorem dX10_processor_60 : decode cX10_processor 60 = .ok (.iload_n 3, 1) := by decide +kernel
theorem dX10_processor_61 : decode cX10_processor 61 = .ok (.iconst 1, 1) := by decide +kernel
theorem dX10_processor_62 : decode cX10_processor 62 = .ok (.iadd, 1) := by decide +kernel
theorem dX10_processor_63 : decode cX10_processor 63 = .ok (.iaload, 1) := by decide +kernel
theorem dX10_processor_64 : decode cX10_processor 64 = .ok (.ireturn, 1) := by decide +kernel
theorem dX10_processor_65 : decode cX10_processor 65 = .ok (.aload_n 0, 1) := by decide +kernel
theorem dX10_processor_66 : decode cX10_processor 66 = .ok (.getfield 20, 3) := by decide +kernel
theorem dX10_processor_69 : decode cX10_processor 69 = .ok (.iload_n 3, 1) := by decide +kernel
theorem dX10_processor_70 : decode cX10_processor 70 = .ok (.iaload, 1) := by decide +kernel
theorem dX10_processor_71 : decode cX10_processor 71 = .ok (.ireturn, 1) := by decide +kernel
theorem dX10_processor_72 : decode cX10_processor 72 = .ok (.aload_n 0, 1) := by decide +kernel
theorem dX10_processor_73 : decode cX10_processor 73 = .ok (.getfield 20, 3) := by decide +kernel
theorem dX10_processor_76 : decode cX10_processor 76 = .ok (.iload_n 3, 1) := by decide +kernel
theorem dX10_processor_77 : decode cX10_processor 77 = .ok (.iconst 2, 1) := by decide +kernel
theorem dX10_processor_78 : decode cX10_processor 78 = .ok (.iadd, 1) := by decide +kernel
theorem dX10_processor_79 : decode cX10_processor 79 = .ok (.iaload, 1) := by decide +kernel
theorem dX10_processor_80 : decode cX10_processor 80 = .ok (.ireturn, 1) := by decide +kernel
theorem dX10_processor_81 : decode cX10_processor 81 = .ok (.aload_n 0, 1) := by decide +kernel
theorem dX10_processor_82 : decode cX10_processor 82 = .ok (.getfield 20, 3) := by decide +kernel
theorem dX10_processor_85 : decode cX10_processor 85 = .ok (.iload_n 3, 1) := by decide +kernel
theorem dX10_processor_86 : decode cX10_processor 86 = .ok (.bipush 15, 2) := by decide +kernel
theorem dX10_processor_88 : decode cX10_processor 88 = .ok (.iadd, 1) := by decide +kernel
theorem dX10_processor_89 : decode cX10_processor 89 = .ok (.iaload, 1) := by decide +kernel
theorem dX10_processor_90 : decode cX10_processor 90 = .ok (.ireturn, 1) := by decide +kernel
theorem dX10_processor_91 : decode cX10_processor 91 = .ok (.aload_n 0, 1) := by decide +kernel
theorem dX10_processor_92 : decode cX10_processor 92 = .ok (.getfield 20, 3) := by decide +kernel
theorem dX10_processor_95 : decode cX10_processor 95 = .ok (.iload_n 3, 1) := by decide +kernel
theorem dX10_processor_96 : decode cX10_processor 96 = .ok (.bipush 16, 2) := by decide +kernel
theorem dX10_processor_98 : decode cX10_processor 98 = .ok (.iadd, 1) := by decide +kernel
theorem dX10_processor_99 : decode cX10_processor 99 = .ok (.iaload, 1) := by decide +kernel
theorem dX10_processor_100 : decode cX10_processor 100 = .ok (.ireturn, 1) := by decide +kernel
theorem dX10_processor_101 : decode cX10_processor 101 = .ok (.aload_n 0, 1) := by decide +kernel
theorem dX10_processor_102 : decode cX10_processor 102 = .ok (.getfield 20, 3) := by decide +kernel
theorem dX10_processor_105 : decode cX10_processor 105 = .ok (.iload_n 3, 1) := by decide +kernel
theorem dX10_processor_106 : decode cX10_processor 106 = .ok (.bipush 17, 2) := by decide +kernel
theorem dX10_processor_108 : decode cX10_processor 108 = .ok (.iadd, 1) := by decide +kernel
theorem dX10_processor_109 : decode cX10_processor 109 = .ok (.iaload, 1) := by decide +kernel
theorem dX10_processor_110 : decode cX10_processor 110 = .ok (.ireturn, 1) := by decide +kernel
theorem dX10_processor_111 : decode cX10_processor 111 = .ok (.aload_n 0, 1) := by decide +kernel
theorem dX10_processor_112 : decode cX10_processor 112 = .ok (.getfield 20, 3) := by decide +kernel
theorem dX10_processor_115 : decode cX10_processor 115 = .ok (.iload_n 3, 1) := by decide +kernel
theorem dX10_processor_116 : decode cX10_processor 116 = .ok (.bipush 30, 2) := by decide +kernel
theorem dX10_processor_118 : decode cX10_processor 118 = .ok (.iadd, 1) := by decide +kernel
theorem dX10_processor_119 : decode cX10_processor 119 = .ok (.iaload, 1) := by decide +kernel
theorem dX10_processor_120 : decode cX10_processor 120 = .ok (.ireturn, 1) := by decide +kernel
theorem dX10_processor_121 : decode cX10_processor 121 = .ok (.iconst (-1), 1) := by decide +kernel
theorem dX10_processor_122 : decode cX10_processor 122 = .ok (.ireturn, 1) := by decide +kernel
theorem dX10_returns_0 : decode cX10_returns 0 = .ok (.iload_n 1, 1) := by decide +kernel
theorem dX10_returns_1 : decode cX10_returns 1 = .ok (.invokestatic 141, 3) := by decide +kernel
theorem dX10_returns_4 : decode cX10_returns 4 = .ok (.ifCond .eq 16, 3) := by decide +kernel
theorem dX10_returns_7 : decode cX10_returns 7 = .ok (.iload_n 2, 1) := by decide +kernel
theorem dX10_returns_8 : decode cX10_returns 8 = .ok (.ifCond .lt 12, 3) := by decide +kernel
theorem dX10_returns_11 : decode cX10_returns 11 = .ok (.iload_n 3, 1) := by decide +kernel
theorem dX10_returns_12 : decode cX10_returns 12 = .ok (.iconst 0, 1) := by decide +kernel
theorem dX10_returns_13 : decode cX10_returns 13 = .ok (.iconst 1, 1) := by decide +kernel
theorem dX10_returns_14 : decode cX10_returns 14 = .ok (.invokestatic 59, 3) := by decide +kernel
theorem dX10_returns_17 : decode cX10_returns 17 = .ok (.ifCond .ne 5, 3) := by decide +kernel
theorem dX10_returns_20 : decode cX10_returns 20 = .ok (.iconst (-1), 1) := by decide +kernel
theorem dX10_returns_21 : decode cX10_returns 21 = .ok (.ireturn, 1) := by decide +kernel
theorem dX10_returns_22 : decode cX10_returns 22 = .ok (.iload_n 1, 1) := by decide +kernel
theorem dX10_returns_23 : decode cX10_returns 23 = .ok (.invokestatic 111, 3) := by decide +kernel
theorem dX10_returns_26 : decode cX10_returns 26 = .ok (.istore 4, 2) := by decide +kernel
theorem dX10_returns_28 : decode cX10_returns 28 = .ok (.iload_n 2, 1) := by decide +kernel
theorem dX10_returns_29 : decode cX10_returns 29 = .ok (.aload_n 0, 1) := by decide +kernel
theorem dX10_returns_30 : decode cX10_returns 30 = .ok (.getfield 20, 3) := by decide +kernel
theorem dX10_returns_33 : decode cX10_returns 33 = .ok (.iload 4, 2) := by decide +kernel
theorem dX10_returns_35 : decode cX10_returns 35 = .ok (.iconst 2, 1) := by decide +kernel
theorem dX10_returns_36 : decode cX10_returns 36 = .ok (.iadd, 1) := by decide +kernel
theorem dX10_returns_37 : decode cX10_returns 37 = .ok (.iaload, 1) := by decide +kernel
theorem dX10_returns_38 : decode cX10_returns 38 = .ok (.if_icmp .lt 6, 3) := by decide +kernel
theorem dX10_returns_41 : decode cX10_returns 41 = .ok (.bipush (-4), 2) := by decide +kernel
theorem dX10_returns_43 : decode cX10_returns 43 = .ok (.ireturn, 1) := by decide +kernel
theorem dX10_returns_44 : decode cX10_returns 44 = .ok (.iload_n 3, 1) := by decide +kernel
theorem dX10_returns_45 : decode cX10_returns 45 = .ok (.ifCond .ne 23, 3) := by decide +kernel
theorem dX10_returns_48 : decode cX10_returns 48 = .ok (.aload_n 0, 1) := by decide +kernel
theorem dX10_returns_49 : decode cX10_returns 49 = .ok (.getfield 20, 3) := by decide +kernel
theorem dX10_returns_52 : decode cX10_returns 52 = .ok (.iload 4, 2) := by decide +kernel
theorem dX10_returns_54 : decode cX10_returns 54 = .ok (.bipush 9, 2) := by decide +kernel
theorem dX10_returns_56 : decode cX10_returns 56 = .ok (.iadd, 1) := by decide +kernel
theorem dX10_returns_57 : decode cX10_returns 57 = .ok (.iload_n 2, 1) := by decide +kernel
theorem dX10_returns_58 : decode cX10_returns 58 = .ok (.iadd, 1) := by decide +kernel
theorem dX10_returns_59 : decode cX10_returns 59 = .ok (.iaload, 1) := by decide +kernel
theorem dX10_returns_60 : decode cX10_returns 60 = .ok (.ifCond .le 8, 3) := by decide +kernel
theorem dX10_returns_63 : decode cX10_returns 63 = .ok (.bipush 99, 2) := by decide +kernel
theorem dX10_returns_65 : decode cX10_returns 65 = .ok (.goto 14, 3) := by decide +kernel
theorem dX10_returns_68 : decode cX10_returns 68 = .ok (.aload_n 0, 1) := by decide +kernel
theorem dX10_returns_69 : decode cX10_returns 69 = .ok (.getfield 20, 3) := by decide +kernel
theorem dX10_returns_72 : decode cX10_returns 72 = .ok (.iload 4, 2) := by decide +kernel
theorem dX10_returns_74 : decode cX10_returns 74 = .ok (.iconst 3, 1) := by decide +kernel
theorem dX10_returns_75 : decode cX10_returns 75 = .ok (.iadd, 1) := by decide +kernel
theorem dX10_returns_76 : decode cX10_returns 76 = .ok (.iload_n 2, 1) := by decide +kernel
theorem dX10_returns_77 : decode cX10_returns 77 = .ok (.iadd, 1) := by decide +kernel
theorem dX10_returns_78 : decode cX10_returns 78 = .ok (.iaload, 1) := by decide +kernel
theorem dX10_returns_79 : decode cX10_returns 79 = .ok (.ireturn, 1) := by decide +kernel
theorem dX10_ring_0 : decode cX10_ring 0 = .ok (.iload_n 1, 1) := by decide +kernel
theorem dX10_ring_1 : decode cX10_ring 1 = .ok (.invokestatic 141, 3) := by decide +kernel
theorem dX10_ring_4 : decode cX10_ring 4 = .ok (.ifCond .eq 16, 3) := by decide +kernel
theorem dX10_ring_7 : decode cX10_ring 7 = .ok (.iload_n 2, 1) := by decide +kernel
theorem dX10_ring_8 : decode cX10_ring 8 = .ok (.ifCond .lt 12, 3) := by decide +kernel
theorem dX10_ring_11 : decode cX10_ring 11 = .ok (.iload_n 3, 1) := by decide +kernel
theorem dX10_ring_12 : decode cX10_ring 12 = .ok (.iconst 0, 1) := by decide +kernel
theorem dX10_ring_13 : decode cX10_ring 13 = .ok (.iconst 2, 1) := by decide +kernel
theorem dX10_ring_14 : decode cX10_ring 14 = .ok (.invokestatic 59, 3) := by decide +kernel
theorem dX10_ring_17 : decode cX10_ring 17 = .ok (.ifCond .ne 5, 3) := by decide +kernel
theorem dX10_ring_20 : decode cX10_ring 20 = .ok (.iconst (-1), 1) := by decide +kernel
theorem dX10_ring_21 : decode cX10_ring 21 = .ok (.ireturn, 1) := by decide +kernel
theorem dX10_ring_22 : decode cX10_ring 22 = .ok (.iload_n 1, 1) := by decide +kernel
theorem dX10_ring_23 : decode cX10_ring 23 = .ok (.invokestatic 111, 3) := by decide +kernel
theorem dX10_ring_26 : decode cX10_ring 26 = .ok (.istore 4, 2) := by decide +kernel
theorem dX10_ring_28 : decode cX10_ring 28 = .ok (.iload_n 2, 1) := by decide +kernel
theorem dX10_ring_29 : decode cX10_ring 29 = .ok (.aload_n 0, 1) := by decide +kernel
theorem dX10_ring_30 : decode cX10_ring 30 = .ok (.getfield 20, 3) := by decide +kernel
theorem dX10_ring_33 : decode cX10_ring 33 = .ok (.iload 4, 2) := by decide +kernel
theorem dX10_ring_35 : decode cX10_ring 35 = .ok (.bipush 17, 2) := by decide +kernel
theorem dX10_ring_37 : decode cX10_ring 37 = .ok (.iadd, 1) := by decide +kernel
theorem dX10_ring_38 : decode cX10_ring 38 = .ok (.iaload, 1) := by decide +kernel
theorem dX10_ring_39 : decode cX10_ring 39 = .ok (.if_icmp .ge 24, 3) := by decide +kernel
theorem dX10_ring_42 : decode cX10_ring 42 = .ok (.aload_n 0, 1) := by decide +kernel
theorem dX10_ring_43 : decode cX10_ring 43 = .ok (.getfield 20, 3) := by decide +kernel
theorem dX10_ring_46 : decode cX10_ring 46 = .ok (.iload 4, 2) := by decide +kernel
theorem dX10_ring_48 : decode cX10_ring 48 = .ok (.bipush 17, 2) := by decide +kernel
theorem dX10_ring_50 : decode cX10_ring 50 = .ok (.iadd, 1) := by decide +kernel
theorem dX10_ring_51 : decode cX10_ring 51 = .ok (.iconst 1, 1) := by decide +kernel
theorem dX10_ring_52 : decode cX10_ring 52 = .ok (.iadd, 1) := by decide +kernel
theorem dX10_ring_53 : decode cX10_ring 53 = .ok (.iconst 3, 1) := by decide +kernel
theorem dX10_ring_54 : decode cX10_ring 54 = .ok (.iload_n 2, 1) := by decide +kernel
theorem dX10_ring_55 : decode cX10_ring 55 = .ok (.imul, 1) := by decide +kernel
theorem dX10_ring_56 : decode cX10_ring 56 = .ok (.iadd, 1) := by decide +kernel
theorem dX10_ring_57 : decode cX10_ring 57 = .ok (.iload_n 3, 1) := by decide +kernel
theorem dX10_ring_58 : decode cX10_ring 58 = .ok (.iadd, 1) := by decide +kernel
theorem dX10_ring_59 : decode cX10_ring 59 = .ok (.iaload, 1) := by decide +kernel
theorem dX10_ring_60 : decode cX10_ring 60 = .ok (.goto 5, 3) := by decide +kernel
theorem dX10_ring_63 : decode cX10_ring 63 = .ok (.bipush (-4), 2) := by decide +kernel
theorem dX10_ring_65 : decode cX10_ring 65 = .ok (.ireturn, 1) := by decide +kernel
theorem dX10_look_0 : decode cX10_look 0 = .ok (.iload_n 1, 1) := by decide +kernel
theorem dX10_look_1 : decode cX10_look 1 = .ok (.iconst 0, 1) := by decide +kernel
theorem dX10_look_2 : decode cX10_look 2 = .ok (.iconst 5, 1) := by decide +kernel
theorem dX10_look_3 : decode cX10_look 3 = .ok (.invokestatic 59, 3) := by decide +kernel
theorem dX10_look_6 : decode cX10_look 6 = .ok (.ifCond .eq 13, 3) := by decide +kernel
theorem dX10_look_9 : decode cX10_look 9 = .ok (.iload_n 2, 1) := by decide +kernel
theorem dX10_look_10 : decode cX10_look 10 = .ok (.iconst 0, 1) := by decide +kernel
theorem dX10_look_11 : decode cX10_look 11 = .ok (.bipush 7, 2) := by decide +kernel
theorem dX10_look_13 : decode cX10_look 13 = .ok (.invokestatic 59, 3) := by decide +kernel
theorem dX10_look_16 : decode cX10_look 16 = .ok (.ifCond .ne 5, 3) := by decide +kernel
theorem dX10_look_19 : decode cX10_look 19 = .ok (.iconst (-1), 1) := by decide +kernel
theorem dX10_look_20 : decode cX10_look 20 = .ok (.ireturn, 1) := by decide +kernel
theorem dX10_look_21 : decode cX10_look 21 = .ok (.iload_n 1, 1) := by decide +kernel
theorem dX10_look_22 : decode cX10_look 22 = .ok (.invokestatic 96, 3) := by decide +kernel
theorem dX10_look_25 : decode cX10_look 25 = .ok (.istore_n 3, 1) := by decide +kernel
theorem dX10_look_26 : decode cX10_look 26 = .ok (.iload_n 2, 1) := by decide +kernel
theorem dX10_look_27 : decode cX10_look 27 = .ok (.ifCond .le 18, 3) := by decide +kernel
theorem dX10_look_30 : decode cX10_look 30 = .ok (.aload_n 0, 1) := by decide +kernel
theorem dX10_look_31 : decode cX10_look 31 = .ok (.getfield 20, 3) := by decide +kernel
theorem dX10_look_34 : decode cX10_look 34 = .ok (.iload_n 3, 1) := by decide +kernel
theorem dX10_look_35 : decode cX10_look 35 = .ok (.iaload, 1) := by decide +kernel
theorem dX10_look_36 : decode cX10_look 36 = .ok (.iconst 3, 1) := by decide +kernel
theorem dX10_look_37 : decode cX10_look 37 = .ok (.if_icmp .ne 8, 3) := by decide +kernel
theorem dX10_look_40 : decode cX10_look 40 = .ok (.bipush (-2), 2) := by decide +kernel
theorem dX10_look_42 : decode cX10_look 42 = .ok (.goto 11, 3) := by decide +kernel
theorem dX10_look_45 : decode cX10_look 45 = .ok (.aload_n 0, 1) := by decide +kernel
theorem dX10_look_46 : decode cX10_look 46 = .ok (.getfield 20, 3) := by decide +kernel
theorem dX10_look_49 : decode cX10_look 49 = .ok (.iload_n 3, 1) := by decide +kernel
theorem dX10_look_50 : decode cX10_look 50 = .ok (.iload_n 2, 1) := by decide +kernel
theorem dX10_look_51 : decode cX10_look 51 = .ok (.iadd, 1) := by decide +kernel
theorem dX10_look_52 : decode cX10_look 52 = .ok (.iaload, 1) := by decide +kernel
theorem dX10_look_53 : decode cX10_look 53 = .ok (.ireturn, 1) := by decide +kernel
theorem dX10_ever_0 : decode cX10_ever 0 = .ok (.iload_n 1, 1) := by decide +kernel
theorem dX10_ever_1 : decode cX10_ever 1 = .ok (.invokestatic 141, 3) := by decide +kernel
theorem dX10_ever_4 : decode cX10_ever 4 = .ok (.ifCond .eq 22, 3) := by decide +kernel
theorem dX10_ever_7 : decode cX10_ever 7 = .ok (.iload_n 2, 1) := by decide +kernel
theorem dX10_ever_8 : decode cX10_ever 8 = .ok (.iconst 0, 1) := by decide +kernel
theorem dX10_ever_9 : decode cX10_ever 9 = .ok (.bipush 60, 2) := by decide +kernel
theorem dX10_ever_11 : decode cX10_ever 11 = .ok (.invokestatic 59, 3) := by decide +kernel
theorem dX10_ever_14 : decode cX10_ever 14 = .ok (.ifCond .eq 12, 3) := by decide +kernel
theorem dX10_ever_17 : decode cX10_ever 17 = .ok (.iload_n 3, 1) := by decide +kernel
theorem dX10_ever_18 : decode cX10_ever 18 = .ok (.iconst 0, 1) := by decide +kernel
theorem dX10_ever_19 : decode cX10_ever 19 = .ok (.iconst 4, 1) := by decide +kernel
theorem dX10_ever_20 : decode cX10_ever 20 = .ok (.invokestatic 59, 3) := by decide +kernel
theorem dX10_ever_23 : decode cX10_ever 23 = .ok (.ifCond .ne 5, 3) := by decide +kernel
theorem dX10_ever_26 : decode cX10_ever 26 = .ok (.iconst (-1), 1) := by decide +kernel
theorem dX10_ever_27 : decode cX10_ever 27 = .ok (.ireturn, 1) := by decide +kernel
theorem dX10_ever_28 : decode cX10_ever 28 = .ok (.iconst 0, 1) := by decide +kernel
theorem dX10_ever_29 : decode cX10_ever 29 = .ok (.istore 4, 2) := by decide +kernel
theorem dX10_ever_31 : decode cX10_ever 31 = .ok (.iload 4, 2) := by decide +kernel
theorem dX10_ever_33 : decode cX10_ever 33 = .ok (.sipush 1318, 3) := by decide +kernel
theorem dX10_ever_36 : decode cX10_ever 36 = .ok (.if_icmp .ge 23, 3) := by decide +kernel
theorem dX10_ever_39 : decode cX10_ever 39 = .ok (.aload_n 0, 1) := by decide +kernel
theorem dX10_ever_40 : decode cX10_ever 40 = .ok (.getfield 23, 3) := by decide +kernel
theorem dX10_ever_43 : decode cX10_ever 43 = .ok (.iload 4, 2) := by decide +kernel
theorem dX10_ever_45 : decode cX10_ever 45 = .ok (.aload_n 0, 1) := by decide +kernel
theorem dX10_ever_46 : decode cX10_ever 46 = .ok (.getfield 20, 3) := by decide +kernel
theorem dX10_ever_49 : decode cX10_ever 49 = .ok (.iload 4, 2) := by decide +kernel
theorem dX10_ever_51 : decode cX10_ever 51 = .ok (.iaload, 1) := by decide +kernel
theorem dX10_ever_52 : decode cX10_ever 52 = .ok (.iastore, 1) := by decide +kernel
theorem dX10_ever_53 : decode cX10_ever 53 = .ok (.iinc 4 1, 3) := by decide +kernel
theorem dX10_ever_56 : decode cX10_ever 56 = .ok (.goto (-25), 3) := by decide +kernel
theorem dX10_ever_59 : decode cX10_ever 59 = .ok (.iconst 0, 1) := by decide +kernel
theorem dX10_ever_60 : decode cX10_ever 60 = .ok (.istore 4, 2) := by decide +kernel
theorem dX10_ever_62 : decode cX10_ever 62 = .ok (.iload 4, 2) := by decide +kernel
theorem dX10_ever_64 : decode cX10_ever 64 = .ok (.iload_n 2, 1) := by decide +kernel
theorem dX10_ever_65 : decode cX10_ever 65 = .ok (.if_icmp .ge 19, 3) := by decide +kernel
theorem dX10_ever_68 : decode cX10_ever 68 = .ok (.aload_n 0, 1) := by decide +kernel
theorem dX10_ever_69 : decode cX10_ever 69 = .ok (.aload_n 0, 1) := by decide +kernel
theorem dX10_ever_70 : decode cX10_ever 70 = .ok (.getfield 23, 3) := by decide +kernel
theorem dX10_ever_73 : decode cX10_ever 73 = .ok (.iload_n 1, 1) := by decide +kernel
theorem dX10_ever_74 : decode cX10_ever 74 = .ok (.invokevirtual 134, 3) := by decide +kernel
theorem dX10_ever_77 : decode cX10_ever 77 = .ok (.pop, 1) := by decide +kernel
theorem dX10_ever_78 : decode cX10_ever 78 = .ok (.iinc 4 1, 3) := by decide +kernel
theorem dX10_ever_81 : decode cX10_ever 81 = .ok (.goto (-19), 3) := by decide +kernel
theorem dX10_ever_84 : decode cX10_ever 84 = .ok (.iload_n 1, 1) := by decide +kernel
theorem dX10_ever_85 : decode cX10_ever 85 = .ok (.invokestatic 111, 3) := by decide +kernel
theorem dX10_ever_88 : decode cX10_ever 88 = .ok (.istore 4, 2) := by decide +kernel
theorem dX10_ever_90 : decode cX10_ever 90 = .ok (.iload_n 3, 1) := by decide +kernel
theorem dX10_ever_91 : decode cX10_ever 91 = .ok (.iconst 4, 1) := by decide +kernel
theorem dX10_ever_92 : decode cX10_ever 92 = .ok (.if_icmp .ge 62, 3) := by decide +kernel
theorem dX10_ever_95 : decode cX10_ever 95 = .ok (.iload_n 3, 1) := by decide +kernel
theorem dX10_ever_96 : decode cX10_ever 96 = .ok (.ifCond .ne 15, 3) := by decide +kernel
theorem dX10_ever_99 : decode cX10_ever 99 = .ok (.aload_n 0, 1) := by decide +kernel
theorem dX10_ever_100 : decode cX10_ever 100 = .ok (.getfield 23, 3) := by decide +kernel
theorem dX10_ever_103 : decode cX10_ever 103 = .ok (.iload 4, 2) := by decide +kernel
theorem dX10_ever_105 : decode cX10_ever 105 = .ok (.iconst 1, 1) := by decide +kernel
theorem dX10_ever_106 : decode cX10_ever 106 = .ok (.iadd, 1) := by decide +kernel
theorem dX10_ever_107 : decode cX10_ever 107 = .ok (.iaload, 1) := by decide +kernel
theorem dX10_ever_108 : decode cX10_ever 108 = .ok (.goto 45, 3) := by decide +kernel
theorem dX10_ever_111 : decode cX10_ever 111 = .ok (.iload_n 3, 1) := by decide +kernel
theorem dX10_ever_112 : decode cX10_ever 112 = .ok (.iconst 1, 1) := by decide +kernel
theorem dX10_ever_113 : decode cX10_ever 113 = .ok (.if_icmp .ne 13, 3) := by decide +kernel
theorem dX10_ever_116 : decode cX10_ever 116 = .ok (.aload_n 0, 1) := by decide +kernel
theorem dX10_ever_117 : decode cX10_ever 117 = .ok (.getfield 23, 3) := by decide +kernel
theorem dX10_ever_120 : decode cX10_ever 120 = .ok (.iload 4, 2) := by decide +kernel
theorem dX10_ever_122 : decode cX10_ever 122 = .ok (.iaload, 1) := by decide +kernel
theorem dX10_ever_123 : decode cX10_ever 123 = .ok (.goto 30, 3) := by decide +kernel
theorem dX10_ever_126 : decode cX10_ever 126 = .ok (.iload_n 3, 1) := by decide +kernel
theorem dX10_ever_127 : decode cX10_ever 127 = .ok (.iconst 2, 1) := by decide +kernel
theorem dX10_ever_128 : decode cX10_ever 128 = .ok (.if_icmp .ne 15, 3) := by decide +kernel
theorem dX10_ever_131 : decode cX10_ever 131 = .ok (.aload_n 0, 1) := by decide +kernel
theorem dX10_ever_132 : decode cX10_ever 132 = .ok (.getfield 23, 3) := by decide +kernel
theorem dX10_ever_135 : decode cX10_ever 135 = .ok (.iload 4, 2) := by decide +kernel
theorem dX10_ever_137 : decode cX10_ever 137 = .ok (.iconst 2, 1) := by decide +kernel
theorem dX10_ever_138 : decode cX10_ever 138 = .ok (.iadd, 1) := by decide +kernel
theorem dX10_ever_139 : decode cX10_ever 139 = .ok (.iaload, 1) := by decide +kernel
theorem dX10_ever_140 : decode cX10_ever 140 = .ok (.goto 13, 3) := by decide +kernel
theorem dX10_ever_143 : decode cX10_ever 143 = .ok (.aload_n 0, 1) := by decide +kernel
theorem dX10_ever_144 : decode cX10_ever 144 = .ok (.getfield 23, 3) := by decide +kernel
theorem dX10_ever_147 : decode cX10_ever 147 = .ok (.iload 4, 2) := by decide +kernel
theorem dX10_ever_149 : decode cX10_ever 149 = .ok (.bipush 15, 2) := by decide +kernel
theorem dX10_ever_151 : decode cX10_ever 151 = .ok (.iadd, 1) := by decide +kernel
theorem dX10_ever_152 : decode cX10_ever 152 = .ok (.iaload, 1) := by decide +kernel
theorem dX10_ever_153 : decode cX10_ever 153 = .ok (.ireturn, 1) := by decide +kernel
theorem dX10_ever_154 : decode cX10_ever 154 = .ok (.iconst 0, 1) := by decide +kernel
theorem dX10_ever_155 : decode cX10_ever 155 = .ok (.istore 5, 2) := by decide +kernel
theorem dX10_ever_157 : decode cX10_ever 157 = .ok (.iconst 0, 1) := by decide +kernel
theorem dX10_ever_158 : decode cX10_ever 158 = .ok (.istore 6, 2) := by decide +kernel
theorem dX10_ever_160 : decode cX10_ever 160 = .ok (.iload 6, 2) := by decide +kernel
theorem dX10_ever_162 : decode cX10_ever 162 = .ok (.bipush 8, 2) := by decide +kernel
theorem dX10_ever_164 : decode cX10_ever 164 = .ok (.if_icmp .ge 21, 3) := by decide +kernel
theorem dX10_ever_167 : decode cX10_ever 167 = .ok (.iload 5, 2) := by decide +kernel
theorem dX10_ever_169 : decode cX10_ever 169 = .ok (.aload_n 0, 1) := by decide +kernel
theorem dX10_ever_170 : decode cX10_ever 170 = .ok (.getfield 23, 3) := by decide +kernel
theorem dX10_ever_173 : decode cX10_ever 173 = .ok (.iload 6, 2) := by decide +kernel
theorem dX10_ever_175 : decode cX10_ever 175 = .ok (.iaload, 1) := by decide +kernel
theorem dX10_ever_176 : decode cX10_ever 176 = .ok (.iadd, 1) := by decide +kernel
theorem dX10_ever_177 : decode cX10_ever 177 = .ok (.istore 5, 2) := by decide +kernel
theorem dX10_ever_179 : decode cX10_ever 179 = .ok (.iinc 6 1, 3) := by decide +kernel
theorem dX10_ever_182 : decode cX10_ever 182 = .ok (.goto (-22), 3) := by decide +kernel
theorem dX10_ever_185 : decode cX10_ever 185 = .ok (.iload 5, 2) := by decide +kernel
theorem dX10_ever_187 : decode cX10_ever 187 = .ok (.ireturn, 1) := by decide +kernel
theorem dX10_heldInAll_0 : decode cX10_heldInAll 0 = .ok (.iconst 0, 1) := by decide +kernel
theorem dX10_heldInAll_1 : decode cX10_heldInAll 1 = .ok (.istore_n 1, 1) := by decide +kernel
theorem dX10_heldInAll_2 : decode cX10_heldInAll 2 = .ok (.iconst 0, 1) := by decide +kernel
theorem dX10_heldInAll_3 : decode cX10_heldInAll 3 = .ok (.istore_n 2, 1) := by decide +kernel
theorem dX10_heldInAll_4 : decode cX10_heldInAll 4 = .ok (.iload_n 2, 1) := by decide +kernel
theorem dX10_heldInAll_5 : decode cX10_heldInAll 5 = .ok (.bipush 6, 2) := by decide +kernel
theorem dX10_heldInAll_7 : decode cX10_heldInAll 7 = .ok (.if_icmp .ge 41, 3) := by decide +kernel
theorem dX10_heldInAll_10 : decode cX10_heldInAll 10 = .ok (.iload_n 1, 1) := by decide +kernel
theorem dX10_heldInAll_11 : decode cX10_heldInAll 11 = .ok (.aload_n 0, 1) := by decide +kernel
theorem dX10_heldInAll_12 : decode cX10_heldInAll 12 = .ok (.getfield 20, 3) := by decide +kernel
theorem dX10_heldInAll_15 : decode cX10_heldInAll 15 = .ok (.iload_n 2, 1) := by decide +kernel
theorem dX10_heldInAll_16 : decode cX10_heldInAll 16 = .ok (.invokestatic 96, 3) := by decide +kernel
theorem dX10_heldInAll_19 : decode cX10_heldInAll 19 = .ok (.iaload, 1) := by decide +kernel
theorem dX10_heldInAll_20 : decode cX10_heldInAll 20 = .ok (.iconst 3, 1) := by decide +kernel
theorem dX10_heldInAll_21 : decode cX10_heldInAll 21 = .ok (.if_icmp .ge 18, 3) := by decide +kernel
theorem dX10_heldInAll_24 : decode cX10_heldInAll 24 = .ok (.aload_n 0, 1) := by decide +kernel
theorem dX10_heldInAll_25 : decode cX10_heldInAll 25 = .ok (.getfield 20, 3) := by decide +kernel
theorem dX10_heldInAll_28 : decode cX10_heldInAll 28 = .ok (.iload_n 2, 1) := by decide +kernel
theorem dX10_heldInAll_29 : decode cX10_heldInAll 29 = .ok (.invokestatic 96, 3) := by decide +kernel
theorem dX10_heldInAll_32 : decode cX10_heldInAll 32 = .ok (.bipush 6, 2) := by decide +kernel
theorem dX10_heldInAll_34 : decode cX10_heldInAll 34 = .ok (.iadd, 1) := by decide +kernel
theorem dX10_heldInAll_35 : decode cX10_heldInAll 35 = .ok (.iaload, 1) := by decide +kernel
theorem dX10_heldInAll_36 : decode cX10_heldInAll 36 = .ok (.goto 4, 3) := by decide +kernel
theorem dX10_heldInAll_39 : decode cX10_heldInAll 39 = .ok (.iconst 0, 1) := by decide +kernel
theorem dX10_heldInAll_40 : decode cX10_heldInAll 40 = .ok (.iadd, 1) := by decide +kernel
theorem dX10_heldInAll_41 : decode cX10_heldInAll 41 = .ok (.istore_n 1, 1) := by decide +kernel
theorem dX10_heldInAll_42 : decode cX10_heldInAll 42 = .ok (.iinc 2 1, 3) := by decide +kernel
theorem dX10_heldInAll_45 : decode cX10_heldInAll 45 = .ok (.goto (-41), 3) := by decide +kernel
theorem dX10_heldInAll_48 : decode cX10_heldInAll 48 = .ok (.iload_n 1, 1) := by decide +kernel
theorem dX10_heldInAll_49 : decode cX10_heldInAll 49 = .ok (.ireturn, 1) := by decide +kernel
theorem dX10_count_0 : decode cX10_count 0 = .ok (.iload_n 1, 1) := by decide +kernel
theorem dX10_count_1 : decode cX10_count 1 = .ok (.tableswitch 112 0 6 #[43, 48, 85, 91, 97, 102, 107], 43) := by decide +kernel
theorem dX10_count_44 : decode cX10_count 44 = .ok (.aload_n 0, 1) := by decide +kernel
theorem dX10_count_45 : decode cX10_count 45 = .ok (.getfield 49, 3) := by decide +kernel
theorem dX10_count_48 : decode cX10_count 48 = .ok (.ireturn, 1) := by decide +kernel
theorem dX10_count_49 : decode cX10_count 49 = .ok (.iconst 0, 1) := by decide +kernel
theorem dX10_count_50 : decode cX10_count 50 = .ok (.istore_n 2, 1) := by decide +kernel
theorem dX10_count_51 : decode cX10_count 51 = .ok (.iconst 0, 1) := by decide +kernel
theorem dX10_count_52 : decode cX10_count 52 = .ok (.istore_n 3, 1) := by decide +kernel
theorem dX10_count_53 : decode cX10_count 53 = .ok (.iload_n 3, 1) := by decide +kernel
theorem dX10_count_54 : decode cX10_count 54 = .ok (.aload_n 0, 1) := by decide +kernel
theorem dX10_count_55 : decode cX10_count 55 = .ok (.getfield 49, 3) := by decide +kernel
theorem dX10_count_58 : decode cX10_count 58 = .ok (.if_icmp .ge 26, 3) := by decide +kernel
theorem dX10_count_61 : decode cX10_count 61 = .ok (.iload_n 2, 1) := by decide +kernel
theorem dX10_count_62 : decode cX10_count 62 = .ok (.aload_n 0, 1) := by decide +kernel
theorem dX10_count_63 : decode cX10_count 63 = .ok (.getfield 16, 3) := by decide +kernel
theorem dX10_count_66 : decode cX10_count 66 = .ok (.iload_n 3, 1) := by decide +kernel
theorem dX10_count_67 : decode cX10_count 67 = .ok (.baload, 1) := by decide +kernel
theorem dX10_count_68 : decode cX10_count 68 = .ok (.ifCond .eq 7, 3) := by decide +kernel
theorem dX10_count_71 : decode cX10_count 71 = .ok (.iconst 1, 1) := by decide +kernel
theorem dX10_count_72 : decode cX10_count 72 = .ok (.goto 4, 3) := by decide +kernel
theorem dX10_count_75 : decode cX10_count 75 = .ok (.iconst 0, 1) := by decide +kernel
theorem dX10_count_76 : decode cX10_count 76 = .ok (.iadd, 1) := by decide +kernel
theorem dX10_count_77 : decode cX10_count 77 = .ok (.istore_n 2, 1) := by decide +kernel
theorem dX10_count_78 : decode cX10_count 78 = .ok (.iinc 3 1, 3) := by decide +kernel
theorem dX10_count_81 : decode cX10_count 81 = .ok (.goto (-28), 3) := by decide +kernel
theorem dX10_count_84 : decode cX10_count 84 = .ok (.iload_n 2, 1) := by decide +kernel
theorem dX10_count_85 : decode cX10_count 85 = .ok (.ireturn, 1) := by decide +kernel
theorem dX10_count_86 : decode cX10_count 86 = .ok (.aload_n 0, 1) := by decide +kernel
theorem dX10_count_87 : decode cX10_count 87 = .ok (.iconst 0, 1) := by decide +kernel
theorem dX10_count_88 : decode cX10_count 88 = .ok (.invokevirtual 102, 3) := by decide +kernel
theorem dX10_count_91 : decode cX10_count 91 = .ok (.ireturn, 1) := by decide +kernel
theorem dX10_count_92 : decode cX10_count 92 = .ok (.aload_n 0, 1) := by decide +kernel
theorem dX10_count_93 : decode cX10_count 93 = .ok (.iconst 2, 1) := by decide +kernel
theorem dX10_count_94 : decode cX10_count 94 = .ok (.invokevirtual 102, 3) := by decide +kernel
theorem dX10_count_97 : decode cX10_count 97 = .ok (.ireturn, 1) := by decide +kernel
theorem dX10_count_98 : decode cX10_count 98 = .ok (.aload_n 0, 1) := by decide +kernel
theorem dX10_count_99 : decode cX10_count 99 = .ok (.invokevirtual 147, 3) := by decide +kernel
theorem dX10_count_102 : decode cX10_count 102 = .ok (.ireturn, 1) := by decide +kernel
theorem dX10_count_103 : decode cX10_count 103 = .ok (.aload_n 0, 1) := by decide +kernel
theorem dX10_count_104 : decode cX10_count 104 = .ok (.getfield 53, 3) := by decide +kernel
theorem dX10_count_107 : decode cX10_count 107 = .ok (.ireturn, 1) := by decide +kernel
theorem dX10_count_108 : decode cX10_count 108 = .ok (.aload_n 0, 1) := by decide +kernel
theorem dX10_count_109 : decode cX10_count 109 = .ok (.getfield 56, 3) := by decide +kernel
theorem dX10_count_112 : decode cX10_count 112 = .ok (.ireturn, 1) := by decide +kernel
theorem dX10_count_113 : decode cX10_count 113 = .ok (.iconst (-1), 1) := by decide +kernel
theorem dX10_count_114 : decode cX10_count 114 = .ok (.ireturn, 1) := by decide +kernel
theorem dJ9_floorMod_7cf53_0 : decode cJ9_floorMod_7cf53 0 = .ok (.iload_n 0, 1) := by decide +kernel
theorem dJ9_floorMod_7cf53_1 : decode cJ9_floorMod_7cf53 1 = .ok (.iload_n 1, 1) := by decide +kernel
theorem dJ9_floorMod_7cf53_2 : decode cJ9_floorMod_7cf53 2 = .ok (.irem, 1) := by decide +kernel
theorem dJ9_floorMod_7cf53_3 : decode cJ9_floorMod_7cf53 3 = .ok (.istore_n 2, 1) := by decide +kernel
theorem dJ9_floorMod_7cf53_4 : decode cJ9_floorMod_7cf53 4 = .ok (.iload_n 0, 1) := by decide +kernel
theorem dJ9_floorMod_7cf53_5 : decode cJ9_floorMod_7cf53 5 = .ok (.iload_n 1, 1) := by decide +kernel
theorem dJ9_floorMod_7cf53_6 : decode cJ9_floorMod_7cf53 6 = .ok (.ixor, 1) := by decide +kernel
theorem dJ9_floorMod_7cf53_7 : decode cJ9_floorMod_7cf53 7 = .ok (.ifCond .ge 11, 3) := by decide +kernel
theorem dJ9_floorMod_7cf53_10 : decode cJ9_floorMod_7cf53 10 = .ok (.iload_n 2, 1) := by decide +kernel
theorem dJ9_floorMod_7cf53_11 : decode cJ9_floorMod_7cf53 11 = .ok (.ifCond .eq 7, 3) := by decide +kernel
theorem dJ9_floorMod_7cf53_14 : decode cJ9_floorMod_7cf53 14 = .ok (.iload_n 2, 1) := by decide +kernel
theorem dJ9_floorMod_7cf53_15 : decode cJ9_floorMod_7cf53 15 = .ok (.iload_n 1, 1) := by decide +kernel
theorem dJ9_floorMod_7cf53_16 : decode cJ9_floorMod_7cf53 16 = .ok (.iadd, 1) := by decide +kernel
theorem dJ9_floorMod_7cf53_17 : decode cJ9_floorMod_7cf53 17 = .ok (.ireturn, 1) := by decide +kernel
theorem dJ9_floorMod_7cf53_18 : decode cJ9_floorMod_7cf53 18 = .ok (.iload_n 2, 1) := by decide +kernel
theorem dJ9_floorMod_7cf53_19 : decode cJ9_floorMod_7cf53 19 = .ok (.ireturn, 1) := by decide +kernel
theorem dJ9_max_7cf53_0 : decode cJ9_max_7cf53 0 = .ok (.iload_n 0, 1) := by decide +kernel
theorem dJ9_max_7cf53_1 : decode cJ9_max_7cf53 1 = .ok (.iload_n 1, 1) := by decide +kernel
theorem dJ9_max_7cf53_2 : decode cJ9_max_7cf53 2 = .ok (.if_icmp .lt 7, 3) := by decide +kernel
theorem dJ9_max_7cf53_5 : decode cJ9_max_7cf53 5 = .ok (.iload_n 0, 1) := by decide +kernel
theorem dJ9_max_7cf53_6 : decode cJ9_max_7cf53 6 = .ok (.goto 4, 3) := by decide +kernel
theorem dJ9_max_7cf53_9 : decode cJ9_max_7cf53 9 = .ok (.iload_n 1, 1) := by decide +kernel
theorem dJ9_max_7cf53_10 : decode cJ9_max_7cf53 10 = .ok (.ireturn, 1) := by decide +kernel
theorem dJ9_min_7cf53_0 : decode cJ9_min_7cf53 0 = .ok (.iload_n 0, 1) := by decide +kernel
theorem dJ9_min_7cf53_1 : decode cJ9_min_7cf53 1 = .ok (.iload_n 1, 1) := by decide +kernel
theorem dJ9_min_7cf53_2 : decode cJ9_min_7cf53 2 = .ok (.if_icmp .gt 7, 3) := by decide +kernel
theorem dJ9_min_7cf53_5 : decode cJ9_min_7cf53 5 = .ok (.iload_n 0, 1) := by decide +kernel
theorem dJ9_min_7cf53_6 : decode cJ9_min_7cf53 6 = .ok (.goto 4, 3) := by decide +kernel
theorem dJ9_min_7cf53_9 : decode cJ9_min_7cf53 9 = .ok (.iload_n 1, 1) := by decide +kernel
theorem dJ9_min_7cf53_10 : decode cJ9_min_7cf53 10 = .ok (.ireturn, 1) := by decide +kernel
theorem dJ0_length_8abf5_0 : decode cJ0_length_8abf5 0 = .ok (.aload_n 0, 1) := by decide +kernel
theorem dJ0_length_8abf5_1 : decode cJ0_length_8abf5 1 = .ok (.getfield 9, 3) := by decide +kernel
theorem dJ0_length_8abf5_4 : decode cJ0_length_8abf5 4 = .ok (.arraylength, 1) := by decide +kernel
theorem dJ0_length_8abf5_5 : decode cJ0_length_8abf5 5 = .ok (.aload_n 0, 1) := by decide +kernel
theorem dJ0_length_8abf5_6 : decode cJ0_length_8abf5 6 = .ok (.invokevirtual 335, 3) := by decide +kernel
theorem dJ0_length_8abf5_9 : decode cJ0_length_8abf5 9 = .ok (.ishr, 1) := by decide +kernel
theorem dJ0_length_8abf5_10 : decode cJ0_length_8abf5 10 = .ok (.ireturn, 1) := by decide +kernel
theorem dJ0_charAt_5068e_0 : decode cJ0_charAt_5068e 0 = .ok (.aload_n 0, 1) := by decide +kernel
theorem dJ0_charAt_5068e_1 : decode cJ0_charAt_5068e 1 = .ok (.invokevirtual 492, 3) := by decide +kernel
theorem dJ0_charAt_5068e_4 : decode cJ0_charAt_5068e 4 = .ok (.ifCond .eq 12, 3) := by decide +kernel
theorem dJ0_charAt_5068e_7 : decode cJ0_charAt_5068e 7 = .ok (.aload_n 0, 1) := by decide +kernel
theorem dJ0_charAt_5068e_8 : decode cJ0_charAt_5068e 8 = .ok (.getfield 9, 3) := by decide +kernel
theorem dJ0_charAt_5068e_11 : decode cJ0_charAt_5068e 11 = .ok (.iload_n 1, 1) := by decide +kernel
theorem dJ0_charAt_5068e_12 : decode cJ0_charAt_5068e 12 = .ok (.invokestatic 495, 3) := by decide +kernel
theorem dJ0_charAt_5068e_15 : decode cJ0_charAt_5068e 15 = .ok (.ireturn, 1) := by decide +kernel
theorem dJ0_charAt_5068e_16 : decode cJ0_charAt_5068e 16 = .ok (.aload_n 0, 1) := by decide +kernel
theorem dJ0_charAt_5068e_17 : decode cJ0_charAt_5068e 17 = .ok (.getfield 9, 3) := by decide +kernel
theorem dJ0_charAt_5068e_20 : decode cJ0_charAt_5068e 20 = .ok (.iload_n 1, 1) := by decide +kernel
theorem dJ0_charAt_5068e_21 : decode cJ0_charAt_5068e 21 = .ok (.invokestatic 498, 3) := by decide +kernel
theorem dJ0_charAt_5068e_24 : decode cJ0_charAt_5068e 24 = .ok (.ireturn, 1) := by decide +kernel
theorem dJ0_coder_7d493_0 : decode cJ0_coder_7d493 0 = .ok (.getstatic 38, 3) := by decide +kernel
theorem dJ0_coder_7d493_3 : decode cJ0_coder_7d493 3 = .ok (.ifCond .eq 10, 3) := by decide +kernel
theorem dJ0_coder_7d493_6 : decode cJ0_coder_7d493 6 = .ok (.aload_n 0, 1) := by decide +kernel
theorem dJ0_coder_7d493_7 : decode cJ0_coder_7d493 7 = .ok (.getfield 15, 3) := by decide +kernel
theorem dJ0_coder_7d493_10 : decode cJ0_coder_7d493 10 = .ok (.goto 4, 3) := by decide +kernel
theorem dJ0_coder_7d493_13 : decode cJ0_coder_7d493 13 = .ok (.iconst 1, 1) := by decide +kernel
theorem dJ0_coder_7d493_14 : decode cJ0_coder_7d493 14 = .ok (.ireturn, 1) := by decide +kernel
theorem dJ0_isLatin1_aae02_0 : decode cJ0_isLatin1_aae02 0 = .ok (.getstatic 38, 3) := by decide +kernel
theorem dJ0_isLatin1_aae02_3 : decode cJ0_isLatin1_aae02 3 = .ok (.ifCond .eq 14, 3) := by decide +kernel
theorem dJ0_isLatin1_aae02_6 : decode cJ0_isLatin1_aae02 6 = .ok (.aload_n 0, 1) := by decide +kernel
theorem dJ0_isLatin1_aae02_7 : decode cJ0_isLatin1_aae02 7 = .ok (.getfield 15, 3) := by decide +kernel
theorem dJ0_isLatin1_aae02_10 : decode cJ0_isLatin1_aae02 10 = .ok (.ifCond .ne 7, 3) := by decide +kernel
theorem dJ0_isLatin1_aae02_13 : decode cJ0_isLatin1_aae02 13 = .ok (.iconst 1, 1) := by decide +kernel
theorem dJ0_isLatin1_aae02_14 : decode cJ0_isLatin1_aae02 14 = .ok (.goto 4, 3) := by decide +kernel
theorem dJ0_isLatin1_aae02_17 : decode cJ0_isLatin1_aae02 17 = .ok (.iconst 0, 1) := by decide +kernel
theorem dJ0_isLatin1_aae02_18 : decode cJ0_isLatin1_aae02 18 = .ok (.ireturn, 1) := by decide +kernel
theorem dJ0_checkIndex_df160_0 : decode cJ0_checkIndex_df160 0 = .ok (.iload_n 0, 1) := by decide +kernel
theorem dJ0_checkIndex_df160_1 : decode cJ0_checkIndex_df160 1 = .ok (.iload_n 1, 1) := by decide +kernel
theorem dJ0_checkIndex_df160_2 : decode cJ0_checkIndex_df160 2 = .ok (.getstatic 1053, 3) := by decide +kernel
theorem dJ0_checkIndex_df160_5 : decode cJ0_checkIndex_df160 5 = .ok (.invokestatic 1059, 3) := by decide +kernel
theorem dJ0_checkIndex_df160_8 : decode cJ0_checkIndex_df160 8 = .ok (.pop, 1) := by decide +kernel
theorem dJ0_checkIndex_df160_9 : decode cJ0_checkIndex_df160 9 = .ok (.return_, 1) := by decide +kernel
theorem dJ1_charAt_3b067_0 : decode cJ1_charAt_3b067 0 = .ok (.iload_n 1, 1) := by decide +kernel
theorem dJ1_charAt_3b067_1 : decode cJ1_charAt_3b067 1 = .ok (.aload_n 0, 1) := by decide +kernel
theorem dJ1_charAt_3b067_2 : decode cJ1_charAt_3b067 2 = .ok (.arraylength, 1) := by decide +kernel
theorem dJ1_charAt_3b067_3 : decode cJ1_charAt_3b067 3 = .ok (.invokestatic 9, 3) := by decide +kernel
theorem dJ1_charAt_3b067_6 : decode cJ1_charAt_3b067 6 = .ok (.aload_n 0, 1) := by decide +kernel
theorem dJ1_charAt_3b067_7 : decode cJ1_charAt_3b067 7 = .ok (.iload_n 1, 1) := by decide +kernel
theorem dJ1_charAt_3b067_8 : decode cJ1_charAt_3b067 8 = .ok (.baload, 1) := by decide +kernel
theorem dJ1_charAt_3b067_9 : decode cJ1_charAt_3b067 9 = .ok (.sipush 255, 3) := by decide +kernel
theorem dJ1_charAt_3b067_12 : decode cJ1_charAt_3b067 12 = .ok (.iand, 1) := by decide +kernel
theorem dJ1_charAt_3b067_13 : decode cJ1_charAt_3b067 13 = .ok (.i2c, 1) := by decide +kernel
theorem dJ1_charAt_3b067_14 : decode cJ1_charAt_3b067 14 = .ok (.ireturn, 1) := by decide +kernel
theorem dJ3_checkIndex_8e157_0 : decode cJ3_checkIndex_8e157 0 = .ok (.iload_n 0, 1) := by decide +kernel
theorem dJ3_checkIndex_8e157_1 : decode cJ3_checkIndex_8e157 1 = .ok (.ifCond .lt 8, 3) := by decide +kernel
theorem dJ3_checkIndex_8e157_4 : decode cJ3_checkIndex_8e157 4 = .ok (.iload_n 0, 1) := by decide +kernel
theorem dJ3_checkIndex_8e157_5 : decode cJ3_checkIndex_8e157 5 = .ok (.iload_n 1, 1) := by decide +kernel
theorem dJ3_checkIndex_8e157_6 : decode cJ3_checkIndex_8e157 6 = .ok (.if_icmp .lt 10, 3) := by decide +kernel
theorem dJ3_checkIndex_8e157_9 : decode cJ3_checkIndex_8e157 9 = .ok (.aload_n 2, 1) := by decide +kernel
theorem dJ3_checkIndex_8e157_10 : decode cJ3_checkIndex_8e157 10 = .ok (.iload_n 0, 1) := by decide +kernel
theorem dJ3_checkIndex_8e157_11 : decode cJ3_checkIndex_8e157 11 = .ok (.iload_n 1, 1) := by decide +kernel
theorem dJ3_checkIndex_8e157_12 : decode cJ3_checkIndex_8e157 12 = .ok (.invokestatic 95, 3) := by decide +kernel
theorem dJ3_checkIndex_8e157_15 : decode cJ3_checkIndex_8e157 15 = .ok (.athrow, 1) := by decide +kernel
theorem dJ3_checkIndex_8e157_16 : decode cJ3_checkIndex_8e157 16 = .ok (.iload_n 0, 1) := by decide +kernel
theorem dJ3_checkIndex_8e157_17 : decode cJ3_checkIndex_8e157 17 = .ok (.ireturn, 1) := by decide +kernel
theorem dL_law_0 : decode cL_law 0 = .ok (.new 7, 3) := by decide +kernel
theorem dL_law_3 : decode cL_law 3 = .ok (.dup, 1) := by decide +kernel
theorem dL_law_4 : decode cL_law 4 = .ok (.invokespecial 9, 3) := by decide +kernel
theorem dL_law_7 : decode cL_law 7 = .ok (.astore_n 1, 1) := by decide +kernel
theorem dL_law_8 : decode cL_law 8 = .ok (.new 10, 3) := by decide +kernel
theorem dL_law_11 : decode cL_law 11 = .ok (.dup, 1) := by decide +kernel
theorem dL_law_12 : decode cL_law 12 = .ok (.invokespecial 12, 3) := by decide +kernel
theorem dL_law_15 : decode cL_law 15 = .ok (.astore_n 2, 1) := by decide +kernel
theorem dL_law_16 : decode cL_law 16 = .ok (.iconst 0, 1) := by decide +kernel
theorem dL_law_17 : decode cL_law 17 = .ok (.istore_n 3, 1) := by decide +kernel
theorem dL_law_18 : decode cL_law 18 = .ok (.iload_n 3, 1) := by decide +kernel
theorem dL_law_19 : decode cL_law 19 = .ok (.aload_n 0, 1) := by decide +kernel
theorem dL_law_20 : decode cL_law 20 = .ok (.arraylength, 1) := by decide +kernel
theorem dL_law_21 : decode cL_law 21 = .ok (.iconst 4, 1) := by decide +kernel
theorem dL_law_22 : decode cL_law 22 = .ok (.isub, 1) := by decide +kernel
theorem dL_law_23 : decode cL_law 23 = .ok (.if_icmp .gt 708, 3) := by decide +kernel
theorem dL_law_26 : decode cL_law 26 = .ok (.aload_n 0, 1) := by decide +kernel
theorem dL_law_27 : decode cL_law 27 = .ok (.iload_n 3, 1) := by decide +kernel
theorem dL_law_28 : decode cL_law 28 = .ok (.iaload, 1) := by decide +kernel
theorem dL_law_29 : decode cL_law 29 = .ok (.bipush 31, 2) := by decide +kernel
theorem dL_law_31 : decode cL_law 31 = .ok (.iand, 1) := by decide +kernel
theorem dL_law_32 : decode cL_law 32 = .ok (.tableswitch 693 0 20 #[100, 123, 136, 149, 162, 195, 228, 251, 274, 317, 350, 383, 396, 429, 452, 485, 528, 571, 604, 627, 670], 100) := by decide +kernel
theorem dL_law_132 : decode cL_law 132 = .ok (.aload_n 1, 1) := by decide +kernel
theorem dL_law_133 : decode cL_law 133 = .ok (.aload_n 0, 1) := by decide +kernel
theorem dL_law_134 : decode cL_law 134 = .ok (.iload_n 3, 1) := by decide +kernel
theorem dL_law_135 : decode cL_law 135 = .ok (.iconst 1, 1) := by decide +kernel
theorem dL_law_136 : decode cL_law 136 = .ok (.iadd, 1) := by decide +kernel
theorem dL_law_137 : decode cL_law 137 = .ok (.iaload, 1) := by decide +kernel
theorem dL_law_138 : decode cL_law 138 = .ok (.invokevirtual 13, 3) := by decide +kernel
theorem dL_law_141 : decode cL_law 141 = .ok (.aload_n 2, 1) := by decide +kernel
theorem dL_law_142 : decode cL_law 142 = .ok (.aload_n 0, 1) := by decide +kernel
theorem dL_law_143 : decode cL_law 143 = .ok (.iload_n 3, 1) := by decide +kernel
theorem dL_law_144 : decode cL_law 144 = .ok (.iconst 1, 1) := by decide +kernel
theorem dL_law_145 : decode cL_law 145 = .ok (.iadd, 1) := by decide +kernel
theorem dL_law_146 : decode cL_law 146 = .ok (.iaload, 1) := by decide +kernel
theorem dL_law_147 : decode cL_law 147 = .ok (.invokevirtual 17, 3) := by decide +kernel
theorem dL_law_150 : decode cL_law 150 = .ok (.if_icmp .eq 575, 3) := by decide +kernel
theorem dL_law_153 : decode cL_law 153 = .ok (.iconst 0, 1) := by decide +kernel
theorem dL_law_154 : decode cL_law 154 = .ok (.ireturn, 1) := by decide +kernel
theorem dL_law_155 : decode cL_law 155 = .ok (.aload_n 1, 1) := by decide +kernel
theorem dL_law_156 : decode cL_law 156 = .ok (.invokevirtual 18, 3) := by decide +kernel
theorem dL_law_159 : decode cL_law 159 = .ok (.aload_n 2, 1) := by decide +kernel
theorem dL_law_160 : decode cL_law 160 = .ok (.invokevirtual 22, 3) := by decide +kernel
theorem dL_law_163 : decode cL_law 163 = .ok (.if_icmp .eq 562, 3) := by decide +kernel
theorem dL_law_166 : decode cL_law 166 = .ok (.iconst 0, 1) := by decide +kernel
theorem dL_law_167 : decode cL_law 167 = .ok (.ireturn, 1) := by decide +kernel
theorem dL_law_168 : decode cL_law 168 = .ok (.aload_n 1, 1) := by decide +kernel
theorem dL_law_169 : decode cL_law 169 = .ok (.invokevirtual 23, 3) := by decide +kernel
theorem dL_law_172 : decode cL_law 172 = .ok (.aload_n 2, 1) := by decide +kernel
theorem dL_law_173 : decode cL_law 173 = .ok (.invokevirtual 26, 3) := by decide +kernel
theorem dL_law_176 : decode cL_law 176 = .ok (.if_icmp .eq 549, 3) := by decide +kernel
theorem dL_law_179 : decode cL_law 179 = .ok (.iconst 0, 1) := by decide +kernel
theorem dL_law_180 : decode cL_law 180 = .ok (.ireturn, 1) := by decide +kernel
theorem dL_law_181 : decode cL_law 181 = .ok (.aload_n 1, 1) := by decide +kernel
theorem dL_law_182 : decode cL_law 182 = .ok (.invokevirtual 27, 3) := by decide +kernel
theorem dL_law_185 : decode cL_law 185 = .ok (.aload_n 2, 1) := by decide +kernel
theorem dL_law_186 : decode cL_law 186 = .ok (.invokevirtual 30, 3) := by decide +kernel
theorem dL_law_189 : decode cL_law 189 = .ok (.if_icmp .eq 536, 3) := by decide +kernel
theorem dL_law_192 : decode cL_law 192 = .ok (.iconst 0, 1) := by decide +kernel
theorem dL_law_193 : decode cL_law 193 = .ok (.ireturn, 1) := by decide +kernel
theorem dL_law_194 : decode cL_law 194 = .ok (.aload_n 1, 1) := by decide +kernel
theorem dL_law_195 : decode cL_law 195 = .ok (.aload_n 0, 1) := by decide +kernel
theorem dL_law_196 : decode cL_law 196 = .ok (.iload_n 3, 1) := by decide +kernel
theorem dL_law_197 : decode cL_law 197 = .ok (.iconst 1, 1) := by decide +kernel
theorem dL_law_198 : decode cL_law 198 = .ok (.iadd, 1) := by decide +kernel
theorem dL_law_199 : decode cL_law 199 = .ok (.iaload, 1) := by decide +kernel
theorem dL_law_200 : decode cL_law 200 = .ok (.aload_n 0, 1) := by decide +kernel
theorem dL_law_201 : decode cL_law 201 = .ok (.iload_n 3, 1) := by decide +kernel
theorem dL_law_202 : decode cL_law 202 = .ok (.iconst 2, 1) := by decide +kernel
theorem dL_law_203 : decode cL_law 203 = .ok (.iadd, 1) := by decide +kernel
theorem dL_law_204 : decode cL_law 204 = .ok (.iaload, 1) := by decide +kernel
theorem dL_law_205 : decode cL_law 205 = .ok (.invokevirtual 31, 3) := by decide +kernel
theorem dL_law_208 : decode cL_law 208 = .ok (.aload_n 2, 1) := by decide +kernel
theorem dL_law_209 : decode cL_law 209 = .ok (.aload_n 0, 1) := by decide +kernel
theorem dL_law_210 : decode cL_law 210 = .ok (.iload_n 3, 1) := by decide +kernel
theorem dL_law_211 : decode cL_law 211 = .ok (.iconst 1, 1) := by decide +kernel
theorem dL_law_212 : decode cL_law 212 = .ok (.iadd, 1) := by decide +kernel
theorem dL_law_213 : decode cL_law 213 = .ok (.iaload, 1) := by decide +kernel
theorem dL_law_214 : decode cL_law 214 = .ok (.aload_n 0, 1) := by decide +kernel
theorem dL_law_215 : decode cL_law 215 = .ok (.iload_n 3, 1) := by decide +kernel
theorem dL_law_216 : decode cL_law 216 = .ok (.iconst 2, 1) := by decide +kernel
theorem dL_law_217 : decode cL_law 217 = .ok (.iadd, 1) := by decide +kernel
theorem dL_law_218 : decode cL_law 218 = .ok (.iaload, 1) := by decide +kernel
theorem dL_law_219 : decode cL_law 219 = .ok (.invokevirtual 35, 3) := by decide +kernel
theorem dL_law_222 : decode cL_law 222 = .ok (.if_icmp .eq 503, 3) := by decide +kernel
theorem dL_law_225 : decode cL_law 225 = .ok (.iconst 0, 1) := by decide +kernel
theorem dL_law_226 : decode cL_law 226 = .ok (.ireturn, 1) := by decide +kernel
theorem dL_law_227 : decode cL_law 227 = .ok (.aload_n 1, 1) := by decide +kernel
theorem dL_law_228 : decode cL_law 228 = .ok (.aload_n 0, 1) := by decide +kernel
theorem dL_law_229 : decode cL_law 229 = .ok (.iload_n 3, 1) := by decide +kernel
theorem dL_law_230 : decode cL_law 230 = .ok (.iconst 1, 1) := by decide +kernel
theorem dL_law_231 : decode cL_law 231 = .ok (.iadd, 1) := by decide +kernel
theorem dL_law_232 : decode cL_law 232 = .ok (.iaload, 1) := by decide +kernel
theorem dL_law_233 : decode cL_law 233 = .ok (.aload_n 0, 1) := by decide +kernel
theorem dL_law_234 : decode cL_law 234 = .ok (.iload_n 3, 1) := by decide +kernel
theorem dL_law_235 : decode cL_law 235 = .ok (.iconst 2, 1) := by decide +kernel
theorem dL_law_236 : decode cL_law 236 = .ok (.iadd, 1) := by decide +kernel
theorem dL_law_237 : decode cL_law 237 = .ok (.iaload, 1) := by decide +kernel
theorem dL_law_238 : decode cL_law 238 = .ok (.invokevirtual 36, 3) := by decide +kernel
theorem dL_law_241 : decode cL_law 241 = .ok (.aload_n 2, 1) := by decide +kernel
theorem dL_law_242 : decode cL_law 242 = .ok (.aload_n 0, 1) := by decide +kernel
theorem dL_law_243 : decode cL_law 243 = .ok (.iload_n 3, 1) := by decide +kernel
theorem dL_law_244 : decode cL_law 244 = .ok (.iconst 1, 1) := by decide +kernel
theorem dL_law_245 : decode cL_law 245 = .ok (.iadd, 1) := by decide +kernel
theorem dL_law_246 : decode cL_law 246 = .ok (.iaload, 1) := by decide +kernel
theorem dL_law_247 : decode cL_law 247 = .ok (.aload_n 0, 1) := by decide +kernel
theorem dL_law_248 : decode cL_law 248 = .ok (.iload_n 3, 1) := by decide +kernel
theorem dL_law_249 : decode cL_law 249 = .ok (.iconst 2, 1) := by decide +kernel
theorem dL_law_250 : decode cL_law 250 = .ok (.iadd, 1) := by decide +kernel
theorem dL_law_251 : decode cL_law 251 = .ok (.iaload, 1) := by decide +kernel
theorem dL_law_252 : decode cL_law 252 = .ok (.invokevirtual 39, 3) := by decide +kernel
theorem dL_law_255 : decode cL_law 255 = .ok (.if_icmp .eq 470, 3) := by decide +kernel
theorem dL_law_258 : decode cL_law 258 = .ok (.iconst 0, 1) := by decide +kernel
theorem dL_law_259 : decode cL_law 259 = .ok (.ireturn, 1) := by decide +kernel
theorem dL_law_260 : decode cL_law 260 = .ok (.aload_n 1, 1) := by decide +kernel
theorem dL_law_261 : decode cL_law 261 = .ok (.aload_n 0, 1) := by decide +kernel
theorem dL_law_262 : decode cL_law 262 = .ok (.iload_n 3, 1) := by decide +kernel
theorem dL_law_263 : decode cL_law 263 = .ok (.iconst 1, 1) := by decide +kernel
theorem dL_law_264 : decode cL_law 264 = .ok (.iadd, 1) := by decide +kernel
theorem dL_law_265 : decode cL_law 265 = .ok (.iaload, 1) := by decide +kernel
theorem dL_law_266 : decode cL_law 266 = .ok (.invokevirtual 40, 3) := by decide +kernel
theorem dL_law_269 : decode cL_law 269 = .ok (.aload_n 2, 1) := by decide +kernel
theorem dL_law_270 : decode cL_law 270 = .ok (.aload_n 0, 1) := by decide +kernel
theorem dL_law_271 : decode cL_law 271 = .ok (.iload_n 3, 1) := by decide +kernel
theorem dL_law_272 : decode cL_law 272 = .ok (.iconst 1, 1) := by decide +kernel
theorem dL_law_273 : decode cL_law 273 = .ok (.iadd, 1) := by decide +kernel
theorem dL_law_274 : decode cL_law 274 = .ok (.iaload, 1) := by decide +kernel
theorem dL_law_275 : decode cL_law 275 = .ok (.invokevirtual 43, 3) := by decide +kernel
theorem dL_law_278 : decode cL_law 278 = .ok (.if_icmp .eq 447, 3) := by decide +kernel
theorem dL_law_281 : decode cL_law 281 = .ok (.iconst 0, 1) := by decide +kernel
theorem dL_law_282 : decode cL_law 282 = .ok (.ireturn, 1) := by decide +kernel
theorem dL_law_283 : decode cL_law 283 = .ok (.aload_n 1, 1) := by decide +kernel
theorem dL_law_284 : decode cL_law 284 = .ok (.aload_n 0, 1) := by decide +kernel
theorem dL_law_285 : decode cL_law 285 = .ok (.iload_n 3, 1) := by decide +kernel
theorem dL_law_286 : decode cL_law 286 = .ok (.iconst 1, 1) := by decide +kernel
theorem dL_law_287 : decode cL_law 287 = .ok (.iadd, 1) := by decide +kernel
theorem dL_law_288 : decode cL_law 288 = .ok (.iaload, 1) := by decide +kernel
theorem dL_law_289 : decode cL_law 289 = .ok (.invokevirtual 44, 3) := by decide +kernel
theorem dL_law_292 : decode cL_law 292 = .ok (.aload_n 2, 1) := by decide +kernel
theorem dL_law_293 : decode cL_law 293 = .ok (.aload_n 0, 1) := by decide +kernel
theorem dL_law_294 : decode cL_law 294 = .ok (.iload_n 3, 1) := by decide +kernel
theorem dL_law_295 : decode cL_law 295 = .ok (.iconst 1, 1) := by decide +kernel
theorem dL_law_296 : decode cL_law 296 = .ok (.iadd, 1) := by decide +kernel
theorem dL_law_297 : decode cL_law 297 = .ok (.iaload, 1) := by decide +kernel
theorem dL_law_298 : decode cL_law 298 = .ok (.invokevirtual 47, 3) := by decide +kernel
theorem dL_law_301 : decode cL_law 301 = .ok (.if_icmp .eq 424, 3) := by decide +kernel
theorem dL_law_304 : decode cL_law 304 = .ok (.iconst 0, 1) := by decide +kernel
theorem dL_law_305 : decode cL_law 305 = .ok (.ireturn, 1) := by decide +kernel
theorem dL_law_306 : decode cL_law 306 = .ok (.aload_n 1, 1) := by decide +kernel
theorem dL_law_307 : decode cL_law 307 = .ok (.aload_n 0, 1) := by decide +kernel
theorem dL_law_308 : decode cL_law 308 = .ok (.iload_n 3, 1) := by decide +kernel
theorem dL_law_309 : decode cL_law 309 = .ok (.iconst 1, 1) := by decide +kernel
theorem dL_law_310 : decode cL_law 310 = .ok (.iadd, 1) := by decide +kernel
theorem dL_law_311 : decode cL_law 311 = .ok (.iaload, 1) := by decide +kernel
theorem dL_law_312 : decode cL_law 312 = .ok (.aload_n 0, 1) := by decide +kernel
theorem dL_law_313 : decode cL_law 313 = .ok (.iload_n 3, 1) := by decide +kernel
theorem dL_law_314 : decode cL_law 314 = .ok (.iconst 2, 1) := by decide +kernel
theorem dL_law_315 : decode cL_law 315 = .ok (.iadd, 1) := by decide +kernel
theorem dL_law_316 : decode cL_law 316 = .ok (.iaload, 1) := by decide +kernel
theorem dL_law_317 : decode cL_law 317 = .ok (.aload_n 0, 1) := by decide +kernel
theorem dL_law_318 : decode cL_law 318 = .ok (.iload_n 3, 1) := by decide +kernel
theorem dL_law_319 : decode cL_law 319 = .ok (.iconst 3, 1) := by decide +kernel
theorem dL_law_320 : decode cL_law 320 = .ok (.iadd, 1) := by decide +kernel
theorem dL_law_321 : decode cL_law 321 = .ok (.iaload, 1) := by decide +kernel
theorem dL_law_322 : decode cL_law 322 = .ok (.invokevirtual 48, 3) := by decide +kernel
theorem dL_law_325 : decode cL_law 325 = .ok (.aload_n 2, 1) := by decide +kernel
theorem dL_law_326 : decode cL_law 326 = .ok (.aload_n 0, 1) := by decide +kernel
theorem dL_law_327 : decode cL_law 327 = .ok (.iload_n 3, 1) := by decide +kernel
theorem dL_law_328 : decode cL_law 328 = .ok (.iconst 1, 1) := by decide +kernel
theorem dL_law_329 : decode cL_law 329 = .ok (.iadd, 1) := by decide +kernel
theorem dL_law_330 : decode cL_law 330 = .ok (.iaload, 1) := by decide +kernel
theorem dL_law_331 : decode cL_law 331 = .ok (.aload_n 0, 1) := by decide +kernel
theorem dL_law_332 : decode cL_law 332 = .ok (.iload_n 3, 1) := by decide +kernel
theorem dL_law_333 : decode cL_law 333 = .ok (.iconst 2, 1) := by decide +kernel
theorem dL_law_334 : decode cL_law 334 = .ok (.iadd, 1) := by decide +kernel
theorem dL_law_335 : decode cL_law 335 = .ok (.iaload, 1) := by decide +kernel
theorem dL_law_336 : decode cL_law 336 = .ok (.aload_n 0, 1) := by decide +kernel
theorem dL_law_337 : decode cL_law 337 = .ok (.iload_n 3, 1) := by decide +kernel
theorem dL_law_338 : decode cL_law 338 = .ok (.iconst 3, 1) := by decide +kernel
theorem dL_law_339 : decode cL_law 339 = .ok (.iadd, 1) := by decide +kernel
theorem dL_law_340 : decode cL_law 340 = .ok (.iaload, 1) := by decide +kernel
theorem dL_law_341 : decode cL_law 341 = .ok (.invokevirtual 52, 3) := by decide +kernel
theorem dL_law_344 : decode cL_law 344 = .ok (.if_icmp .eq 381, 3) := by decide +kernel
theorem dL_law_347 : decode cL_law 347 = .ok (.iconst 0, 1) := by decide +kernel
theorem dL_law_348 : decode cL_law 348 = .ok (.ireturn, 1) := by decide +kernel
theorem dL_law_349 : decode cL_law 349 = .ok (.aload_n 1, 1) := by decide +kernel
theorem dL_law_350 : decode cL_law 350 = .ok (.aload_n 0, 1) := by decide +kernel
theorem dL_law_351 : decode cL_law 351 = .ok (.iload_n 3, 1) := by decide +kernel
theorem dL_law_352 : decode cL_law 352 = .ok (.iconst 1, 1) := by decide +kernel
theorem dL_law_353 : decode cL_law 353 = .ok (.iadd, 1) := by decide +kernel
theorem dL_law_354 : decode cL_law 354 = .ok (.iaload, 1) := by decide +kernel
theorem dL_law_355 : decode cL_law 355 = .ok (.aload_n 0, 1) := by decide +kernel
theorem dL_law_356 : decode cL_law 356 = .ok (.iload_n 3, 1) := by decide +kernel
theorem dL_law_357 : decode cL_law 357 = .ok (.iconst 2, 1) := by decide +kernel
theorem dL_law_358 : decode cL_law 358 = .ok (.iadd, 1) := by decide +kernel
theorem dL_law_359 : decode cL_law 359 = .ok (.iaload, 1) := by decide +kernel
theorem dL_law_360 : decode cL_law 360 = .ok (.invokevirtual 53, 3) := by decide +kernel
theorem dL_law_363 : decode cL_law 363 = .ok (.aload_n 2, 1) := by decide +kernel
theorem dL_law_364 : decode cL_law 364 = .ok (.aload_n 0, 1) := by decide +kernel
theorem dL_law_365 : decode cL_law 365 = .ok (.iload_n 3, 1) := by decide +kernel
theorem dL_law_366 : decode cL_law 366 = .ok (.iconst 1, 1) := by decide +kernel
theorem dL_law_367 : decode cL_law 367 = .ok (.iadd, 1) := by decide +kernel
theorem dL_law_368 : decode cL_law 368 = .ok (.iaload, 1) := by decide +kernel
theorem dL_law_369 : decode cL_law 369 = .ok (.aload_n 0, 1) := by decide +kernel
theorem dL_law_370 : decode cL_law 370 = .ok (.iload_n 3, 1) := by decide +kernel
theorem dL_law_371 : decode cL_law 371 = .ok (.iconst 2, 1) := by decide +kernel
theorem dL_law_372 : decode cL_law 372 = .ok (.iadd, 1) := by decide +kernel
theorem dL_law_373 : decode cL_law 373 = .ok (.iaload, 1) := by decide +kernel
theorem dL_law_374 : decode cL_law 374 = .ok (.invokevirtual 56, 3) := by decide +kernel
theorem dL_law_377 : decode cL_law 377 = .ok (.if_icmp .eq 348, 3) := by decide +kernel
theorem dL_law_380 : decode cL_law 380 = .ok (.iconst 0, 1) := by decide +kernel
theorem dL_law_381 : decode cL_law 381 = .ok (.ireturn, 1) := by decide +kernel
theorem dL_law_382 : decode cL_law 382 = .ok (.aload_n 1, 1) := by decide +kernel
theorem dL_law_383 : decode cL_law 383 = .ok (.aload_n 0, 1) := by decide +kernel
theorem dL_law_384 : decode cL_law 384 = .ok (.iload_n 3, 1) := by decide +kernel
theorem dL_law_385 : decode cL_law 385 = .ok (.iconst 1, 1) := by decide +kernel
theorem dL_law_386 : decode cL_law 386 = .ok (.iadd, 1) := by decide +kernel
theorem dL_law_387 : decode cL_law 387 = .ok (.iaload, 1) := by decide +kernel
theorem dL_law_388 : decode cL_law 388 = .ok (.aload_n 0, 1) := by decide +kernel
theorem dL_law_389 : decode cL_law 389 = .ok (.iload_n 3, 1) := by decide +kernel
theorem dL_law_390 : decode cL_law 390 = .ok (.iconst 2, 1) := by decide +kernel
theorem dL_law_391 : decode cL_law 391 = .ok (.iadd, 1) := by decide +kernel
theorem dL_law_392 : decode cL_law 392 = .ok (.iaload, 1) := by decide +kernel
theorem dL_law_393 : decode cL_law 393 = .ok (.invokevirtual 57, 3) := by decide +kernel
theorem dL_law_396 : decode cL_law 396 = .ok (.aload_n 2, 1) := by decide +kernel
theorem dL_law_397 : decode cL_law 397 = .ok (.aload_n 0, 1) := by decide +kernel
theorem dL_law_398 : decode cL_law 398 = .ok (.iload_n 3, 1) := by decide +kernel
theorem dL_law_399 : decode cL_law 399 = .ok (.iconst 1, 1) := by decide +kernel
theorem dL_law_400 : decode cL_law 400 = .ok (.iadd, 1) := by decide +kernel
theorem dL_law_401 : decode cL_law 401 = .ok (.iaload, 1) := by decide +kernel
theorem dL_law_402 : decode cL_law 402 = .ok (.aload_n 0, 1) := by decide +kernel
theorem dL_law_403 : decode cL_law 403 = .ok (.iload_n 3, 1) := by decide +kernel
theorem dL_law_404 : decode cL_law 404 = .ok (.iconst 2, 1) := by decide +kernel
theorem dL_law_405 : decode cL_law 405 = .ok (.iadd, 1) := by decide +kernel
theorem dL_law_406 : decode cL_law 406 = .ok (.iaload, 1) := by decide +kernel
theorem dL_law_407 : decode cL_law 407 = .ok (.invokevirtual 60, 3) := by decide +kernel
theorem dL_law_410 : decode cL_law 410 = .ok (.if_icmp .eq 315, 3) := by decide +kernel
theorem dL_law_413 : decode cL_law 413 = .ok (.iconst 0, 1) := by decide +kernel
theorem dL_law_414 : decode cL_law 414 = .ok (.ireturn, 1) := by decide +kernel
theorem dL_law_415 : decode cL_law 415 = .ok (.aload_n 1, 1) := by decide +kernel
theorem dL_law_416 : decode cL_law 416 = .ok (.invokevirtual 61, 3) := by decide +kernel
theorem dL_law_419 : decode cL_law 419 = .ok (.aload_n 2, 1) := by decide +kernel
theorem dL_law_420 : decode cL_law 420 = .ok (.invokevirtual 64, 3) := by decide +kernel
theorem dL_law_423 : decode cL_law 423 = .ok (.if_icmp .eq 302, 3) := by decide +kernel
theorem dL_law_426 : decode cL_law 426 = .ok (.iconst 0, 1) := by decide +kernel
theorem dL_law_427 : decode cL_law 427 = .ok (.ireturn, 1) := by decide +kernel
theorem dL_law_428 : decode cL_law 428 = .ok (.aload_n 1, 1) := by decide +kernel
theorem dL_law_429 : decode cL_law 429 = .ok (.aload_n 0, 1) := by decide +kernel
theorem dL_law_430 : decode cL_law 430 = .ok (.iload_n 3, 1) := by decide +kernel
theorem dL_law_431 : decode cL_law 431 = .ok (.iconst 1, 1) := by decide +kernel
theorem dL_law_432 : decode cL_law 432 = .ok (.iadd, 1) := by decide +kernel
theorem dL_law_433 : decode cL_law 433 = .ok (.iaload, 1) := by decide +kernel
theorem dL_law_434 : decode cL_law 434 = .ok (.aload_n 0, 1) := by decide +kernel
theorem dL_law_435 : decode cL_law 435 = .ok (.iload_n 3, 1) := by decide +kernel
theorem dL_law_436 : decode cL_law 436 = .ok (.iconst 2, 1) := by decide +kernel
theorem dL_law_437 : decode cL_law 437 = .ok (.iadd, 1) := by decide +kernel
theorem dL_law_438 : decode cL_law 438 = .ok (.iaload, 1) := by decide +kernel
theorem dL_law_439 : decode cL_law 439 = .ok (.invokevirtual 65, 3) := by decide +kernel
theorem dL_law_442 : decode cL_law 442 = .ok (.aload_n 2, 1) := by decide +kernel
theorem dL_law_443 : decode cL_law 443 = .ok (.aload_n 0, 1) := by decide +kernel
theorem dL_law_444 : decode cL_law 444 = .ok (.iload_n 3, 1) := by decide +kernel
theorem dL_law_445 : decode cL_law 445 = .ok (.iconst 1, 1) := by decide +kernel
theorem dL_law_446 : decode cL_law 446 = .ok (.iadd, 1) := by decide +kernel
theorem dL_law_447 : decode cL_law 447 = .ok (.iaload, 1) := by decide +kernel
theorem dL_law_448 : decode cL_law 448 = .ok (.aload_n 0, 1) := by decide +kernel
theorem dL_law_449 : decode cL_law 449 = .ok (.iload_n 3, 1) := by decide +kernel
theorem dL_law_450 : decode cL_law 450 = .ok (.iconst 2, 1) := by decide +kernel
theorem dL_law_451 : decode cL_law 451 = .ok (.iadd, 1) := by decide +kernel
theorem dL_law_452 : decode cL_law 452 = .ok (.iaload, 1) := by decide +kernel
theorem dL_law_453 : decode cL_law 453 = .ok (.invokevirtual 68, 3) := by decide +kernel
theorem dL_law_456 : decode cL_law 456 = .ok (.if_icmp .eq 269, 3) := by decide +kernel
theorem dL_law_459 : decode cL_law 459 = .ok (.iconst 0, 1) := by decide +kernel
theorem dL_law_460 : decode cL_law 460 = .ok (.ireturn, 1) := by decide +kernel
theorem dL_law_461 : decode cL_law 461 = .ok (.aload_n 1, 1) := by decide +kernel
theorem dL_law_462 : decode cL_law 462 = .ok (.aload_n 0, 1) := by decide +kernel
theorem dL_law_463 : decode cL_law 463 = .ok (.iload_n 3, 1) := by decide +kernel
theorem dL_law_464 : decode cL_law 464 = .ok (.iconst 1, 1) := by decide +kernel
theorem dL_law_465 : decode cL_law 465 = .ok (.iadd, 1) := by decide +kernel
theorem dL_law_466 : decode cL_law 466 = .ok (.iaload, 1) := by decide +kernel
theorem dL_law_467 : decode cL_law 467 = .ok (.invokevirtual 69, 3) := by decide +kernel
theorem dL_law_470 : decode cL_law 470 = .ok (.aload_n 2, 1) := by decide +kernel
theorem dL_law_471 : decode cL_law 471 = .ok (.aload_n 0, 1) := by decide +kernel
theorem dL_law_472 : decode cL_law 472 = .ok (.iload_n 3, 1) := by decide +kernel
theorem dL_law_473 : decode cL_law 473 = .ok (.iconst 1, 1) := by decide +kernel
theorem dL_law_474 : decode cL_law 474 = .ok (.iadd, 1) := by decide +kernel
theorem dL_law_475 : decode cL_law 475 = .ok (.iaload, 1) := by decide +kernel
theorem dL_law_476 : decode cL_law 476 = .ok (.invokevirtual 72, 3) := by decide +kernel
theorem dL_law_479 : decode cL_law 479 = .ok (.if_icmp .eq 246, 3) := by decide +kernel
theorem dL_law_482 : decode cL_law 482 = .ok (.iconst 0, 1) := by decide +kernel
theorem dL_law_483 : decode cL_law 483 = .ok (.ireturn, 1) := by decide +kernel
theorem dL_law_484 : decode cL_law 484 = .ok (.aload_n 1, 1) := by decide +kernel
theorem dL_law_485 : decode cL_law 485 = .ok (.aload_n 0, 1) := by decide +kernel
theorem dL_law_486 : decode cL_law 486 = .ok (.iload_n 3, 1) := by decide +kernel
theorem dL_law_487 : decode cL_law 487 = .ok (.iconst 1, 1) := by decide +kernel
theorem dL_law_488 : decode cL_law 488 = .ok (.iadd, 1) := by decide +kernel
theorem dL_law_489 : decode cL_law 489 = .ok (.iaload, 1) := by decide +kernel
theorem dL_law_490 : decode cL_law 490 = .ok (.aload_n 0, 1) := by decide +kernel
theorem dL_law_491 : decode cL_law 491 = .ok (.iload_n 3, 1) := by decide +kernel
theorem dL_law_492 : decode cL_law 492 = .ok (.iconst 2, 1) := by decide +kernel
theorem dL_law_493 : decode cL_law 493 = .ok (.iadd, 1) := by decide +kernel
theorem dL_law_494 : decode cL_law 494 = .ok (.iaload, 1) := by decide +kernel
theorem dL_law_495 : decode cL_law 495 = .ok (.invokevirtual 73, 3) := by decide +kernel
theorem dL_law_498 : decode cL_law 498 = .ok (.aload_n 2, 1) := by decide +kernel
theorem dL_law_499 : decode cL_law 499 = .ok (.aload_n 0, 1) := by decide +kernel
theorem dL_law_500 : decode cL_law 500 = .ok (.iload_n 3, 1) := by decide +kernel
theorem dL_law_501 : decode cL_law 501 = .ok (.iconst 1, 1) := by decide +kernel
theorem dL_law_502 : decode cL_law 502 = .ok (.iadd, 1) := by decide +kernel
theorem dL_law_503 : decode cL_law 503 = .ok (.iaload, 1) := by decide +kernel
theorem dL_law_504 : decode cL_law 504 = .ok (.aload_n 0, 1) := by decide +kernel
theorem dL_law_505 : decode cL_law 505 = .ok (.iload_n 3, 1) := by decide +kernel
theorem dL_law_506 : decode cL_law 506 = .ok (.iconst 2, 1) := by decide +kernel
theorem dL_law_507 : decode cL_law 507 = .ok (.iadd, 1) := by decide +kernel
theorem dL_law_508 : decode cL_law 508 = .ok (.iaload, 1) := by decide +kernel
theorem dL_law_509 : decode cL_law 509 = .ok (.invokevirtual 76, 3) := by decide +kernel
theorem dL_law_512 : decode cL_law 512 = .ok (.if_icmp .eq 213, 3) := by decide +kernel
theorem dL_law_515 : decode cL_law 515 = .ok (.iconst 0, 1) := by decide +kernel
theorem dL_law_516 : decode cL_law 516 = .ok (.ireturn, 1) := by decide +kernel
theorem dL_law_517 : decode cL_law 517 = .ok (.aload_n 1, 1) := by decide +kernel
theorem dL_law_518 : decode cL_law 518 = .ok (.aload_n 0, 1) := by decide +kernel
theorem dL_law_519 : decode cL_law 519 = .ok (.iload_n 3, 1) := by decide +kernel
theorem dL_law_520 : decode cL_law 520 = .ok (.iconst 1, 1) := by decide +kernel
theorem dL_law_521 : decode cL_law 521 = .ok (.iadd, 1) := by decide +kernel
theorem dL_law_522 : decode cL_law 522 = .ok (.iaload, 1) := by decide +kernel
theorem dL_law_523 : decode cL_law 523 = .ok (.aload_n 0, 1) := by decide +kernel
theorem dL_law_524 : decode cL_law 524 = .ok (.iload_n 3, 1) := by decide +kernel
theorem dL_law_525 : decode cL_law 525 = .ok (.iconst 2, 1) := by decide +kernel
theorem dL_law_526 : decode cL_law 526 = .ok (.iadd, 1) := by decide +kernel
theorem dL_law_527 : decode cL_law 527 = .ok (.iaload, 1) := by decide +kernel
theorem dL_law_528 : decode cL_law 528 = .ok (.aload_n 0, 1) := by decide +kernel
theorem dL_law_529 : decode cL_law 529 = .ok (.iload_n 3, 1) := by decide +kernel
theorem dL_law_530 : decode cL_law 530 = .ok (.iconst 3, 1) := by decide +kernel
theorem dL_law_531 : decode cL_law 531 = .ok (.iadd, 1) := by decide +kernel
theorem dL_law_532 : decode cL_law 532 = .ok (.iaload, 1) := by decide +kernel
theorem dL_law_533 : decode cL_law 533 = .ok (.invokevirtual 77, 3) := by decide +kernel
theorem dL_law_536 : decode cL_law 536 = .ok (.aload_n 2, 1) := by decide +kernel
theorem dL_law_537 : decode cL_law 537 = .ok (.aload_n 0, 1) := by decide +kernel
theorem dL_law_538 : decode cL_law 538 = .ok (.iload_n 3, 1) := by decide +kernel
theorem dL_law_539 : decode cL_law 539 = .ok (.iconst 1, 1) := by decide +kernel
theorem dL_law_540 : decode cL_law 540 = .ok (.iadd, 1) := by decide +kernel
theorem dL_law_541 : decode cL_law 541 = .ok (.iaload, 1) := by decide +kernel
theorem dL_law_542 : decode cL_law 542 = .ok (.aload_n 0, 1) := by decide +kernel
theorem dL_law_543 : decode cL_law 543 = .ok (.iload_n 3, 1) := by decide +kernel
theorem dL_law_544 : decode cL_law 544 = .ok (.iconst 2, 1) := by decide +kernel
theorem dL_law_545 : decode cL_law 545 = .ok (.iadd, 1) := by decide +kernel
theorem dL_law_546 : decode cL_law 546 = .ok (.iaload, 1) := by decide +kernel
theorem dL_law_547 : decode cL_law 547 = .ok (.aload_n 0, 1) := by decide +kernel
theorem dL_law_548 : decode cL_law 548 = .ok (.iload_n 3, 1) := by decide +kernel
theorem dL_law_549 : decode cL_law 549 = .ok (.iconst 3, 1) := by decide +kernel
theorem dL_law_550 : decode cL_law 550 = .ok (.iadd, 1) := by decide +kernel
theorem dL_law_551 : decode cL_law 551 = .ok (.iaload, 1) := by decide +kernel
theorem dL_law_552 : decode cL_law 552 = .ok (.invokevirtual 80, 3) := by decide +kernel
theorem dL_law_555 : decode cL_law 555 = .ok (.if_icmp .eq 170, 3) := by decide +kernel
theorem dL_law_558 : decode cL_law 558 = .ok (.iconst 0, 1) := by decide +kernel
theorem dL_law_559 : decode cL_law 559 = .ok (.ireturn, 1) := by decide +kernel
theorem dL_law_560 : decode cL_law 560 = .ok (.aload_n 1, 1) := by decide +kernel
theorem dL_law_561 : decode cL_law 561 = .ok (.aload_n 0, 1) := by decide +kernel
theorem dL_law_562 : decode cL_law 562 = .ok (.iload_n 3, 1) := by decide +kernel
theorem dL_law_563 : decode cL_law 563 = .ok (.iconst 1, 1) := by decide +kernel
theorem dL_law_564 : decode cL_law 564 = .ok (.iadd, 1) := by decide +kernel
theorem dL_law_565 : decode cL_law 565 = .ok (.iaload, 1) := by decide +kernel
theorem dL_law_566 : decode cL_law 566 = .ok (.aload_n 0, 1) := by decide +kernel
theorem dL_law_567 : decode cL_law 567 = .ok (.iload_n 3, 1) := by decide +kernel
theorem dL_law_568 : decode cL_law 568 = .ok (.iconst 2, 1) := by decide +kernel
theorem dL_law_569 : decode cL_law 569 = .ok (.iadd, 1) := by decide +kernel
theorem dL_law_570 : decode cL_law 570 = .ok (.iaload, 1) := by decide +kernel
theorem dL_law_571 : decode cL_law 571 = .ok (.aload_n 0, 1) := by decide +kernel
theorem dL_law_572 : decode cL_law 572 = .ok (.iload_n 3, 1) := by decide +kernel
theorem dL_law_573 : decode cL_law 573 = .ok (.iconst 3, 1) := by decide +kernel
theorem dL_law_574 : decode cL_law 574 = .ok (.iadd, 1) := by decide +kernel
theorem dL_law_575 : decode cL_law 575 = .ok (.iaload, 1) := by decide +kernel
theorem dL_law_576 : decode cL_law 576 = .ok (.invokevirtual 81, 3) := by decide +kernel
theorem dL_law_579 : decode cL_law 579 = .ok (.aload_n 2, 1) := by decide +kernel
theorem dL_law_580 : decode cL_law 580 = .ok (.aload_n 0, 1) := by decide +kernel
theorem dL_law_581 : decode cL_law 581 = .ok (.iload_n 3, 1) := by decide +kernel
theorem dL_law_582 : decode cL_law 582 = .ok (.iconst 1, 1) := by decide +kernel
theorem dL_law_583 : decode cL_law 583 = .ok (.iadd, 1) := by decide +kernel
theorem dL_law_584 : decode cL_law 584 = .ok (.iaload, 1) := by decide +kernel
theorem dL_law_585 : decode cL_law 585 = .ok (.aload_n 0, 1) := by decide +kernel
theorem dL_law_586 : decode cL_law 586 = .ok (.iload_n 3, 1) := by decide +kernel
theorem dL_law_587 : decode cL_law 587 = .ok (.iconst 2, 1) := by decide +kernel
theorem dL_law_588 : decode cL_law 588 = .ok (.iadd, 1) := by decide +kernel
theorem dL_law_589 : decode cL_law 589 = .ok (.iaload, 1) := by decide +kernel
theorem dL_law_590 : decode cL_law 590 = .ok (.aload_n 0, 1) := by decide +kernel
theorem dL_law_591 : decode cL_law 591 = .ok (.iload_n 3, 1) := by decide +kernel
theorem dL_law_592 : decode cL_law 592 = .ok (.iconst 3, 1) := by decide +kernel
theorem dL_law_593 : decode cL_law 593 = .ok (.iadd, 1) := by decide +kernel
theorem dL_law_594 : decode cL_law 594 = .ok (.iaload, 1) := by decide +kernel
theorem dL_law_595 : decode cL_law 595 = .ok (.invokevirtual 84, 3) := by decide +kernel
theorem dL_law_598 : decode cL_law 598 = .ok (.if_icmp .eq 127, 3) := by decide +kernel
theorem dL_law_601 : decode cL_law 601 = .ok (.iconst 0, 1) := by decide +kernel
theorem dL_law_602 : decode cL_law 602 = .ok (.ireturn, 1) := by decide +kernel
theorem dL_law_603 : decode cL_law 603 = .ok (.aload_n 1, 1) := by decide +kernel
theorem dL_law_604 : decode cL_law 604 = .ok (.aload_n 0, 1) := by decide +kernel
theorem dL_law_605 : decode cL_law 605 = .ok (.iload_n 3, 1) := by decide +kernel
theorem dL_law_606 : decode cL_law 606 = .ok (.iconst 1, 1) := by decide +kernel
theorem dL_law_607 : decode cL_law 607 = .ok (.iadd, 1) := by decide +kernel
theorem dL_law_608 : decode cL_law 608 = .ok (.iaload, 1) := by decide +kernel
theorem dL_law_609 : decode cL_law 609 = .ok (.aload_n 0, 1) := by decide +kernel
theorem dL_law_610 : decode cL_law 610 = .ok (.iload_n 3, 1) := by decide +kernel
theorem dL_law_611 : decode cL_law 611 = .ok (.iconst 2, 1) := by decide +kernel
theorem dL_law_612 : decode cL_law 612 = .ok (.iadd, 1) := by decide +kernel
theorem dL_law_613 : decode cL_law 613 = .ok (.iaload, 1) := by decide +kernel
theorem dL_law_614 : decode cL_law 614 = .ok (.invokevirtual 85, 3) := by decide +kernel
theorem dL_law_617 : decode cL_law 617 = .ok (.aload_n 2, 1) := by decide +kernel
theorem dL_law_618 : decode cL_law 618 = .ok (.aload_n 0, 1) := by decide +kernel
theorem dL_law_619 : decode cL_law 619 = .ok (.iload_n 3, 1) := by decide +kernel
theorem dL_law_620 : decode cL_law 620 = .ok (.iconst 1, 1) := by decide +kernel
theorem dL_law_621 : decode cL_law 621 = .ok (.iadd, 1) := by decide +kernel
theorem dL_law_622 : decode cL_law 622 = .ok (.iaload, 1) := by decide +kernel
theorem dL_law_623 : decode cL_law 623 = .ok (.aload_n 0, 1) := by decide +kernel
theorem dL_law_624 : decode cL_law 624 = .ok (.iload_n 3, 1) := by decide +kernel
theorem dL_law_625 : decode cL_law 625 = .ok (.iconst 2, 1) := by decide +kernel
theorem dL_law_626 : decode cL_law 626 = .ok (.iadd, 1) := by decide +kernel
theorem dL_law_627 : decode cL_law 627 = .ok (.iaload, 1) := by decide +kernel
theorem dL_law_628 : decode cL_law 628 = .ok (.invokevirtual 88, 3) := by decide +kernel
theorem dL_law_631 : decode cL_law 631 = .ok (.if_icmp .eq 94, 3) := by decide +kernel
theorem dL_law_634 : decode cL_law 634 = .ok (.iconst 0, 1) := by decide +kernel
theorem dL_law_635 : decode cL_law 635 = .ok (.ireturn, 1) := by decide +kernel
theorem dL_law_636 : decode cL_law 636 = .ok (.aload_n 1, 1) := by decide +kernel
theorem dL_law_637 : decode cL_law 637 = .ok (.aload_n 0, 1) := by decide +kernel
theorem dL_law_638 : decode cL_law 638 = .ok (.iload_n 3, 1) := by decide +kernel
theorem dL_law_639 : decode cL_law 639 = .ok (.iconst 1, 1) := by decide +kernel
theorem dL_law_640 : decode cL_law 640 = .ok (.iadd, 1) := by decide +kernel
theorem dL_law_641 : decode cL_law 641 = .ok (.iaload, 1) := by decide +kernel
theorem dL_law_642 : decode cL_law 642 = .ok (.invokevirtual 89, 3) := by decide +kernel
theorem dL_law_645 : decode cL_law 645 = .ok (.aload_n 2, 1) := by decide +kernel
theorem dL_law_646 : decode cL_law 646 = .ok (.aload_n 0, 1) := by decide +kernel
theorem dL_law_647 : decode cL_law 647 = .ok (.iload_n 3, 1) := by decide +kernel
theorem dL_law_648 : decode cL_law 648 = .ok (.iconst 1, 1) := by decide +kernel
theorem dL_law_649 : decode cL_law 649 = .ok (.iadd, 1) := by decide +kernel
theorem dL_law_650 : decode cL_law 650 = .ok (.iaload, 1) := by decide +kernel
theorem dL_law_651 : decode cL_law 651 = .ok (.invokevirtual 92, 3) := by decide +kernel
theorem dL_law_654 : decode cL_law 654 = .ok (.if_icmp .eq 71, 3) := by decide +kernel
theorem dL_law_657 : decode cL_law 657 = .ok (.iconst 0, 1) := by decide +kernel
theorem dL_law_658 : decode cL_law 658 = .ok (.ireturn, 1) := by decide +kernel
theorem dL_law_659 : decode cL_law 659 = .ok (.aload_n 1, 1) := by decide +kernel
theorem dL_law_660 : decode cL_law 660 = .ok (.aload_n 0, 1) := by decide +kernel
theorem dL_law_661 : decode cL_law 661 = .ok (.iload_n 3, 1) := by decide +kernel
theorem dL_law_662 : decode cL_law 662 = .ok (.iconst 1, 1) := by decide +kernel
theorem dL_law_663 : decode cL_law 663 = .ok (.iadd, 1) := by decide +kernel
theorem dL_law_664 : decode cL_law 664 = .ok (.iaload, 1) := by decide +kernel
theorem dL_law_665 : decode cL_law 665 = .ok (.aload_n 0, 1) := by decide +kernel
theorem dL_law_666 : decode cL_law 666 = .ok (.iload_n 3, 1) := by decide +kernel
theorem dL_law_667 : decode cL_law 667 = .ok (.iconst 2, 1) := by decide +kernel
theorem dL_law_668 : decode cL_law 668 = .ok (.iadd, 1) := by decide +kernel
theorem dL_law_669 : decode cL_law 669 = .ok (.iaload, 1) := by decide +kernel
theorem dL_law_670 : decode cL_law 670 = .ok (.aload_n 0, 1) := by decide +kernel
theorem dL_law_671 : decode cL_law 671 = .ok (.iload_n 3, 1) := by decide +kernel
theorem dL_law_672 : decode cL_law 672 = .ok (.iconst 3, 1) := by decide +kernel
theorem dL_law_673 : decode cL_law 673 = .ok (.iadd, 1) := by decide +kernel
theorem dL_law_674 : decode cL_law 674 = .ok (.iaload, 1) := by decide +kernel
theorem dL_law_675 : decode cL_law 675 = .ok (.invokevirtual 93, 3) := by decide +kernel
theorem dL_law_678 : decode cL_law 678 = .ok (.aload_n 2, 1) := by decide +kernel
theorem dL_law_679 : decode cL_law 679 = .ok (.aload_n 0, 1) := by decide +kernel
theorem dL_law_680 : decode cL_law 680 = .ok (.iload_n 3, 1) := by decide +kernel
theorem dL_law_681 : decode cL_law 681 = .ok (.iconst 1, 1) := by decide +kernel
theorem dL_law_682 : decode cL_law 682 = .ok (.iadd, 1) := by decide +kernel
theorem dL_law_683 : decode cL_law 683 = .ok (.iaload, 1) := by decide +kernel
theorem dL_law_684 : decode cL_law 684 = .ok (.aload_n 0, 1) := by decide +kernel
theorem dL_law_685 : decode cL_law 685 = .ok (.iload_n 3, 1) := by decide +kernel
theorem dL_law_686 : decode cL_law 686 = .ok (.iconst 2, 1) := by decide +kernel
theorem dL_law_687 : decode cL_law 687 = .ok (.iadd, 1) := by decide +kernel
theorem dL_law_688 : decode cL_law 688 = .ok (.iaload, 1) := by decide +kernel
theorem dL_law_689 : decode cL_law 689 = .ok (.aload_n 0, 1) := by decide +kernel
theorem dL_law_690 : decode cL_law 690 = .ok (.iload_n 3, 1) := by decide +kernel
theorem dL_law_691 : decode cL_law 691 = .ok (.iconst 3, 1) := by decide +kernel
theorem dL_law_692 : decode cL_law 692 = .ok (.iadd, 1) := by decide +kernel
theorem dL_law_693 : decode cL_law 693 = .ok (.iaload, 1) := by decide +kernel
theorem dL_law_694 : decode cL_law 694 = .ok (.invokevirtual 96, 3) := by decide +kernel
theorem dL_law_697 : decode cL_law 697 = .ok (.if_icmp .eq 28, 3) := by decide +kernel
theorem dL_law_700 : decode cL_law 700 = .ok (.iconst 0, 1) := by decide +kernel
theorem dL_law_701 : decode cL_law 701 = .ok (.ireturn, 1) := by decide +kernel
theorem dL_law_702 : decode cL_law 702 = .ok (.aload_n 1, 1) := by decide +kernel
theorem dL_law_703 : decode cL_law 703 = .ok (.aload_n 0, 1) := by decide +kernel
theorem dL_law_704 : decode cL_law 704 = .ok (.iload_n 3, 1) := by decide +kernel
theorem dL_law_705 : decode cL_law 705 = .ok (.iconst 1, 1) := by decide +kernel
theorem dL_law_706 : decode cL_law 706 = .ok (.iadd, 1) := by decide +kernel
theorem dL_law_707 : decode cL_law 707 = .ok (.iaload, 1) := by decide +kernel
theorem dL_law_708 : decode cL_law 708 = .ok (.invokevirtual 97, 3) := by decide +kernel
theorem dL_law_711 : decode cL_law 711 = .ok (.aload_n 2, 1) := by decide +kernel
theorem dL_law_712 : decode cL_law 712 = .ok (.aload_n 0, 1) := by decide +kernel
theorem dL_law_713 : decode cL_law 713 = .ok (.iload_n 3, 1) := by decide +kernel
theorem dL_law_714 : decode cL_law 714 = .ok (.iconst 1, 1) := by decide +kernel
theorem dL_law_715 : decode cL_law 715 = .ok (.iadd, 1) := by decide +kernel
theorem dL_law_716 : decode cL_law 716 = .ok (.iaload, 1) := by decide +kernel
theorem dL_law_717 : decode cL_law 717 = .ok (.invokevirtual 100, 3) := by decide +kernel
theorem dL_law_720 : decode cL_law 720 = .ok (.if_icmp .eq 5, 3) := by decide +kernel
theorem dL_law_723 : decode cL_law 723 = .ok (.iconst 0, 1) := by decide +kernel
theorem dL_law_724 : decode cL_law 724 = .ok (.ireturn, 1) := by decide +kernel
theorem dL_law_725 : decode cL_law 725 = .ok (.iinc 3 4, 3) := by decide +kernel
theorem dL_law_728 : decode cL_law 728 = .ok (.goto (-710), 3) := by decide +kernel
theorem dL_law_731 : decode cL_law 731 = .ok (.iconst 1, 1) := by decide +kernel
theorem dL_law_732 : decode cL_law 732 = .ok (.ireturn, 1) := by decide +kernel
