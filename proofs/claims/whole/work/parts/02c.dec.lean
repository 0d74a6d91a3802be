theorem dX10_wideAt_117 : decode cX10_wideAt 117 = .ok (.ireturn, 1) := by decide +kernel
theorem dX10_wideAt_118 : decode cX10_wideAt 118 = .ok (.aload_n 0, 1) := by decide +kernel
theorem dX10_wideAt_119 : decode cX10_wideAt 119 = .ok (.iload_n 1, 1) := by decide +kernel
theorem dX10_wideAt_120 : decode cX10_wideAt 120 = .ok (.iconst 1, 1) := by decide +kernel
theorem dX10_wideAt_121 : decode cX10_wideAt 121 = .ok (.iadd, 1) := by decide +kernel
theorem dX10_wideAt_122 : decode cX10_wideAt 122 = .ok (.bipush 7, 2) := by decide +kernel
theorem dX10_wideAt_124 : decode cX10_wideAt 124 = .ok (.invokevirtual 63, 3) := by decide +kernel
theorem dX10_wideAt_127 : decode cX10_wideAt 127 = .ok (.ifCond .eq 7, 3) := by decide +kernel
theorem dX10_wideAt_130 : decode cX10_wideAt 130 = .ok (.iconst 2, 1) := by decide +kernel
theorem dX10_wideAt_131 : decode cX10_wideAt 131 = .ok (.goto 4, 3) := by decide +kernel
theorem dX10_wideAt_134 : decode cX10_wideAt 134 = .ok (.iconst (-1), 1) := by decide +kernel
theorem dX10_wideAt_135 : decode cX10_wideAt 135 = .ok (.ireturn, 1) := by decide +kernel
theorem dX10_wideAt_136 : decode cX10_wideAt 136 = .ok (.aload_n 0, 1) := by decide +kernel
theorem dX10_wideAt_137 : decode cX10_wideAt 137 = .ok (.iload_n 1, 1) := by decide +kernel
theorem dX10_wideAt_138 : decode cX10_wideAt 138 = .ok (.iconst 1, 1) := by decide +kernel
theorem dX10_wideAt_139 : decode cX10_wideAt 139 = .ok (.iadd, 1) := by decide +kernel
theorem dX10_wideAt_140 : decode cX10_wideAt 140 = .ok (.bipush 9, 2) := by decide +kernel
theorem dX10_wideAt_142 : decode cX10_wideAt 142 = .ok (.invokevirtual 63, 3) := by decide +kernel
theorem dX10_wideAt_145 : decode cX10_wideAt 145 = .ok (.ifCond .eq 19, 3) := by decide +kernel
theorem dX10_wideAt_148 : decode cX10_wideAt 148 = .ok (.aload_n 0, 1) := by decide +kernel
theorem dX10_wideAt_149 : decode cX10_wideAt 149 = .ok (.iload_n 1, 1) := by decide +kernel
theorem dX10_wideAt_150 : decode cX10_wideAt 150 = .ok (.iconst 2, 1) := by decide +kernel
theorem dX10_wideAt_151 : decode cX10_wideAt 151 = .ok (.iadd, 1) := by decide +kernel
theorem dX10_wideAt_152 : decode cX10_wideAt 152 = .ok (.bipush 9, 2) := by decide +kernel
theorem dX10_wideAt_154 : decode cX10_wideAt 154 = .ok (.invokevirtual 63, 3) := by decide +kernel
theorem dX10_wideAt_157 : decode cX10_wideAt 157 = .ok (.ifCond .eq 7, 3) := by decide +kernel
theorem dX10_wideAt_160 : decode cX10_wideAt 160 = .ok (.iconst 3, 1) := by decide +kernel
theorem dX10_wideAt_161 : decode cX10_wideAt 161 = .ok (.goto 4, 3) := by decide +kernel
theorem dX10_wideAt_164 : decode cX10_wideAt 164 = .ok (.iconst (-1), 1) := by decide +kernel
theorem dX10_wideAt_165 : decode cX10_wideAt 165 = .ok (.ireturn, 1) := by decide +kernel
theorem dX10_wideAt_166 : decode cX10_wideAt 166 = .ok (.iconst (-1), 1) := by decide +kernel
theorem dX10_wideAt_167 : decode cX10_wideAt 167 = .ok (.ireturn, 1) := by decide +kernel
theorem dX10_reads_0 : decode cX10_reads 0 = .ok (.iconst 0, 1) := by decide +kernel
theorem dX10_reads_1 : decode cX10_reads 1 = .ok (.istore_n 1, 1) := by decide +kernel
theorem dX10_reads_2 : decode cX10_reads 2 = .ok (.iload_n 1, 1) := by decide +kernel
theorem dX10_reads_3 : decode cX10_reads 3 = .ok (.sipush 200, 3) := by decide +kernel
theorem dX10_reads_6 : decode cX10_reads 6 = .ok (.if_icmp .ge 16, 3) := by decide +kernel
theorem dX10_reads_9 : decode cX10_reads 9 = .ok (.aload_n 0, 1) := by decide +kernel
theorem dX10_reads_10 : decode cX10_reads 10 = .ok (.getfield 29, 3) := by decide +kernel
theorem dX10_reads_13 : decode cX10_reads 13 = .ok (.iload_n 1, 1) := by decide +kernel
theorem dX10_reads_14 : decode cX10_reads 14 = .ok (.iconst 0, 1) := by decide +kernel
theorem dX10_reads_15 : decode cX10_reads 15 = .ok (.bastore, 1) := by decide +kernel
theorem dX10_reads_16 : decode cX10_reads 16 = .ok (.iinc 1 1, 3) := by decide +kernel
theorem dX10_reads_19 : decode cX10_reads 19 = .ok (.goto (-17), 3) := by decide +kernel
theorem dX10_reads_22 : decode cX10_reads 22 = .ok (.iconst 0, 1) := by decide +kernel
theorem dX10_reads_23 : decode cX10_reads 23 = .ok (.istore_n 1, 1) := by decide +kernel
theorem dX10_reads_24 : decode cX10_reads 24 = .ok (.iload_n 1, 1) := by decide +kernel
theorem dX10_reads_25 : decode cX10_reads 25 = .ok (.aload_n 0, 1) := by decide +kernel
theorem dX10_reads_26 : decode cX10_reads 26 = .ok (.getfield 56, 3) := by decide +kernel
theorem dX10_reads_29 : decode cX10_reads 29 = .ok (.if_icmp .ge 37, 3) := by decide +kernel
theorem dX10_reads_32 : decode cX10_reads 32 = .ok (.aload_n 0, 1) := by decide +kernel
theorem dX10_reads_33 : decode cX10_reads 33 = .ok (.iload_n 1, 1) := by decide +kernel
theorem dX10_reads_34 : decode cX10_reads 34 = .ok (.invokevirtual 67, 3) := by decide +kernel
theorem dX10_reads_37 : decode cX10_reads 37 = .ok (.istore_n 2, 1) := by decide +kernel
theorem dX10_reads_38 : decode cX10_reads 38 = .ok (.iload_n 2, 1) := by decide +kernel
theorem dX10_reads_39 : decode cX10_reads 39 = .ok (.ifCond .lt 11, 3) := by decide +kernel
theorem dX10_reads_42 : decode cX10_reads 42 = .ok (.iload_n 1, 1) := by decide +kernel
theorem dX10_reads_43 : decode cX10_reads 43 = .ok (.iload_n 2, 1) := by decide +kernel
theorem dX10_reads_44 : decode cX10_reads 44 = .ok (.iadd, 1) := by decide +kernel
theorem dX10_reads_45 : decode cX10_reads 45 = .ok (.bipush 60, 2) := by decide +kernel
theorem dX10_reads_47 : decode cX10_reads 47 = .ok (.if_icmp .le 5, 3) := by decide +kernel
theorem dX10_reads_50 : decode cX10_reads 50 = .ok (.iload_n 1, 1) := by decide +kernel
theorem dX10_reads_51 : decode cX10_reads 51 = .ok (.ireturn, 1) := by decide +kernel
theorem dX10_reads_52 : decode cX10_reads 52 = .ok (.aload_n 0, 1) := by decide +kernel
theorem dX10_reads_53 : decode cX10_reads 53 = .ok (.getfield 29, 3) := by decide +kernel
theorem dX10_reads_56 : decode cX10_reads 56 = .ok (.iload_n 1, 1) := by decide +kernel
theorem dX10_reads_57 : decode cX10_reads 57 = .ok (.iconst 1, 1) := by decide +kernel
theorem dX10_reads_58 : decode cX10_reads 58 = .ok (.bastore, 1) := by decide +kernel
theorem dX10_reads_59 : decode cX10_reads 59 = .ok (.iload_n 1, 1) := by decide +kernel
theorem dX10_reads_60 : decode cX10_reads 60 = .ok (.iload_n 2, 1) := by decide +kernel
theorem dX10_reads_61 : decode cX10_reads 61 = .ok (.iadd, 1) := by decide +kernel
theorem dX10_reads_62 : decode cX10_reads 62 = .ok (.istore_n 1, 1) := by decide +kernel
theorem dX10_reads_63 : decode cX10_reads 63 = .ok (.goto (-39), 3) := by decide +kernel
theorem dX10_reads_66 : decode cX10_reads 66 = .ok (.iconst 0, 1) := by decide +kernel
theorem dX10_reads_67 : decode cX10_reads 67 = .ok (.istore_n 2, 1) := by decide +kernel
theorem dX10_reads_68 : decode cX10_reads 68 = .ok (.iload_n 2, 1) := by decide +kernel
theorem dX10_reads_69 : decode cX10_reads 69 = .ok (.aload_n 0, 1) := by decide +kernel
theorem dX10_reads_70 : decode cX10_reads 70 = .ok (.getfield 56, 3) := by decide +kernel
theorem dX10_reads_73 : decode cX10_reads 73 = .ok (.if_icmp .ge 65, 3) := by decide +kernel
theorem dX10_reads_76 : decode cX10_reads 76 = .ok (.aload_n 0, 1) := by decide +kernel
theorem dX10_reads_77 : decode cX10_reads 77 = .ok (.getfield 29, 3) := by decide +kernel
theorem dX10_reads_80 : decode cX10_reads 80 = .ok (.iload_n 2, 1) := by decide +kernel
theorem dX10_reads_81 : decode cX10_reads 81 = .ok (.baload, 1) := by decide +kernel
theorem dX10_reads_82 : decode cX10_reads 82 = .ok (.ifCond .eq 50, 3) := by decide +kernel
theorem dX10_reads_85 : decode cX10_reads 85 = .ok (.aload_n 0, 1) := by decide +kernel
theorem dX10_reads_86 : decode cX10_reads 86 = .ok (.iload_n 2, 1) := by decide +kernel
theorem dX10_reads_87 : decode cX10_reads 87 = .ok (.invokevirtual 67, 3) := by decide +kernel
theorem dX10_reads_90 : decode cX10_reads 90 = .ok (.iconst 3, 1) := by decide +kernel
theorem dX10_reads_91 : decode cX10_reads 91 = .ok (.if_icmp .ne 41, 3) := by decide +kernel
theorem dX10_reads_94 : decode cX10_reads 94 = .ok (.bipush 10, 2) := by decide +kernel
theorem dX10_reads_96 : decode cX10_reads 96 = .ok (.aload_n 0, 1) := by decide +kernel
theorem dX10_reads_97 : decode cX10_reads 97 = .ok (.getfield 7, 3) := by decide +kernel
theorem dX10_reads_100 : decode cX10_reads 100 = .ok (.iload_n 2, 1) := by decide +kernel
theorem dX10_reads_101 : decode cX10_reads 101 = .ok (.iconst 1, 1) := by decide +kernel
theorem dX10_reads_102 : decode cX10_reads 102 = .ok (.iadd, 1) := by decide +kernel
theorem dX10_reads_103 : decode cX10_reads 103 = .ok (.iaload, 1) := by decide +kernel
theorem dX10_reads_104 : decode cX10_reads 104 = .ok (.bipush 48, 2) := by decide +kernel
theorem dX10_reads_106 : decode cX10_reads 106 = .ok (.isub, 1) := by decide +kernel
theorem dX10_reads_107 : decode cX10_reads 107 = .ok (.imul, 1) := by decide +kernel
theorem dX10_reads_108 : decode cX10_reads 108 = .ok (.aload_n 0, 1) := by decide +kernel
theorem dX10_reads_109 : decode cX10_reads 109 = .ok (.getfield 7, 3) := by decide +kernel
theorem dX10_reads_112 : decode cX10_reads 112 = .ok (.iload_n 2, 1) := by decide +kernel
theorem dX10_reads_113 : decode cX10_reads 113 = .ok (.iconst 2, 1) := by decide +kernel
theorem dX10_reads_114 : decode cX10_reads 114 = .ok (.iadd, 1) := by decide +kernel
theorem dX10_reads_115 : decode cX10_reads 115 = .ok (.iaload, 1) := by decide +kernel
theorem dX10_reads_116 : decode cX10_reads 116 = .ok (.iadd, 1) := by decide +kernel
theorem dX10_reads_117 : decode cX10_reads 117 = .ok (.bipush 48, 2) := by decide +kernel
theorem dX10_reads_119 : decode cX10_reads 119 = .ok (.isub, 1) := by decide +kernel
theorem dX10_reads_120 : decode cX10_reads 120 = .ok (.istore_n 3, 1) := by decide +kernel
theorem dX10_reads_121 : decode cX10_reads 121 = .ok (.aload_n 0, 1) := by decide +kernel
theorem dX10_reads_122 : decode cX10_reads 122 = .ok (.getfield 29, 3) := by decide +kernel
theorem dX10_reads_125 : decode cX10_reads 125 = .ok (.iload_n 3, 1) := by decide +kernel
theorem dX10_reads_126 : decode cX10_reads 126 = .ok (.baload, 1) := by decide +kernel
theorem dX10_reads_127 : decode cX10_reads 127 = .ok (.ifCond .ne 5, 3) := by decide +kernel
theorem dX10_reads_130 : decode cX10_reads 130 = .ok (.iload_n 2, 1) := by decide +kernel
theorem dX10_reads_131 : decode cX10_reads 131 = .ok (.ireturn, 1) := by decide +kernel
theorem dX10_reads_132 : decode cX10_reads 132 = .ok (.iinc 2 1, 3) := by decide +kernel
theorem dX10_reads_135 : decode cX10_reads 135 = .ok (.goto (-67), 3) := by decide +kernel
theorem dX10_reads_138 : decode cX10_reads 138 = .ok (.bipush (-4), 2) := by decide +kernel
theorem dX10_reads_140 : decode cX10_reads 140 = .ok (.ireturn, 1) := by decide +kernel
theorem dX10_write_0 : decode cX10_write 0 = .ok (.iload_n 1, 1) := by decide +kernel
theorem dX10_write_1 : decode cX10_write 1 = .ok (.bipush 32, 2) := by decide +kernel
theorem dX10_write_3 : decode cX10_write 3 = .ok (.if_icmp .lt 9, 3) := by decide +kernel
theorem dX10_write_6 : decode cX10_write 6 = .ok (.iload_n 1, 1) := by decide +kernel
theorem dX10_write_7 : decode cX10_write 7 = .ok (.bipush 126, 2) := by decide +kernel
theorem dX10_write_9 : decode cX10_write 9 = .ok (.if_icmp .le 5, 3) := by decide +kernel
theorem dX10_write_12 : decode cX10_write 12 = .ok (.iconst (-1), 1) := by decide +kernel
theorem dX10_write_13 : decode cX10_write 13 = .ok (.ireturn, 1) := by decide +kernel
theorem dX10_write_14 : decode cX10_write 14 = .ok (.aload_n 0, 1) := by decide +kernel
theorem dX10_write_15 : decode cX10_write 15 = .ok (.getfield 56, 3) := by decide +kernel
theorem dX10_write_18 : decode cX10_write 18 = .ok (.sipush 200, 3) := by decide +kernel
theorem dX10_write_21 : decode cX10_write 21 = .ok (.if_icmp .ne 6, 3) := by decide +kernel
theorem dX10_write_24 : decode cX10_write 24 = .ok (.bipush (-3), 2) := by decide +kernel
theorem dX10_write_26 : decode cX10_write 26 = .ok (.ireturn, 1) := by decide +kernel
theorem dX10_write_27 : decode cX10_write 27 = .ok (.aload_n 0, 1) := by decide +kernel
theorem dX10_write_28 : decode cX10_write 28 = .ok (.getfield 7, 3) := by decide +kernel
theorem dX10_write_31 : decode cX10_write 31 = .ok (.aload_n 0, 1) := by decide +kernel
theorem dX10_write_32 : decode cX10_write 32 = .ok (.getfield 56, 3) := by decide +kernel
theorem dX10_write_35 : decode cX10_write 35 = .ok (.iload_n 1, 1) := by decide +kernel
theorem dX10_write_36 : decode cX10_write 36 = .ok (.iastore, 1) := by decide +kernel
theorem dX10_write_37 : decode cX10_write 37 = .ok (.aload_n 0, 1) := by decide +kernel
theorem dX10_write_38 : decode cX10_write 38 = .ok (.dup, 1) := by decide +kernel
theorem dX10_write_39 : decode cX10_write 39 = .ok (.getfield 56, 3) := by decide +kernel
theorem dX10_write_42 : decode cX10_write 42 = .ok (.iconst 1, 1) := by decide +kernel
theorem dX10_write_43 : decode cX10_write 43 = .ok (.iadd, 1) := by decide +kernel
theorem dX10_write_44 : decode cX10_write 44 = .ok (.putfield 56, 3) := by decide +kernel
theorem dX10_write_47 : decode cX10_write 47 = .ok (.aload_n 0, 1) := by decide +kernel
theorem dX10_write_48 : decode cX10_write 48 = .ok (.getfield 56, 3) := by decide +kernel
theorem dX10_write_51 : decode cX10_write 51 = .ok (.ireturn, 1) := by decide +kernel
theorem dX10_wipe_0 : decode cX10_wipe 0 = .ok (.aload_n 0, 1) := by decide +kernel
theorem dX10_wipe_1 : decode cX10_wipe 1 = .ok (.getfield 56, 3) := by decide +kernel
theorem dX10_wipe_4 : decode cX10_wipe 4 = .ok (.istore_n 1, 1) := by decide +kernel
theorem dX10_wipe_5 : decode cX10_wipe 5 = .ok (.aload_n 0, 1) := by decide +kernel
theorem dX10_wipe_6 : decode cX10_wipe 6 = .ok (.iconst 0, 1) := by decide +kernel
theorem dX10_wipe_7 : decode cX10_wipe 7 = .ok (.putfield 56, 3) := by decide +kernel
theorem dX10_wipe_10 : decode cX10_wipe 10 = .ok (.iload_n 1, 1) := by decide +kernel
theorem dX10_wipe_11 : decode cX10_wipe 11 = .ok (.ireturn, 1) := by decide +kernel
theorem dX10_fault_0 : decode cX10_fault 0 = .ok (.aload_n 0, 1) := by decide +kernel
theorem dX10_fault_1 : decode cX10_fault 1 = .ok (.invokevirtual 71, 3) := by decide +kernel
theorem dX10_fault_4 : decode cX10_fault 4 = .ok (.ireturn, 1) := by decide +kernel
theorem dX10_lay_0 : decode cX10_lay 0 = .ok (.aload_n 0, 1) := by decide +kernel
theorem dX10_lay_1 : decode cX10_lay 1 = .ok (.getfield 56, 3) := by decide +kernel
theorem dX10_lay_4 : decode cX10_lay 4 = .ok (.ifCond .eq 12, 3) := by decide +kernel
theorem dX10_lay_7 : decode cX10_lay 7 = .ok (.aload_n 0, 1) := by decide +kernel
theorem dX10_lay_8 : decode cX10_lay 8 = .ok (.invokevirtual 71, 3) := by decide +kernel
theorem dX10_lay_11 : decode cX10_lay 11 = .ok (.bipush (-4), 2) := by decide +kernel
theorem dX10_lay_13 : decode cX10_lay 13 = .ok (.if_icmp .eq 6, 3) := by decide +kernel
theorem dX10_lay_16 : decode cX10_lay 16 = .ok (.bipush (-2), 2) := by decide +kernel
theorem dX10_lay_18 : decode cX10_lay 18 = .ok (.ireturn, 1) := by decide +kernel
theorem dX10_lay_19 : decode cX10_lay 19 = .ok (.aload_n 0, 1) := by decide +kernel
theorem dX10_lay_20 : decode cX10_lay 20 = .ok (.aload_n 0, 1) := by decide +kernel
theorem dX10_lay_21 : decode cX10_lay 21 = .ok (.getfield 56, 3) := by decide +kernel
theorem dX10_lay_24 : decode cX10_lay 24 = .ok (.putfield 49, 3) := by decide +kernel
theorem dX10_lay_27 : decode cX10_lay 27 = .ok (.iconst 0, 1) := by decide +kernel
theorem dX10_lay_28 : decode cX10_lay 28 = .ok (.istore_n 1, 1) := by decide +kernel
theorem dX10_lay_29 : decode cX10_lay 29 = .ok (.iload_n 1, 1) := by decide +kernel
theorem dX10_lay_30 : decode cX10_lay 30 = .ok (.bipush 60, 2) := by decide +kernel
theorem dX10_lay_32 : decode cX10_lay 32 = .ok (.if_icmp .ge 61, 3) := by decide +kernel
theorem dX10_lay_35 : decode cX10_lay 35 = .ok (.aload_n 0, 1) := by decide +kernel
theorem dX10_lay_36 : decode cX10_lay 36 = .ok (.getfield 13, 3) := by decide +kernel
theorem dX10_lay_39 : decode cX10_lay 39 = .ok (.iload_n 1, 1) := by decide +kernel
theorem dX10_lay_40 : decode cX10_lay 40 = .ok (.iload_n 1, 1) := by decide +kernel
theorem dX10_lay_41 : decode cX10_lay 41 = .ok (.aload_n 0, 1) := by decide +kernel
theorem dX10_lay_42 : decode cX10_lay 42 = .ok (.getfield 56, 3) := by decide +kernel
theorem dX10_lay_45 : decode cX10_lay 45 = .ok (.if_icmp .ge 12, 3) := by decide +kernel
theorem dX10_lay_48 : decode cX10_lay 48 = .ok (.aload_n 0, 1) := by decide +kernel
theorem dX10_lay_49 : decode cX10_lay 49 = .ok (.getfield 7, 3) := by decide +kernel
theorem dX10_lay_52 : decode cX10_lay 52 = .ok (.iload_n 1, 1) := by decide +kernel
theorem dX10_lay_53 : decode cX10_lay 53 = .ok (.iaload, 1) := by decide +kernel
theorem dX10_lay_54 : decode cX10_lay 54 = .ok (.goto 4, 3) := by decide +kernel
theorem dX10_lay_57 : decode cX10_lay 57 = .ok (.iconst 0, 1) := by decide +kernel
theorem dX10_lay_58 : decode cX10_lay 58 = .ok (.iastore, 1) := by decide +kernel
theorem dX10_lay_59 : decode cX10_lay 59 = .ok (.aload_n 0, 1) := by decide +kernel
theorem dX10_lay_60 : decode cX10_lay 60 = .ok (.getfield 16, 3) := by decide +kernel
theorem dX10_lay_63 : decode cX10_lay 63 = .ok (.iload_n 1, 1) := by decide +kernel
theorem dX10_lay_64 : decode cX10_lay 64 = .ok (.iload_n 1, 1) := by decide +kernel
theorem dX10_lay_65 : decode cX10_lay 65 = .ok (.aload_n 0, 1) := by decide +kernel
theorem dX10_lay_66 : decode cX10_lay 66 = .ok (.getfield 56, 3) := by decide +kernel
theorem dX10_lay_69 : decode cX10_lay 69 = .ok (.if_icmp .ge 16, 3) := by decide +kernel
theorem dX10_lay_72 : decode cX10_lay 72 = .ok (.aload_n 0, 1) := by decide +kernel
theorem dX10_lay_73 : decode cX10_lay 73 = .ok (.getfield 29, 3) := by decide +kernel
theorem dX10_lay_76 : decode cX10_lay 76 = .ok (.iload_n 1, 1) := by decide +kernel
theorem dX10_lay_77 : decode cX10_lay 77 = .ok (.baload, 1) := by decide +kernel
theorem dX10_lay_78 : decode cX10_lay 78 = .ok (.ifCond .eq 7, 3) := by decide +kernel
theorem dX10_lay_81 : decode cX10_lay 81 = .ok (.iconst 1, 1) := by decide +kernel
theorem dX10_lay_82 : decode cX10_lay 82 = .ok (.goto 4, 3) := by decide +kernel
theorem dX10_lay_85 : decode cX10_lay 85 = .ok (.iconst 0, 1) := by decide +kernel
theorem dX10_lay_86 : decode cX10_lay 86 = .ok (.bastore, 1) := by decide +kernel
theorem dX10_lay_87 : decode cX10_lay 87 = .ok (.iinc 1 1, 3) := by decide +kernel
theorem dX10_lay_90 : decode cX10_lay 90 = .ok (.goto (-61), 3) := by decide +kernel
theorem dX10_lay_93 : decode cX10_lay 93 = .ok (.aload_n 0, 1) := by decide +kernel
theorem dX10_lay_94 : decode cX10_lay 94 = .ok (.invokevirtual 46, 3) := by decide +kernel
theorem dX10_lay_97 : decode cX10_lay 97 = .ok (.aload_n 0, 1) := by decide +kernel
theorem dX10_lay_98 : decode cX10_lay 98 = .ok (.getfield 49, 3) := by decide +kernel
theorem dX10_lay_101 : decode cX10_lay 101 = .ok (.ireturn, 1) := by decide +kernel
theorem dX10_both_0 : decode cX10_both 0 = .ok (.iload_n 0, 1) := by decide +kernel
theorem dX10_both_1 : decode cX10_both 1 = .ok (.lookupswitch 145 #[(38, 117), (42, 87), (43, 67), (45, 75), (60, 95), (61, 106), (124, 131)], 67) := by decide +kernel
theorem dX10_both_68 : decode cX10_both 68 = .ok (.iload_n 1, 1) := by decide +kernel
theorem dX10_both_69 : decode cX10_both 69 = .ok (.iload_n 2, 1) := by decide +kernel
theorem dX10_both_70 : decode cX10_both 70 = .ok (.iadd, 1) := by decide +kernel
theorem dX10_both_71 : decode cX10_both 71 = .ok (.sipush 1000, 3) := by decide +kernel
theorem dX10_both_74 : decode cX10_both 74 = .ok (.irem, 1) := by decide +kernel
theorem dX10_both_75 : decode cX10_both 75 = .ok (.ireturn, 1) := by decide +kernel
theorem dX10_both_76 : decode cX10_both 76 = .ok (.iload_n 1, 1) := by decide +kernel
theorem dX10_both_77 : decode cX10_both 77 = .ok (.sipush 1000, 3) := by decide +kernel
theorem dX10_both_80 : decode cX10_both 80 = .ok (.iadd, 1) := by decide +kernel
theorem dX10_both_81 : decode cX10_both 81 = .ok (.iload_n 2, 1) := by decide +kernel
theorem dX10_both_82 : decode cX10_both 82 = .ok (.isub, 1) := by decide +kernel
theorem dX10_both_83 : decode cX10_both 83 = .ok (.sipush 1000, 3) := by decide +kernel
theorem dX10_both_86 : decode cX10_both 86 = .ok (.irem, 1) := by decide +kernel
theorem dX10_both_87 : decode cX10_both 87 = .ok (.ireturn, 1) := by decide +kernel
theorem dX10_both_88 : decode cX10_both 88 = .ok (.iload_n 1, 1) := by decide +kernel
theorem dX10_both_89 : decode cX10_both 89 = .ok (.iload_n 2, 1) := by decide +kernel
theorem dX10_both_90 : decode cX10_both 90 = .ok (.imul, 1) := by decide +kernel
theorem dX10_both_91 : decode cX10_both 91 = .ok (.sipush 1000, 3) := by decide +kernel
theorem dX10_both_94 : decode cX10_both 94 = .ok (.irem, 1) := by decide +kernel
theorem dX10_both_95 : decode cX10_both 95 = .ok (.ireturn, 1) := by decide +kernel
theorem dX10_both_96 : decode cX10_both 96 = .ok (.iload_n 1, 1) := by decide +kernel
theorem dX10_both_97 : decode cX10_both 97 = .ok (.iload_n 2, 1) := by decide +kernel
theorem dX10_both_98 : decode cX10_both 98 = .ok (.if_icmp .ge 7, 3) := by decide +kernel
theorem dX10_both_101 : decode cX10_both 101 = .ok (.iconst 1, 1) := by decide +kernel
theorem dX10_both_102 : decode cX10_both 102 = .ok (.goto 4, 3) := by decide +kernel
theorem dX10_both_105 : decode cX10_both 105 = .ok (.iconst 0, 1) := by decide +kernel
theorem dX10_both_106 : decode cX10_both 106 = .ok (.ireturn, 1) := by decide +kernel
theorem dX10_both_107 : decode cX10_both 107 = .ok (.iload_n 1, 1) := by decide +kernel
theorem dX10_both_108 : decode cX10_both 108 = .ok (.iload_n 2, 1) := by decide +kernel
theorem dX10_both_109 : decode cX10_both 109 = .ok (.if_icmp .ne 7, 3) := by decide +kernel
theorem dX10_both_112 : decode cX10_both 112 = .ok (.iconst 1, 1) := by decide +kernel
theorem dX10_both_113 : decode cX10_both 113 = .ok (.goto 4, 3) := by decide +kernel
theorem dX10_both_116 : decode cX10_both 116 = .ok (.iconst 0, 1) := by decide +kernel
theorem dX10_both_117 : decode cX10_both 117 = .ok (.ireturn, 1) := by decide +kernel
theorem dX10_both_118 : decode cX10_both 118 = .ok (.iload_n 1, 1) := by decide +kernel
theorem dX10_both_119 : decode cX10_both 119 = .ok (.ifCond .eq 11, 3) := by decide +kernel
theorem dX10_both_122 : decode cX10_both 122 = .ok (.iload_n 2, 1) := by decide +kernel
theorem dX10_both_123 : decode cX10_both 123 = .ok (.ifCond .eq 7, 3) := by decide +kernel
theorem dX10_both_126 : decode cX10_both 126 = .ok (.iconst 1, 1) := by decide +kernel
theorem dX10_both_127 : decode cX10_both 127 = .ok (.goto 4, 3) := by decide +kernel
theorem dX10_both_130 : decode cX10_both 130 = .ok (.iconst 0, 1) := by decide +kernel
theorem dX10_both_131 : decode cX10_both 131 = .ok (.ireturn, 1) := by decide +kernel
theorem dX10_both_132 : decode cX10_both 132 = .ok (.iload_n 1, 1) := by decide +kernel
theorem dX10_both_133 : decode cX10_both 133 = .ok (.ifCond .ne 7, 3) := by decide +kernel
theorem dX10_both_136 : decode cX10_both 136 = .ok (.iload_n 2, 1) := by decide +kernel
theorem dX10_both_137 : decode cX10_both 137 = .ok (.ifCond .eq 7, 3) := by decide +kernel
theorem dX10_both_140 : decode cX10_both 140 = .ok (.iconst 1, 1) := by decide +kernel
theorem dX10_both_141 : decode cX10_both 141 = .ok (.goto 4, 3) := by decide +kernel
theorem dX10_both_144 : decode cX10_both 144 = .ok (.iconst 0, 1) := by decide +kernel
theorem dX10_both_145 : decode cX10_both 145 = .ok (.ireturn, 1) := by decide +kernel
theorem dX10_both_146 : decode cX10_both 146 = .ok (.bipush (-4), 2) := by decide +kernel
theorem dX10_both_148 : decode cX10_both 148 = .ok (.ireturn, 1) := by decide +kernel
theorem dX10_comes_0 : decode cX10_comes 0 = .ok (.aload_n 0, 1) := by decide +kernel
theorem dX10_comes_1 : decode cX10_comes 1 = .ok (.getfield 75, 3) := by decide +kernel
theorem dX10_comes_4 : decode cX10_comes 4 = .ok (.iconst 4, 1) := by decide +kernel
theorem dX10_comes_5 : decode cX10_comes 5 = .ok (.if_icmp .ne 5, 3) := by decide +kernel
theorem dX10_comes_8 : decode cX10_comes 8 = .ok (.iconst 0, 1) := by decide +kernel
theorem dX10_comes_9 : decode cX10_comes 9 = .ok (.ireturn, 1) := by decide +kernel
theorem dX10_comes_10 : decode cX10_comes 10 = .ok (.aload_n 0, 1) := by decide +kernel
theorem dX10_comes_11 : decode cX10_comes 11 = .ok (.getfield 32, 3) := by decide +kernel
theorem dX10_comes_14 : decode cX10_comes 14 = .ok (.aload_n 0, 1) := by decide +kernel
theorem dX10_comes_15 : decode cX10_comes 15 = .ok (.getfield 75, 3) := by decide +kernel
theorem dX10_comes_18 : decode cX10_comes 18 = .ok (.iload_n 1, 1) := by decide +kernel
theorem dX10_comes_19 : decode cX10_comes 19 = .ok (.iastore, 1) := by decide +kernel
theorem dX10_comes_20 : decode cX10_comes 20 = .ok (.aload_n 0, 1) := by decide +kernel
theorem dX10_comes_21 : decode cX10_comes 21 = .ok (.dup, 1) := by decide +kernel
theorem dX10_comes_22 : decode cX10_comes 22 = .ok (.getfield 75, 3) := by decide +kernel
theorem dX10_comes_25 : decode cX10_comes 25 = .ok (.iconst 1, 1) := by decide +kernel
theorem dX10_comes_26 : decode cX10_comes 26 = .ok (.iadd, 1) := by decide +kernel
theorem dX10_comes_27 : decode cX10_comes 27 = .ok (.putfield 75, 3) := by decide +kernel
theorem dX10_comes_30 : decode cX10_comes 30 = .ok (.iconst 1, 1) := by decide +kernel
theorem dX10_comes_31 : decode cX10_comes 31 = .ok (.ireturn, 1) := by decide +kernel
theorem dX10_takes_0 : decode cX10_takes 0 = .ok (.iload_n 1, 1) := by decide +kernel
theorem dX10_takes_1 : decode cX10_takes 1 = .ok (.bipush 33, 2) := by decide +kernel
theorem dX10_takes_3 : decode cX10_takes 3 = .ok (.if_icmp .ne 53, 3) := by decide +kernel
theorem dX10_takes_6 : decode cX10_takes 6 = .ok (.aload_n 0, 1) := by decide +kernel
theorem dX10_takes_7 : decode cX10_takes 7 = .ok (.getfield 75, 3) := by decide +kernel
theorem dX10_takes_10 : decode cX10_takes 10 = .ok (.ifCond .le 33, 3) := by decide +kernel
theorem dX10_takes_13 : decode cX10_takes 13 = .ok (.aload_n 0, 1) := by decide +kernel
theorem dX10_takes_14 : decode cX10_takes 14 = .ok (.getfield 32, 3) := by decide +kernel
theorem dX10_takes_17 : decode cX10_takes 17 = .ok (.aload_n 0, 1) := by decide +kernel
theorem dX10_takes_18 : decode cX10_takes 18 = .ok (.getfield 75, 3) := by decide +kernel
theorem dX10_takes_21 : decode cX10_takes 21 = .ok (.iconst 1, 1) := by decide +kernel
theorem dX10_takes_22 : decode cX10_takes 22 = .ok (.isub, 1) := by decide +kernel
theorem dX10_takes_23 : decode cX10_takes 23 = .ok (.aload_n 0, 1) := by decide +kernel
theorem dX10_takes_24 : decode cX10_takes 24 = .ok (.getfield 32, 3) := by decide +kernel
theorem dX10_takes_27 : decode cX10_takes 27 = .ok (.aload_n 0, 1) := by decide +kernel
theorem dX10_takes_28 : decode cX10_takes 28 = .ok (.getfield 75, 3) := by decide +kernel
theorem dX10_takes_31 : decode cX10_takes 31 = .ok (.iconst 1, 1) := by decide +kernel
theorem dX10_takes_32 : decode cX10_takes 32 = .ok (.isub, 1) := by decide +kernel
theorem dX10_takes_33 : decode cX10_takes 33 = .ok (.iaload, 1) := by decide +kernel
theorem dX10_takes_34 : decode cX10_takes 34 = .ok (.ifCond .ne 7, 3) := by decide +kernel
theorem dX10_takes_37 : decode cX10_takes 37 = .ok (.iconst 1, 1) := by decide +kernel
theorem dX10_takes_38 : decode cX10_takes 38 = .ok (.goto 4, 3) := by decide +kernel
theorem dX10_takes_41 : decode cX10_takes 41 = .ok (.iconst 0, 1) := by decide +kernel
theorem dX10_takes_42 : decode cX10_takes 42 = .ok (.iastore, 1) := by decide +kernel
theorem dX10_takes_43 : decode cX10_takes 43 = .ok (.aload_n 0, 1) := by decide +kernel
theorem dX10_takes_44 : decode cX10_takes 44 = .ok (.getfield 75, 3) := by decide +kernel
theorem dX10_takes_47 : decode cX10_takes 47 = .ok (.ifCond .le 7, 3) := by decide +kernel
theorem dX10_takes_50 : decode cX10_takes 50 = .ok (.iconst 1, 1) := by decide +kernel
theorem dX10_takes_51 : decode cX10_takes 51 = .ok (.goto 4, 3) := by decide +kernel
theorem dX10_takes_54 : decode cX10_takes 54 = .ok (.iconst 0, 1) := by decide +kernel
theorem dX10_takes_55 : decode cX10_takes 55 = .ok (.ireturn, 1) := by decide +kernel
theorem dX10_takes_56 : decode cX10_takes 56 = .ok (.aload_n 0, 1) := by decide +kernel
theorem dX10_takes_57 : decode cX10_takes 57 = .ok (.getfield 75, 3) := by decide +kernel
theorem dX10_takes_60 : decode cX10_takes 60 = .ok (.iconst 2, 1) := by decide +kernel
theorem dX10_takes_61 : decode cX10_takes 61 = .ok (.if_icmp .lt 14, 3) := by decide +kernel
theorem dX10_takes_64 : decode cX10_takes 64 = .ok (.iload_n 1, 1) := by decide +kernel
theorem dX10_takes_65 : decode cX10_takes 65 = .ok (.iconst 0, 1) := by decide +kernel
theorem dX10_takes_66 : decode cX10_takes 66 = .ok (.iconst 0, 1) := by decide +kernel
theorem dX10_takes_67 : decode cX10_takes 67 = .ok (.invokestatic 78, 3) := by decide +kernel
theorem dX10_takes_70 : decode cX10_takes 70 = .ok (.bipush (-4), 2) := by decide +kernel
theorem dX10_takes_72 : decode cX10_takes 72 = .ok (.if_icmp .ne 5, 3) := by decide +kernel
theorem dX10_takes_75 : decode cX10_takes 75 = .ok (.iconst 0, 1) := by decide +kernel
theorem dX10_takes_76 : decode cX10_takes 76 = .ok (.ireturn, 1) := by decide +kernel
theorem dX10_takes_77 : decode cX10_takes 77 = .ok (.aload_n 0, 1) := by decide +kernel
theorem dX10_takes_78 : decode cX10_takes 78 = .ok (.dup, 1) := by decide +kernel
theorem dX10_takes_79 : decode cX10_takes 79 = .ok (.getfield 75, 3) := by decide +kernel
theorem dX10_takes_82 : decode cX10_takes 82 = .ok (.iconst 1, 1) := by decide +kernel
theorem dX10_takes_83 : decode cX10_takes 83 = .ok (.isub, 1) := by decide +kernel
theorem dX10_takes_84 : decode cX10_takes 84 = .ok (.putfield 75, 3) := by decide +kernel
theorem dX10_takes_87 : decode cX10_takes 87 = .ok (.aload_n 0, 1) := by decide +kernel
theorem dX10_takes_88 : decode cX10_takes 88 = .ok (.getfield 32, 3) := by decide +kernel
theorem dX10_takes_91 : decode cX10_takes 91 = .ok (.aload_n 0, 1) := by decide +kernel
theorem dX10_takes_92 : decode cX10_takes 92 = .ok (.getfield 75, 3) := by decide +kernel
theorem dX10_takes_95 : decode cX10_takes 95 = .ok (.iconst 1, 1) := by decide +kernel
theorem dX10_takes_96 : decode cX10_takes 96 = .ok (.isub, 1) := by decide +kernel
theorem dX10_takes_97 : decode cX10_takes 97 = .ok (.iload_n 1, 1) := by decide +kernel
theorem dX10_takes_98 : decode cX10_takes 98 = .ok (.aload_n 0, 1) := by decide +kernel
theorem dX10_takes_99 : decode cX10_takes 99 = .ok (.getfield 32, 3) := by decide +kernel
theorem dX10_takes_102 : decode cX10_takes 102 = .ok (.aload_n 0, 1) := by decide +kernel
theorem dX10_takes_103 : decode cX10_takes 103 = .ok (.getfield 75, 3) := by decide +kernel
theorem dX10_takes_106 : decode cX10_takes 106 = .ok (.iconst 1, 1) := by decide +kernel
theorem dX10_takes_107 : decode cX10_takes 107 = .ok (.isub, 1) := by decide +kernel
theorem dX10_takes_108 : decode cX10_takes 108 = .ok (.iaload, 1) := by decide +kernel
theorem dX10_takes_109 : decode cX10_takes 109 = .ok (.aload_n 0, 1) := by decide +kernel
theorem dX10_takes_110 : decode cX10_takes 110 = .ok (.getfield 32, 3) := by decide +kernel
theorem dX10_takes_113 : decode cX10_takes 113 = .ok (.aload_n 0, 1) := by decide +kernel
theorem dX10_takes_114 : decode cX10_takes 114 = .ok (.getfield 75, 3) := by decide +kernel
theorem dX10_takes_117 : decode cX10_takes 117 = .ok (.iaload, 1) := by decide +kernel
theorem dX10_takes_118 : decode cX10_takes 118 = .ok (.invokestatic 78, 3) := by decide +kernel
theorem dX10_takes_121 : decode cX10_takes 121 = .ok (.iastore, 1) := by decide +kernel
theorem dX10_takes_122 : decode cX10_takes 122 = .ok (.iconst 1, 1) := by decide +kernel
theorem dX10_takes_123 : decode cX10_takes 123 = .ok (.ireturn, 1) := by decide +kernel
theorem dX10_asks_0 : decode cX10_asks 0 = .ok (.aload_n 0, 1) := by decide +kernel
theorem dX10_asks_1 : decode cX10_asks 1 = .ok (.iconst 0, 1) := by decide +kernel
theorem dX10_asks_2 : decode cX10_asks 2 = .ok (.putfield 75, 3) := by decide +kernel
theorem dX10_asks_5 : decode cX10_asks 5 = .ok (.iconst 0, 1) := by decide +kernel
theorem dX10_asks_6 : decode cX10_asks 6 = .ok (.istore 5, 2) := by decide +kernel
theorem dX10_asks_8 : decode cX10_asks 8 = .ok (.iload 5, 2) := by decide +kernel
theorem dX10_asks_10 : decode cX10_asks 10 = .ok (.iload_n 3, 1) := by decide +kernel
theorem dX10_asks_11 : decode cX10_asks 11 = .ok (.if_icmp .ge 137, 3) := by decide +kernel
theorem dX10_asks_14 : decode cX10_asks 14 = .ok (.aload_n 1, 1) := by decide +kernel
theorem dX10_asks_15 : decode cX10_asks 15 = .ok (.iload_n 2, 1) := by decide +kernel
theorem dX10_asks_16 : decode cX10_asks 16 = .ok (.iload 5, 2) := by decide +kernel
theorem dX10_asks_18 : decode cX10_asks 18 = .ok (.iadd, 1) := by decide +kernel
theorem dX10_asks_19 : decode cX10_asks 19 = .ok (.iaload, 1) := by decide +kernel
theorem dX10_asks_20 : decode cX10_asks 20 = .ok (.istore 6, 2) := by decide +kernel
theorem dX10_asks_22 : decode cX10_asks 22 = .ok (.iload 6, 2) := by decide +kernel
theorem dX10_asks_24 : decode cX10_asks 24 = .ok (.bipush 109, 2) := by decide +kernel
theorem dX10_asks_26 : decode cX10_asks 26 = .ok (.if_icmp .ne 59, 3) := by decide +kernel
theorem dX10_asks_29 : decode cX10_asks 29 = .ok (.iinc 5 1, 3) := by decide +kernel
theorem dX10_asks_32 : decode cX10_asks 32 = .ok (.iload 5, 2) := by decide +kernel
theorem dX10_asks_34 : decode cX10_asks 34 = .ok (.iload_n 3, 1) := by decide +kernel
theorem dX10_asks_35 : decode cX10_asks 35 = .ok (.if_icmp .ge 44, 3) := by decide +kernel
theorem dX10_asks_38 : decode cX10_asks 38 = .ok (.aload_n 1, 1) := by decide +kernel
theorem dX10_asks_39 : decode cX10_asks 39 = .ok (.iload_n 2, 1) := by decide +kernel
theorem dX10_asks_40 : decode cX10_asks 40 = .ok (.iload 5, 2) := by decide +kernel
theorem dX10_asks_42 : decode cX10_asks 42 = .ok (.iadd, 1) := by decide +kernel
theorem dX10_asks_43 : decode cX10_asks 43 = .ok (.iaload, 1) := by decide +kernel
theorem dX10_asks_44 : decode cX10_asks 44 = .ok (.bipush 48, 2) := by decide +kernel
theorem dX10_asks_46 : decode cX10_asks 46 = .ok (.bipush 55, 2) := by decide +kernel
theorem dX10_asks_48 : decode cX10_asks 48 = .ok (.invokestatic 59, 3) := by decide +kernel
theorem dX10_asks_51 : decode cX10_asks 51 = .ok (.ifCond .eq 28, 3) := by decide +kernel
theorem dX10_asks_54 : decode cX10_asks 54 = .ok (.aload_n 0, 1) := by decide +kernel
theorem dX10_asks_55 : decode cX10_asks 55 = .ok (.aload_n 0, 1) := by decide +kernel
theorem dX10_asks_56 : decode cX10_asks 56 = .ok (.getfield 20, 3) := by decide +kernel
theorem dX10_asks_59 : decode cX10_asks 59 = .ok (.aload_n 1, 1) := by decide +kernel
theorem dX10_asks_60 : decode cX10_asks 60 = .ok (.iload_n 2, 1) := by decide +kernel
theorem dX10_asks_61 : decode cX10_asks 61 = .ok (.iload 5, 2) := by decide +kernel
theorem dX10_asks_63 : decode cX10_asks 63 = .ok (.iadd, 1) := by decide +kernel
theorem dX10_asks_64 : decode cX10_asks 64 = .ok (.iaload, 1) := by decide +kernel
theorem dX10_asks_65 : decode cX10_asks 65 = .ok (.bipush 48, 2) := by decide +kernel
theorem dX10_asks_67 : decode cX10_asks 67 = .ok (.isub, 1) := by decide +kernel
theorem dX10_asks_68 : decode cX10_asks 68 = .ok (.iaload, 1) := by decide +kernel
theorem dX10_asks_69 : decode cX10_asks 69 = .ok (.invokevirtual 82, 3) := by decide +kernel
theorem dX10_asks_72 : decode cX10_asks 72 = .ok (.ifCond .eq 7, 3) := by decide +kernel
theorem dX10_asks_75 : decode cX10_asks 75 = .ok (.iconst 1, 1) := by decide +kernel
theorem dX10_asks_76 : decode cX10_asks 76 = .ok (.goto 4, 3) := by decide +kernel
theorem dX10_asks_79 : decode cX10_asks 79 = .ok (.iconst 0, 1) := by decide +kernel
theorem dX10_asks_80 : decode cX10_asks 80 = .ok (.istore 7, 2) := by decide +kernel
theorem dX10_asks_82 : decode cX10_asks 82 = .ok (.goto 53, 3) := by decide +kernel
theorem dX10_asks_85 : decode cX10_asks 85 = .ok (.iload 6, 2) := by decide +kernel
theorem dX10_asks_87 : decode cX10_asks 87 = .ok (.bipush 97, 2) := by decide +kernel
theorem dX10_asks_89 : decode cX10_asks 89 = .ok (.if_icmp .ne 14, 3) := by decide +kernel
theorem dX10_asks_92 : decode cX10_asks 92 = .ok (.aload_n 0, 1) := by decide +kernel
theorem dX10_asks_93 : decode cX10_asks 93 = .ok (.iload 4, 2) := by decide +kernel
theorem dX10_asks_95 : decode cX10_asks 95 = .ok (.invokevirtual 82, 3) := by decide +kernel
theorem dX10_asks_98 : decode cX10_asks 98 = .ok (.istore 7, 2) := by decide +kernel
theorem dX10_asks_100 : decode cX10_asks 100 = .ok (.goto 35, 3) := by decide +kernel
theorem dX10_asks_103 : decode cX10_asks 103 = .ok (.iload 6, 2) := by decide +kernel
theorem dX10_asks_105 : decode cX10_asks 105 = .ok (.bipush 48, 2) := by decide +kernel
theorem dX10_asks_107 : decode cX10_asks 107 = .ok (.bipush 57, 2) := by decide +kernel
theorem dX10_asks_109 : decode cX10_asks 109 = .ok (.invokestatic 59, 3) := by decide +kernel
theorem dX10_asks_112 : decode cX10_asks 112 = .ok (.ifCond .eq 15, 3) := by decide +kernel
theorem dX10_asks_115 : decode cX10_asks 115 = .ok (.aload_n 0, 1) := by decide +kernel
theorem dX10_asks_116 : decode cX10_asks 116 = .ok (.iload 6, 2) := by decide +kernel
theorem dX10_asks_118 : decode cX10_asks 118 = .ok (.bipush 48, 2) := by decide +kernel
theorem dX10_asks_120 : decode cX10_asks 120 = .ok (.isub, 1) := by decide +kernel
theorem dX10_asks_121 : decode cX10_asks 121 = .ok (.invokevirtual 82, 3) := by decide +kernel
theorem dX10_asks_124 : decode cX10_asks 124 = .ok (.goto 9, 3) := by decide +kernel
theorem dX10_asks_127 : decode cX10_asks 127 = .ok (.aload_n 0, 1) := by decide +kernel
theorem dX10_asks_128 : decode cX10_asks 128 = .ok (.iload 6, 2) := by decide +kernel
theorem dX10_asks_130 : decode cX10_asks 130 = .ok (.invokevirtual 86, 3) := by decide +kernel
theorem dX10_asks_133 : decode cX10_asks 133 = .ok (.istore 7, 2) := by decide +kernel
theorem dX10_asks_135 : decode cX10_asks 135 = .ok (.iload 7, 2) := by decide +kernel
theorem dX10_asks_137 : decode cX10_asks 137 = .ok (.ifCond .ne 5, 3) := by decide +kernel
theorem dX10_asks_140 : decode cX10_asks 140 = .ok (.iconst (-1), 1) := by decide +kernel
theorem dX10_asks_141 : decode cX10_asks 141 = .ok (.ireturn, 1) := by decide +kernel
theorem dX10_asks_142 : decode cX10_asks 142 = .ok (.iinc 5 1, 3) := by decide +kernel
theorem dX10_asks_145 : decode cX10_asks 145 = .ok (.goto (-137), 3) := by decide +kernel
theorem dX10_asks_148 : decode cX10_asks 148 = .ok (.aload_n 0, 1) := by decide +kernel
theorem dX10_asks_149 : decode cX10_asks 149 = .ok (.getfield 75, 3) := by decide +kernel
theorem dX10_asks_152 : decode cX10_asks 152 = .ok (.iconst 1, 1) := by decide +kernel
theorem dX10_asks_153 : decode cX10_asks 153 = .ok (.if_icmp .ne 12, 3) := by decide +kernel
theorem dX10_asks_156 : decode cX10_asks 156 = .ok (.aload_n 0, 1) := by decide +kernel
theorem dX10_asks_157 : decode cX10_asks 157 = .ok (.getfield 32, 3) := by decide +kernel
theorem dX10_asks_160 : decode cX10_asks 160 = .ok (.iconst 0, 1) := by decide +kernel
theorem dX10_asks_161 : decode cX10_asks 161 = .ok (.iaload, 1) := by decide +kernel
theorem dX10_asks_162 : decode cX10_asks 162 = .ok (.goto 4, 3) := by decide +kernel
theorem dX10_asks_165 : decode cX10_asks 165 = .ok (.iconst (-1), 1) := by decide +kernel
theorem dX10_asks_166 : decode cX10_asks 166 = .ok (.ireturn, 1) := by decide +kernel
theorem dX10_asked_0 : decode cX10_asked 0 = .ok (.iload_n 1, 1) := by decide +kernel
theorem dX10_asked_1 : decode cX10_asked 1 = .ok (.iconst 0, 1) := by decide +kernel
theorem dX10_asked_2 : decode cX10_asked 2 = .ok (.sipush 999, 3) := by decide +kernel
theorem dX10_asked_5 : decode cX10_asked 5 = .ok (.invokestatic 59, 3) := by decide +kernel
theorem dX10_asked_8 : decode cX10_asked 8 = .ok (.ifCond .ne 5, 3) := by decide +kernel
theorem dX10_asked_11 : decode cX10_asked 11 = .ok (.iconst (-1), 1) := by decide +kernel
theorem dX10_asked_12 : decode cX10_asked 12 = .ok (.ireturn, 1) := by decide +kernel
theorem dX10_asked_13 : decode cX10_asked 13 = .ok (.aload_n 0, 1) := by decide +kernel
theorem dX10_asked_14 : decode cX10_asked 14 = .ok (.aload_n 0, 1) := by decide +kernel
theorem dX10_asked_15 : decode cX10_asked 15 = .ok (.getfield 7, 3) := by decide +kernel
theorem dX10_asked_18 : decode cX10_asked 18 = .ok (.iconst 0, 1) := by decide +kernel
theorem dX10_asked_19 : decode cX10_asked 19 = .ok (.aload_n 0, 1) := by decide +kernel
theorem dX10_asked_20 : decode cX10_asked 20 = .ok (.getfield 56, 3) := by decide +kernel
theorem dX10_asked_23 : decode cX10_asked 23 = .ok (.iload_n 1, 1) := by decide +kernel
theorem dX10_asked_24 : decode cX10_asked 24 = .ok (.invokevirtual 89, 3) := by decide +kernel
theorem dX10_asked_27 : decode cX10_asked 27 = .ok (.istore_n 2, 1) := by decide +kernel
theorem dX10_asked_28 : decode cX10_asked 28 = .ok (.iload_n 2, 1) := by decide +kernel
theorem dX10_asked_29 : decode cX10_asked 29 = .ok (.ifCond .ge 8, 3) := by decide +kernel
theorem dX10_asked_32 : decode cX10_asked 32 = .ok (.bipush (-2), 2) := by decide +kernel
theorem dX10_asked_34 : decode cX10_asked 34 = .ok (.goto 4, 3) := by decide +kernel
theorem dX10_asked_37 : decode cX10_asked 37 = .ok (.iload_n 2, 1) := by decide +kernel
theorem dX10_asked_38 : decode cX10_asked 38 = .ok (.ireturn, 1) := by decide +kernel
theorem dX10_keeps_0 : decode cX10_keeps 0 = .ok (.aload_n 0, 1) := by decide +kernel
theorem dX10_keeps_1 : decode cX10_keeps 1 = .ok (.getfield 53, 3) := by decide +kernel
theorem dX10_keeps_4 : decode cX10_keeps 4 = .ok (.iconst 4, 1) := by decide +kernel
theorem dX10_keeps_5 : decode cX10_keeps 5 = .ok (.if_icmp .ne 44, 3) := by decide +kernel
theorem dX10_keeps_8 : decode cX10_keeps 8 = .ok (.iconst 0, 1) := by decide +kernel
theorem dX10_keeps_9 : decode cX10_keeps 9 = .ok (.istore_n 1, 1) := by decide +kernel
theorem dX10_keeps_10 : decode cX10_keeps 10 = .ok (.iload_n 1, 1) := by decide +kernel
theorem dX10_keeps_11 : decode cX10_keeps 11 = .ok (.sipush 3954, 3) := by decide +kernel
theorem dX10_keeps_14 : decode cX10_keeps 14 = .ok (.if_icmp .ge 25, 3) := by decide +kernel
theorem dX10_keeps_17 : decode cX10_keeps 17 = .ok (.aload_n 0, 1) := by decide +kernel
theorem dX10_keeps_18 : decode cX10_keeps 18 = .ok (.getfield 26, 3) := by decide +kernel
theorem dX10_keeps_21 : decode cX10_keeps 21 = .ok (.iload_n 1, 1) := by decide +kernel
theorem dX10_keeps_22 : decode cX10_keeps 22 = .ok (.aload_n 0, 1) := by decide +kernel
theorem dX10_keeps_23 : decode cX10_keeps 23 = .ok (.getfield 26, 3) := by decide +kernel
theorem dX10_keeps_26 : decode cX10_keeps 26 = .ok (.iload_n 1, 1) := by decide +kernel
theorem dX10_keeps_27 : decode cX10_keeps 27 = .ok (.sipush 1318, 3) := by decide +kernel
theorem dX10_keeps_30 : decode cX10_keeps 30 = .ok (.iadd, 1) := by decide +kernel
theorem dX10_keeps_31 : decode cX10_keeps 31 = .ok (.iaload, 1) := by decide +kernel
theorem dX10_keeps_32 : decode cX10_keeps 32 = .ok (.iastore, 1) := by decide +kernel
theorem dX10_keeps_33 : decode cX10_keeps 33 = .ok (.iinc 1 1, 3) := by decide +kernel
theorem dX10_keeps_36 : decode cX10_keeps 36 = .ok (.goto (-26), 3) := by decide +kernel
theorem dX10_keeps_39 : decode cX10_keeps 39 = .ok (.aload_n 0, 1) := by decide +kernel
theorem dX10_keeps_40 : decode cX10_keeps 40 = .ok (.dup, 1) := by decide +kernel
theorem dX10_keeps_41 : decode cX10_keeps 41 = .ok (.getfield 53, 3) := by decide +kernel
theorem dX10_keeps_44 : decode cX10_keeps 44 = .ok (.iconst 1, 1) := by decide +kernel
theorem dX10_keeps_45 : decode cX10_keeps 45 = .ok (.isub, 1) := by decide +kernel
theorem dX10_keeps_46 : decode cX10_keeps 46 = .ok (.putfield 53, 3) := by decide +kernel
theorem dX10_keeps_49 : decode cX10_keeps 49 = .ok (.iconst 0, 1) := by decide +kernel
theorem dX10_keeps_50 : decode cX10_keeps 50 = .ok (.istore_n 1, 1) := by decide +kernel
theorem dX10_keeps_51 : decode cX10_keeps 51 = .ok (.iload_n 1, 1) := by decide +kernel
theorem dX10_keeps_52 : decode cX10_keeps 52 = .ok (.sipush 1318, 3) := by decide +kernel
theorem dX10_keeps_55 : decode cX10_keeps 55 = .ok (.if_icmp .ge 30, 3) := by decide +kernel
theorem dX10_keeps_58 : decode cX10_keeps 58 = .ok (.aload_n 0, 1) := by decide +kernel
theorem dX10_keeps_59 : decode cX10_keeps 59 = .ok (.getfield 26, 3) := by decide +kernel
theorem dX10_keeps_62 : decode cX10_keeps 62 = .ok (.sipush 1318, 3) := by decide +kernel
theorem dX10_keeps_65 : decode cX10_keeps 65 = .ok (.aload_n 0, 1) := by decide +kernel
theorem dX10_keeps_66 : decode cX10_keeps 66 = .ok (.getfield 53, 3) := by decide +kernel
theorem dX10_keeps_69 : decode cX10_keeps 69 = .ok (.imul, 1) := by decide +kernel
theorem dX10_keeps_70 : decode cX10_keeps 70 = .ok (.iload_n 1, 1) := by decide +kernel
theorem dX10_keeps_71 : decode cX10_keeps 71 = .ok (.iadd, 1) := by decide +kernel
theorem dX10_keeps_72 : decode cX10_keeps 72 = .ok (.aload_n 0, 1) := by decide +kernel
theorem dX10_keeps_73 : decode cX10_keeps 73 = .ok (.getfield 20, 3) := by decide +kernel
theorem dX10_keeps_76 : decode cX10_keeps 76 = .ok (.iload_n 1, 1) := by decide +kernel
theorem dX10_keeps_77 : decode cX10_keeps 77 = .ok (.iaload, 1) := by decide +kernel
theorem dX10_keeps_78 : decode cX10_keeps 78 = .ok (.iastore, 1) := by decide +kernel
theorem dX10_keeps_79 : decode cX10_keeps 79 = .ok (.iinc 1 1, 3) := by decide +kernel
theorem dX10_keeps_82 : decode cX10_keeps 82 = .ok (.goto (-31), 3) := by decide +kernel
theorem dX10_keeps_85 : decode cX10_keeps 85 = .ok (.aload_n 0, 1) := by decide +kernel
theorem dX10_keeps_86 : decode cX10_keeps 86 = .ok (.dup, 1) := by decide +kernel
theorem dX10_keeps_87 : decode cX10_keeps 87 = .ok (.getfield 53, 3) := by decide +kernel
theorem dX10_keeps_90 : decode cX10_keeps 90 = .ok (.iconst 1, 1) := by decide +kernel
theorem dX10_keeps_91 : decode cX10_keeps 91 = .ok (.iadd, 1) := by decide +kernel
theorem dX10_keeps_92 : decode cX10_keeps 92 = .ok (.putfield 53, 3) := by decide +kernel
theorem dX10_keeps_95 : decode cX10_keeps 95 = .ok (.return_, 1) := by decide +kernel
theorem dX10_undo_0 : decode cX10_undo 0 = .ok (.aload_n 0, 1) := by decide +kernel
theorem dX10_undo_1 : decode cX10_undo 1 = .ok (.getfield 53, 3) := by decide +kernel
theorem dX10_undo_4 : decode cX10_undo 4 = .ok (.ifCond .ne 6, 3) := by decide +kernel
theorem dX10_undo_7 : decode cX10_undo 7 = .ok (.bipush (-2), 2) := by decide +kernel
theorem dX10_undo_9 : decode cX10_undo 9 = .ok (.ireturn, 1) := by decide +kernel
theorem dX10_undo_10 : decode cX10_undo 10 = .ok (.aload_n 0, 1) := by decide +kernel
theorem dX10_undo_11 : decode cX10_undo 11 = .ok (.dup, 1) := by decide +kernel
theorem dX10_undo_12 : decode cX10_undo 12 = .ok (.getfield 53, 3) := by decide +kernel
theorem dX10_undo_15 : decode cX10_undo 15 = .ok (.iconst 1, 1) := by decide +kernel
theorem dX10_undo_16 : decode cX10_undo 16 = .ok (.isub, 1) := by decide +kernel
theorem dX10_undo_17 : decode cX10_undo 17 = .ok (.putfield 53, 3) := by decide +kernel
theorem dX10_undo_20 : decode cX10_undo 20 = .ok (.iconst 0, 1) := by decide +kernel
theorem dX10_undo_21 : decode cX10_undo 21 = .ok (.istore_n 1, 1) := by decide +kernel
theorem dX10_undo_22 : decode cX10_undo 22 = .ok (.iload_n 1, 1) := by decide +kernel
theorem dX10_undo_23 : decode cX10_undo 23 = .ok (.sipush 1318, 3) := by decide +kernel
theorem dX10_undo_26 : decode cX10_undo 26 = .ok (.if_icmp .ge 30, 3) := by decide +kernel
theorem dX10_undo_29 : decode cX10_undo 29 = .ok (.aload_n 0, 1) := by decide +kernel
theorem dX10_undo_30 : decode cX10_undo 30 = .ok (.getfield 20, 3) := by decide +kernel
theorem dX10_undo_33 : decode cX10_undo 33 = .ok (.iload_n 1, 1) := by decide +kernel
theorem dX10_undo_34 : decode cX10_undo 34 = .ok (.aload_n 0, 1) := by decide +kernel
theorem dX10_undo_35 : decode cX10_undo 35 = .ok (.getfield 26, 3) := by decide +kernel
theorem dX10_undo_38 : decode cX10_undo 38 = .ok (.sipush 1318, 3) := by decide +kernel
theorem dX10_undo_41 : decode cX10_undo 41 = .ok (.aload_n 0, 1) := by decide +kernel
theorem dX10_undo_42 : decode cX10_undo 42 = .ok (.getfield 53, 3) := by decide +kernel
theorem dX10_undo_45 : decode cX10_undo 45 = .ok (.imul, 1) := by decide +kernel
theorem dX10_undo_46 : decode cX10_undo 46 = .ok (.iload_n 1, 1) := by decide +kernel
theorem dX10_undo_47 : decode cX10_undo 47 = .ok (.iadd, 1) := by decide +kernel
theorem dX10_undo_48 : decode cX10_undo 48 = .ok (.iaload, 1) := by decide +kernel
theorem dX10_undo_49 : decode cX10_undo 49 = .ok (.iastore, 1) := by decide +kernel
theorem dX10_undo_50 : decode cX10_undo 50 = .ok (.iinc 1 1, 3) := by decide +kernel
theorem dX10_undo_53 : decode cX10_undo 53 = .ok (.goto (-31), 3) := by decide +kernel
theorem dX10_undo_56 : decode cX10_undo 56 = .ok (.aload_n 0, 1) := by decide +kernel
theorem dX10_undo_57 : decode cX10_undo 57 = .ok (.getfield 53, 3) := by decide +kernel
theorem dX10_undo_60 : decode cX10_undo 60 = .ok (.ireturn, 1) := by decide +kernel
theorem dX10_processorAt_0 : decode cX10_processorAt 0 = .ok (.bipush 8, 2) := by decide +kernel
theorem dX10_processorAt_2 : decode cX10_processorAt 2 = .ok (.bipush 31, 2) := by decide +kernel
theorem dX10_processorAt_4 : decode cX10_processorAt 4 = .ok (.iload_n 0, 1) := by decide +kernel
theorem dX10_processorAt_5 : decode cX10_processorAt 5 = .ok (.imul, 1) := by decide +kernel
theorem dX10_processorAt_6 : decode cX10_processorAt 6 = .ok (.iadd, 1) := by decide +kernel
theorem dX10_processorAt_7 : decode cX10_processorAt 7 = .ok (.ireturn, 1) := by decide +kernel
theorem dX10_probeAt_0 : decode cX10_probeAt 0 = .ok (.bipush 70, 2) := by decide +kernel
theorem dX10_probeAt_2 : decode cX10_probeAt 2 = .ok (.sipush 208, 3) := by decide +kernel
theorem dX10_probeAt_5 : decode cX10_probeAt 5 = .ok (.iload_n 0, 1) := by decide +kernel
theorem dX10_probeAt_6 : decode cX10_probeAt 6 = .ok (.imul, 1) := by decide +kernel
theorem dX10_probeAt_7 : decode cX10_probeAt 7 = .ok (.iadd, 1) := by decide +kernel
theorem dX10_probeAt_8 : decode cX10_probeAt 8 = .ok (.ireturn, 1) := by decide +kernel
theorem dX10_isCell_0 : decode cX10_isCell 0 = .ok (.iload_n 1, 1) := by decide +kernel
theorem dX10_isCell_1 : decode cX10_isCell 1 = .ok (.iconst 0, 1) := by decide +kernel
theorem dX10_isCell_2 : decode cX10_isCell 2 = .ok (.aload_n 0, 1) := by decide +kernel
theorem dX10_isCell_3 : decode cX10_isCell 3 = .ok (.getfield 49, 3) := by decide +kernel
theorem dX10_isCell_6 : decode cX10_isCell 6 = .ok (.iconst 1, 1) := by decide +kernel
theorem dX10_isCell_7 : decode cX10_isCell 7 = .ok (.isub, 1) := by decide +kernel
theorem dX10_isCell_8 : decode cX10_isCell 8 = .ok (.invokestatic 59, 3) := by decide +kernel
theorem dX10_isCell_11 : decode cX10_isCell 11 = .ok (.ireturn, 1) := by decide +kernel
theorem dX10_isBegin_0 : decode cX10_isBegin 0 = .ok (.aload_n 0, 1) := by decide +kernel
theorem dX10_isBegin_1 : decode cX10_isBegin 1 = .ok (.iload_n 1, 1) := by decide +kernel
theorem dX10_isBegin_2 : decode cX10_isBegin 2 = .ok (.invokevirtual 93, 3) := by decide +kernel
theorem dX10_isBegin_5 : decode cX10_isBegin 5 = .ok (.ifCond .eq 16, 3) := by decide +kernel
theorem dX10_isBegin_8 : decode cX10_isBegin 8 = .ok (.aload_n 0, 1) := by decide +kernel
theorem dX10_isBegin_9 : decode cX10_isBegin 9 = .ok (.getfield 16, 3) := by decide +kernel
theorem dX10_isBegin_12 : decode cX10_isBegin 12 = .ok (.iload_n 1, 1) := by decide +kernel
theorem dX10_isBegin_13 : decode cX10_isBegin 13 = .ok (.baload, 1) := by decide +kernel
theorem dX10_isBegin_14 : decode cX10_isBegin 14 = .ok (.ifCond .eq 7, 3) := by decide +kernel
theorem dX10_isBegin_17 : decode cX10_isBegin 17 = .ok (.iconst 1, 1) := by decide +kernel
theorem dX10_isBegin_18 : decode cX10_isBegin 18 = .ok (.goto 4, 3) := by decide +kernel
theorem dX10_isBegin_21 : decode cX10_isBegin 21 = .ok (.iconst 0, 1) := by decide +kernel
theorem dX10_isBegin_22 : decode cX10_isBegin 22 = .ok (.ireturn, 1) := by decide +kernel
theorem dX10_isProbe_0 : decode cX10_isProbe 0 = .ok (.iload_n 1, 1) := by decide +kernel
theorem dX10_isProbe_1 : decode cX10_isProbe 1 = .ok (.iconst 0, 1) := by decide +kernel
theorem dX10_isProbe_2 : decode cX10_isProbe 2 = .ok (.iconst 5, 1) := by decide +kernel
theorem dX10_isProbe_3 : decode cX10_isProbe 3 = .ok (.invokestatic 59, 3) := by decide +kernel
theorem dX10_isProbe_6 : decode cX10_isProbe 6 = .ok (.ifCond .eq 20, 3) := by decide +kernel
theorem dX10_isProbe_9 : decode cX10_isProbe 9 = .ok (.aload_n 0, 1) := by decide +kernel
theorem dX10_isProbe_10 : decode cX10_isProbe 10 = .ok (.getfield 20, 3) := by decide +kernel
theorem dX10_isProbe_13 : decode cX10_isProbe 13 = .ok (.iload_n 1, 1) := by decide +kernel
theorem dX10_isProbe_14 : decode cX10_isProbe 14 = .ok (.invokestatic 96, 3) := by decide +kernel
theorem dX10_isProbe_17 : decode cX10_isProbe 17 = .ok (.iaload, 1) := by decide +kernel
theorem dX10_isProbe_18 : decode cX10_isProbe 18 = .ok (.iconst 3, 1) := by decide +kernel
theorem dX10_isProbe_19 : decode cX10_isProbe 19 = .ok (.if_icmp .ge 7, 3) := by decide +kernel
theorem dX10_isProbe_22 : decode cX10_isProbe 22 = .ok (.iconst 1, 1) := by decide +kernel
theorem dX10_isProbe_23 : decode cX10_isProbe 23 = .ok (.goto 4, 3) := by decide +kernel
theorem dX10_isProbe_26 : decode cX10_isProbe 26 = .ok (.iconst 0, 1) := by decide +kernel
theorem dX10_isProbe_27 : decode cX10_isProbe 27 = .ok (.ireturn, 1) := by decide +kernel
theorem dX10_probeOn_0 : decode cX10_probeOn 0 = .ok (.iconst 0, 1) := by decide +kernel
theorem dX10_probeOn_1 : decode cX10_probeOn 1 = .ok (.istore_n 2, 1) := by decide +kernel
theorem dX10_probeOn_2 : decode cX10_probeOn 2 = .ok (.iload_n 2, 1) := by decide +kernel
theorem dX10_probeOn_3 : decode cX10_probeOn 3 = .ok (.bipush 6, 2) := by decide +kernel
theorem dX10_probeOn_5 : decode cX10_probeOn 5 = .ok (.if_icmp .ge 39, 3) := by decide +kernel
theorem dX10_probeOn_8 : decode cX10_probeOn 8 = .ok (.aload_n 0, 1) := by decide +kernel
theorem dX10_probeOn_9 : decode cX10_probeOn 9 = .ok (.getfield 20, 3) := by decide +kernel
theorem dX10_probeOn_12 : decode cX10_probeOn 12 = .ok (.iload_n 2, 1) := by decide +kernel
theorem dX10_probeOn_13 : decode cX10_probeOn 13 = .ok (.invokestatic 96, 3) := by decide +kernel
theorem dX10_probeOn_16 : decode cX10_probeOn 16 = .ok (.iaload, 1) := by decide +kernel
theorem dX10_probeOn_17 : decode cX10_probeOn 17 = .ok (.iconst 3, 1) := by decide +kernel
theorem dX10_probeOn_18 : decode cX10_probeOn 18 = .ok (.if_icmp .ge 20, 3) := by decide +kernel
theorem dX10_probeOn_21 : decode cX10_probeOn 21 = .ok (.aload_n 0, 1) := by decide +kernel
theorem dX10_probeOn_22 : decode cX10_probeOn 22 = .ok (.getfield 20, 3) := by decide +kernel
theorem dX10_probeOn_25 : decode cX10_probeOn 25 = .ok (.iload_n 2, 1) := by decide +kernel
theorem dX10_probeOn_26 : decode cX10_probeOn 26 = .ok (.invokestatic 96, 3) := by decide +kernel
theorem dX10_probeOn_29 : decode cX10_probeOn 29 = .ok (.iconst 2, 1) := by decide +kernel
theorem dX10_probeOn_30 : decode cX10_probeOn 30 = .ok (.iadd, 1) := by decide +kernel
theorem dX10_probeOn_31 : decode cX10_probeOn 31 = .ok (.iaload, 1) := by decide +kernel
theorem dX10_probeOn_32 : decode cX10_probeOn 32 = .ok (.iload_n 1, 1) := by decide +kernel
theorem dX10_probeOn_33 : decode cX10_probeOn 33 = .ok (.if_icmp .ne 5, 3) := by decide +kernel
theorem dX10_probeOn_36 : decode cX10_probeOn 36 = .ok (.iload_n 2, 1) := by decide +kernel
theorem dX10_probeOn_37 : decode cX10_probeOn 37 = .ok (.ireturn, 1) := by decide +kernel
theorem dX10_probeOn_38 : decode cX10_probeOn 38 = .ok (.iinc 2 1, 3) := by decide +kernel
theorem dX10_probeOn_41 : decode cX10_probeOn 41 = .ok (.goto (-39), 3) := by decide +kernel
theorem dX10_probeOn_44 : decode cX10_probeOn 44 = .ok (.bipush (-4), 2) := by decide +kernel
theorem dX10_probeOn_46 : decode cX10_probeOn 46 = .ok (.ireturn, 1) := by decide +kernel
theorem dX10_manyThat_0 : decode cX10_manyThat 0 = .ok (.iconst 0, 1) := by decide +kernel
theorem dX10_manyThat_1 : decode cX10_manyThat 1 = .ok (.istore_n 2, 1) := by decide +kernel
theorem dX10_manyThat_2 : decode cX10_manyThat 2 = .ok (.iconst 0, 1) := by decide +kernel
theorem dX10_manyThat_3 : decode cX10_manyThat 3 = .ok (.istore_n 3, 1) := by decide +kernel
theorem dX10_manyThat_4 : decode cX10_manyThat 4 = .ok (.iload_n 3, 1) := by decide +kernel
theorem dX10_manyThat_5 : decode cX10_manyThat 5 = .ok (.bipush 6, 2) := by decide +kernel
theorem dX10_manyThat_7 : decode cX10_manyThat 7 = .ok (.if_icmp .ge 30, 3) := by decide +kernel
theorem dX10_manyThat_10 : decode cX10_manyThat 10 = .ok (.iload_n 2, 1) := by decide +kernel
theorem dX10_manyThat_11 : decode cX10_manyThat 11 = .ok (.aload_n 0, 1) := by decide +kernel
theorem dX10_manyThat_12 : decode cX10_manyThat 12 = .ok (.getfield 20, 3) := by decide +kernel
theorem dX10_manyThat_15 : decode cX10_manyThat 15 = .ok (.iload_n 3, 1) := by decide +kernel
theorem dX10_manyThat_16 : decode cX10_manyThat 16 = .ok (.invokestatic 96, 3) := by decide +kernel
theorem dX10_manyThat_19 : decode cX10_manyThat 19 = .ok (.iaload, 1) := by decide +kernel
theorem dX10_manyThat_20 : decode cX10_manyThat 20 = .ok (.iload_n 1, 1) := by decide +kernel
theorem dX10_manyThat_21 : decode cX10_manyThat 21 = .ok (.if_icmp .ne 7, 3) := by decide +kernel
theorem dX10_manyThat_24 : decode cX10_manyThat 24 = .ok (.iconst 1, 1) := by decide +kernel
theorem dX10_manyThat_25 : decode cX10_manyThat 25 = .ok (.goto 4, 3) := by decide +kernel
theorem dX10_manyThat_28 : decode cX10_manyThat 28 = .ok (.iconst 0, 1) := by decide +kernel
theorem dX10_manyThat_29 : decode cX10_manyThat 29 = .ok (.iadd, 1) := by decide +kernel
theorem dX10_manyThat_30 : decode cX10_manyThat 30 = .ok (.istore_n 2, 1) := by decide +kernel
theorem dX10_manyThat_31 : decode cX10_manyThat 31 = .ok (.iinc 3 1, 3) := by decide +kernel
theorem dX10_manyThat_34 : decode cX10_manyThat 34 = .ok (.goto (-30), 3) := by decide +kernel
theorem dX10_manyThat_37 : decode cX10_manyThat 37 = .ok (.iload_n 2, 1) := by decide +kernel
theorem dX10_manyThat_38 : decode cX10_manyThat 38 = .ok (.ireturn, 1) := by decide +kernel
theorem dX10_probe_0 : decode cX10_probe 0 = .ok (.iload_n 1, 1) := by decide +kernel
theorem dX10_probe_1 : decode cX10_probe 1 = .ok (.iconst 0, 1) := by decide +kernel
theorem dX10_probe_2 : decode cX10_probe 2 = .ok (.iconst 1, 1) := by decide +kernel
theorem dX10_probe_3 : decode cX10_probe 3 = .ok (.invokestatic 59, 3) := by decide +kernel
theorem dX10_probe_6 : decode cX10_probe 6 = .ok (.ifCond .eq 11, 3) := by decide +kernel
theorem dX10_probe_9 : decode cX10_probe 9 = .ok (.aload_n 0, 1) := by decide +kernel
theorem dX10_probe_10 : decode cX10_probe 10 = .ok (.iload_n 2, 1) := by decide +kernel
theorem dX10_probe_11 : decode cX10_probe 11 = .ok (.invokevirtual 93, 3) := by decide +kernel
theorem dX10_probe_14 : decode cX10_probe 14 = .ok (.ifCond .ne 5, 3) := by decide +kernel
theorem dX10_probe_17 : decode cX10_probe 17 = .ok (.iconst (-1), 1) := by decide +kernel
theorem dX10_probe_18 : decode cX10_probe 18 = .ok (.ireturn, 1) := by decide +kernel
theorem dX10_probe_19 : decode cX10_probe 19 = .ok (.aload_n 0, 1) := by decide +kernel
theorem dX10_probe_20 : decode cX10_probe 20 = .ok (.getfield 16, 3) := by decide +kernel
theorem dX10_probe_23 : decode cX10_probe 23 = .ok (.iload_n 2, 1) := by decide +kernel
theorem dX10_probe_24 : decode cX10_probe 24 = .ok (.baload, 1) := by decide +kernel
theorem dX10_probe_25 : decode cX10_probe 25 = .ok (.ifCond .eq 13, 3) := by decide +kernel
theorem dX10_probe_28 : decode cX10_probe 28 = .ok (.aload_n 0, 1) := by decide +kernel
theorem dX10_probe_29 : decode cX10_probe 29 = .ok (.iload_n 2, 1) := by decide +kernel
theorem dX10_probe_30 : decode cX10_probe 30 = .ok (.invokevirtual 99, 3) := by decide +kernel
theorem dX10_probe_33 : decode cX10_probe 33 = .ok (.bipush (-4), 2) := by decide +kernel
theorem dX10_probe_35 : decode cX10_probe 35 = .ok (.if_icmp .eq 6, 3) := by decide +kernel
theorem dX10_probe_38 : decode cX10_probe 38 = .ok (.bipush (-2), 2) := by decide +kernel
theorem dX10_probe_40 : decode cX10_probe 40 = .ok (.ireturn, 1) := by decide +kernel
theorem dX10_probe_41 : decode cX10_probe 41 = .ok (.aload_n 0, 1) := by decide +kernel
theorem dX10_probe_42 : decode cX10_probe 42 = .ok (.iconst 3, 1) := by decide +kernel
theorem dX10_probe_43 : decode cX10_probe 43 = .ok (.invokevirtual 102, 3) := by decide +kernel
theorem dX10_probe_46 : decode cX10_probe 46 = .ok (.ifCond .ne 6, 3) := by decide +kernel
theorem dX10_probe_49 : decode cX10_probe 49 = .ok (.bipush (-3), 2) := by decide +kernel
theorem dX10_probe_51 : decode cX10_probe 51 = .ok (.ireturn, 1) := by decide +kernel
theorem dX10_probe_52 : decode cX10_probe 52 = .ok (.aload_n 0, 1) := by decide +kernel
theorem dX10_probe_53 : decode cX10_probe 53 = .ok (.invokevirtual 105, 3) := by decide +kernel
theorem dX10_probe_56 : decode cX10_probe 56 = .ok (.iconst 0, 1) := by decide +kernel
theorem dX10_probe_57 : decode cX10_probe 57 = .ok (.istore_n 3, 1) := by decide +kernel
theorem dX10_probe_58 : decode cX10_probe 58 = .ok (.aload_n 0, 1) := by decide +kernel
theorem dX10_probe_59 : decode cX10_probe 59 = .ok (.getfield 20, 3) := by decide +kernel
theorem dX10_probe_62 : decode cX10_probe 62 = .ok (.iload_n 3, 1) := by decide +kernel
theorem dX10_probe_63 : decode cX10_probe 63 = .ok (.invokestatic 96, 3) := by decide +kernel
theorem dX10_probe_66 : decode cX10_probe 66 = .ok (.iaload, 1) := by decide +kernel
theorem dX10_probe_67 : decode cX10_probe 67 = .ok (.iconst 3, 1) := by decide +kernel
theorem dX10_probe_68 : decode cX10_probe 68 = .ok (.if_icmp .eq 9, 3) := by decide +kernel
theorem dX10_probe_71 : decode cX10_probe 71 = .ok (.iinc 3 1, 3) := by decide +kernel
theorem dX10_probe_74 : decode cX10_probe 74 = .ok (.goto (-16), 3) := by decide +kernel
theorem dX10_probe_77 : decode cX10_probe 77 = .ok (.iconst 0, 1) := by decide +kernel
theorem dX10_probe_78 : decode cX10_probe 78 = .ok (.istore 4, 2) := by decide +kernel
theorem dX10_probe_80 : decode cX10_probe 80 = .ok (.iload 4, 2) := by decide +kernel
theorem dX10_probe_82 : decode cX10_probe 82 = .ok (.sipush 208, 3) := by decide +kernel
theorem dX10_probe_85 : decode cX10_probe 85 = .ok (.if_icmp .ge 22, 3) := by decide +kernel
theorem dX10_probe_88 : decode cX10_probe 88 = .ok (.aload_n 0, 1) := by decide +kernel
theorem dX10_probe_89 : decode cX10_probe 89 = .ok (.getfield 20, 3) := by decide +kernel
theorem dX10_probe_92 : decode cX10_probe 92 = .ok (.iload_n 3, 1) := by decide +kernel
theorem dX10_probe_93 : decode cX10_probe 93 = .ok (.invokestatic 96, 3) := by decide +kernel
theorem dX10_probe_96 : decode cX10_probe 96 = .ok (.iload 4, 2) := by decide +kernel
theorem dX10_probe_98 : decode cX10_probe 98 = .ok (.iadd, 1) := by decide +kernel
theorem dX10_probe_99 : decode cX10_probe 99 = .ok (.iconst 0, 1) := by decide +kernel
theorem dX10_probe_100 : decode cX10_probe 100 = .ok (.iastore, 1) := by decide +kernel
theorem dX10_probe_101 : decode cX10_probe 101 = .ok (.iinc 4 1, 3) := by decide +kernel
theorem dX10_probe_104 : decode cX10_probe 104 = .ok (.goto (-24), 3) := by decide +kernel
theorem dX10_probe_107 : decode cX10_probe 107 = .ok (.aload_n 0, 1) := by decide +kernel
theorem dX10_probe_108 : decode cX10_probe 108 = .ok (.getfield 20, 3) := by decide +kernel
theorem dX10_probe_111 : decode cX10_probe 111 = .ok (.iload_n 3, 1) := by decide +kernel
theorem dX10_probe_112 : decode cX10_probe 112 = .ok (.invokestatic 96, 3) := by decide +kernel
theorem dX10_probe_115 : decode cX10_probe 115 = .ok (.iconst 1, 1) := by decide +kernel
theorem dX10_probe_116 : decode cX10_probe 116 = .ok (.iadd, 1) := by decide +kernel
theorem dX10_probe_117 : decode cX10_probe 117 = .ok (.iload_n 1, 1) := by decide +kernel
theorem dX10_probe_118 : decode cX10_probe 118 = .ok (.iastore, 1) := by decide +kernel
theorem dX10_probe_119 : decode cX10_probe 119 = .ok (.aload_n 0, 1) := by decide +kernel
theorem dX10_probe_120 : decode cX10_probe 120 = .ok (.getfield 20, 3) := by decide +kernel
theorem dX10_probe_123 : decode cX10_probe 123 = .ok (.iload_n 3, 1) := by decide +kernel
theorem dX10_probe_124 : decode cX10_probe 124 = .ok (.invokestatic 96, 3) := by decide +kernel
theorem dX10_probe_127 : decode cX10_probe 127 = .ok (.iconst 2, 1) := by decide +kernel
theorem dX10_probe_128 : decode cX10_probe 128 = .ok (.iadd, 1) := by decide +kernel
theorem dX10_probe_129 : decode cX10_probe 129 = .ok (.iload_n 2, 1) := by decide +kernel
theorem dX10_probe_130 : decode cX10_probe 130 = .ok (.iastore, 1) := by decide +kernel
theorem dX10_probe_131 : decode cX10_probe 131 = .ok (.iload_n 3, 1) := by decide +kernel
theorem dX10_probe_132 : decode cX10_probe 132 = .ok (.ireturn, 1) := by decide +kernel
theorem dX10_turn_0 : decode cX10_turn 0 = .ok (.aload_n 0, 1) := by decide +kernel
theorem dX10_turn_1 : decode cX10_turn 1 = .ok (.iload_n 1, 1) := by decide +kernel
theorem dX10_turn_2 : decode cX10_turn 2 = .ok (.invokevirtual 108, 3) := by decide +kernel
theorem dX10_turn_5 : decode cX10_turn 5 = .ok (.ifCond .eq 12, 3) := by decide +kernel
theorem dX10_turn_8 : decode cX10_turn 8 = .ok (.iload_n 2, 1) := by decide +kernel
theorem dX10_turn_9 : decode cX10_turn 9 = .ok (.iconst 0, 1) := by decide +kernel
theorem dX10_turn_10 : decode cX10_turn 10 = .ok (.iconst 1, 1) := by decide +kernel
theorem dX10_turn_11 : decode cX10_turn 11 = .ok (.invokestatic 59, 3) := by decide +kernel
theorem dX10_turn_14 : decode cX10_turn 14 = .ok (.ifCond .ne 5, 3) := by decide +kernel
theorem dX10_turn_17 : decode cX10_turn 17 = .ok (.iconst (-1), 1) := by decide +kernel
theorem dX10_turn_18 : decode cX10_turn 18 = .ok (.ireturn, 1) := by decide +kernel
theorem dX10_turn_19 : decode cX10_turn 19 = .ok (.iload_n 1, 1) := by decide +kernel
theorem dX10_turn_20 : decode cX10_turn 20 = .ok (.invokestatic 96, 3) := by decide +kernel
theorem dX10_turn_23 : decode cX10_turn 23 = .ok (.istore_n 3, 1) := by decide +kernel
theorem dX10_turn_24 : decode cX10_turn 24 = .ok (.aload_n 0, 1) := by decide +kernel
theorem dX10_turn_25 : decode cX10_turn 25 = .ok (.getfield 20, 3) := by decide +kernel
theorem dX10_turn_28 : decode cX10_turn 28 = .ok (.iload_n 3, 1) := by decide +kernel
theorem dX10_turn_29 : decode cX10_turn 29 = .ok (.iaload, 1) := by decide +kernel
theorem dX10_turn_30 : decode cX10_turn 30 = .ok (.iconst 2, 1) := by decide +kernel
theorem dX10_turn_31 : decode cX10_turn 31 = .ok (.if_icmp .eq 15, 3) := by decide +kernel
theorem dX10_turn_34 : decode cX10_turn 34 = .ok (.aload_n 0, 1) := by decide +kernel
theorem dX10_turn_35 : decode cX10_turn 35 = .ok (.getfield 20, 3) := by decide +kernel
theorem dX10_turn_38 : decode cX10_turn 38 = .ok (.iload_n 3, 1) := by decide +kernel
theorem dX10_turn_39 : decode cX10_turn 39 = .ok (.iaload, 1) := by decide +kernel
theorem dX10_turn_40 : decode cX10_turn 40 = .ok (.iconst 1, 1) := by decide +kernel
theorem dX10_turn_41 : decode cX10_turn 41 = .ok (.iload_n 2, 1) := by decide +kernel
theorem dX10_turn_42 : decode cX10_turn 42 = .ok (.isub, 1) := by decide +kernel
theorem dX10_turn_43 : decode cX10_turn 43 = .ok (.if_icmp .ne 6, 3) := by decide +kernel
theorem dX10_turn_46 : decode cX10_turn 46 = .ok (.bipush (-2), 2) := by decide +kernel
theorem dX10_turn_48 : decode cX10_turn 48 = .ok (.ireturn, 1) := by decide +kernel
theorem dX10_turn_49 : decode cX10_turn 49 = .ok (.aload_n 0, 1) := by decide +kernel
theorem dX10_turn_50 : decode cX10_turn 50 = .ok (.invokevirtual 105, 3) := by decide +kernel
theorem dX10_turn_53 : decode cX10_turn 53 = .ok (.aload_n 0, 1) := by decide +kernel
theorem dX10_turn_54 : decode cX10_turn 54 = .ok (.getfield 20, 3) := by decide +kernel
theorem dX10_turn_57 : decode cX10_turn 57 = .ok (.iload_n 3, 1) := by decide +kernel
theorem dX10_turn_58 : decode cX10_turn 58 = .ok (.iconst 1, 1) := by decide +kernel
theorem dX10_turn_59 : decode cX10_turn 59 = .ok (.iload_n 2, 1) := by decide +kernel
theorem dX10_turn_60 : decode cX10_turn 60 = .ok (.isub, 1) := by decide +kernel
theorem dX10_turn_61 : decode cX10_turn 61 = .ok (.iastore, 1) := by decide +kernel
theorem dX10_turn_62 : decode cX10_turn 62 = .ok (.aload_n 0, 1) := by decide +kernel
theorem dX10_turn_63 : decode cX10_turn 63 = .ok (.iconst 0, 1) := by decide +kernel
theorem dX10_turn_64 : decode cX10_turn 64 = .ok (.invokevirtual 102, 3) := by decide +kernel
theorem dX10_turn_67 : decode cX10_turn 67 = .ok (.ireturn, 1) := by decide +kernel
theorem dX10_remove_0 : decode cX10_remove 0 = .ok (.aload_n 0, 1) := by decide +kernel
theorem dX10_remove_1 : decode cX10_remove 1 = .ok (.iload_n 1, 1) := by decide +kernel
theorem dX10_remove_2 : decode cX10_remove 2 = .ok (.invokevirtual 108, 3) := by decide +kernel
theorem dX10_remove_5 : decode cX10_remove 5 = .ok (.ifCond .ne 5, 3) := by decide +kernel
theorem dX10_remove_8 : decode cX10_remove 8 = .ok (.iconst (-1), 1) := by decide +kernel
theorem dX10_remove_9 : decode cX10_remove 9 = .ok (.ireturn, 1) := by decide +kernel
theorem dX10_remove_10 : decode cX10_remove 10 = .ok (.iload_n 1, 1) := by decide +kernel
theorem dX10_remove_11 : decode cX10_remove 11 = .ok (.invokestatic 96, 3) := by decide +kernel
theorem dX10_remove_14 : decode cX10_remove 14 = .ok (.istore_n 2, 1) := by decide +kernel
theorem dX10_remove_15 : decode cX10_remove 15 = .ok (.aload_n 0, 1) := by decide +kernel
theorem dX10_remove_16 : decode cX10_remove 16 = .ok (.getfield 20, 3) := by decide +kernel
theorem dX10_remove_19 : decode cX10_remove 19 = .ok (.iload_n 2, 1) := by decide +kernel
theorem dX10_remove_20 : decode cX10_remove 20 = .ok (.iaload, 1) := by decide +kernel
theorem dX10_remove_21 : decode cX10_remove 21 = .ok (.iconst 2, 1) := by decide +kernel
theorem dX10_remove_22 : decode cX10_remove 22 = .ok (.if_icmp .ne 6, 3) := by decide +kernel
theorem dX10_remove_25 : decode cX10_remove 25 = .ok (.bipush (-2), 2) := by decide +kernel
theorem dX10_remove_27 : decode cX10_remove 27 = .ok (.ireturn, 1) := by decide +kernel
theorem dX10_remove_28 : decode cX10_remove 28 = .ok (.aload_n 0, 1) := by decide +kernel
theorem dX10_remove_29 : decode cX10_remove 29 = .ok (.invokevirtual 105, 3) := by decide +kernel
theorem dX10_remove_32 : decode cX10_remove 32 = .ok (.aload_n 0, 1) := by decide +kernel
theorem dX10_remove_33 : decode cX10_remove 33 = .ok (.getfield 20, 3) := by decide +kernel
theorem dX10_remove_36 : decode cX10_remove 36 = .ok (.iload_n 2, 1) := by decide +kernel
theorem dX10_remove_37 : decode cX10_remove 37 = .ok (.aload_n 0, 1) := by decide +kernel
theorem dX10_remove_38 : decode cX10_remove 38 = .ok (.getfield 20, 3) := by decide +kernel
theorem dX10_remove_41 : decode cX10_remove 41 = .ok (.iload_n 2, 1) := by decide +kernel
theorem dX10_remove_42 : decode cX10_remove 42 = .ok (.bipush 6, 2) := by decide +kernel
theorem dX10_remove_44 : decode cX10_remove 44 = .ok (.iadd, 1) := by decide +kernel
theorem dX10_remove_45 : decode cX10_remove 45 = .ok (.iaload, 1) := by decide +kernel
theorem dX10_remove_46 : decode cX10_remove 46 = .ok (.ifCond .ne 7, 3) := by decide +kernel
theorem dX10_remove_49 : decode cX10_remove 49 = .ok (.iconst 3, 1) := by decide +kernel
theorem dX10_remove_50 : decode cX10_remove 50 = .ok (.goto 4, 3) := by decide +kernel
theorem dX10_remove_53 : decode cX10_remove 53 = .ok (.iconst 2, 1) := by decide +kernel
theorem dX10_remove_54 : decode cX10_remove 54 = .ok (.iastore, 1) := by decide +kernel
theorem dX10_remove_55 : decode cX10_remove 55 = .ok (.aload_n 0, 1) := by decide +kernel
theorem dX10_remove_56 : decode cX10_remove 56 = .ok (.getfield 20, 3) := by decide +kernel
theorem dX10_remove_59 : decode cX10_remove 59 = .ok (.iload_n 2, 1) := by decide +kernel
theorem dX10_remove_60 : decode cX10_remove 60 = .ok (.iaload, 1) := by decide +kernel
theorem dX10_remove_61 : decode cX10_remove 61 = .ok (.iconst 3, 1) := by decide +kernel
theorem dX10_remove_62 : decode cX10_remove 62 = .ok (.if_icmp .ne 7, 3) := by decide +kernel
theorem dX10_remove_65 : decode cX10_remove 65 = .ok (.iconst 1, 1) := by decide +kernel
theorem dX10_remove_66 : decode cX10_remove 66 = .ok (.goto 4, 3) := by decide +kernel
theorem dX10_remove_69 : decode cX10_remove 69 = .ok (.iconst 0, 1) := by decide +kernel
theorem dX10_remove_70 : decode cX10_remove 70 = .ok (.ireturn, 1) := by decide +kernel
theorem dX10_filter_0 : decode cX10_filter 0 = .ok (.aload_n 0, 1) := by decide +kernel
theorem dX10_filter_1 : decode cX10_filter 1 = .ok (.iload_n 1, 1) := by decide +kernel
theorem dX10_filter_2 : decode cX10_filter 2 = .ok (.invokevirtual 108, 3) := by decide +kernel
theorem dX10_filter_5 : decode cX10_filter 5 = .ok (.ifCond .ne 5, 3) := by decide +kernel
theorem dX10_filter_8 : decode cX10_filter 8 = .ok (.iconst (-1), 1) := by decide +kernel
theorem dX10_filter_9 : decode cX10_filter 9 = .ok (.ireturn, 1) := by decide +kernel
theorem dX10_filter_10 : decode cX10_filter 10 = .ok (.aload_n 0, 1) := by decide +kernel
theorem dX10_filter_11 : decode cX10_filter 11 = .ok (.getfield 56, 3) := by decide +kernel
theorem dX10_filter_14 : decode cX10_filter 14 = .ok (.ifCond .le 23, 3) := by decide +kernel
theorem dX10_filter_17 : decode cX10_filter 17 = .ok (.aload_n 0, 1) := by decide +kernel
theorem dX10_filter_18 : decode cX10_filter 18 = .ok (.aload_n 0, 1) := by decide +kernel
theorem dX10_filter_19 : decode cX10_filter 19 = .ok (.getfield 7, 3) := by decide +kernel
theorem dX10_filter_22 : decode cX10_filter 22 = .ok (.iconst 0, 1) := by decide +kernel
theorem dX10_filter_23 : decode cX10_filter 23 = .ok (.aload_n 0, 1) := by decide +kernel
theorem dX10_filter_24 : decode cX10_filter 24 = .ok (.getfield 56, 3) := by decide +kernel
theorem dX10_filter_27 : decode cX10_filter 27 = .ok (.iconst 0, 1) := by decide +kernel
theorem dX10_filter_28 : decode cX10_filter 28 = .ok (.invokevirtual 89, 3) := by decide +kernel
theorem dX10_filter_31 : decode cX10_filter 31 = .ok (.ifCond .ge 6, 3) := by decide +kernel
theorem dX10_filter_34 : decode cX10_filter 34 = .ok (.bipush (-2), 2) := by decide +kernel
theorem dX10_filter_36 : decode cX10_filter 36 = .ok (.ireturn, 1) := by decide +kernel
theorem dX10_filter_37 : decode cX10_filter 37 = .ok (.aload_n 0, 1) := by decide +kernel
theorem dX10_filter_38 : decode cX10_filter 38 = .ok (.invokevirtual 105, 3) := by decide +kernel
theorem dX10_filter_41 : decode cX10_filter 41 = .ok (.iload_n 1, 1) := by decide +kernel
theorem dX10_filter_42 : decode cX10_filter 42 = .ok (.invokestatic 96, 3) := by decide +kernel
theorem dX10_filter_45 : decode cX10_filter 45 = .ok (.bipush 7, 2) := by decide +kernel
theorem dX10_filter_47 : decode cX10_filter 47 = .ok (.iadd, 1) := by decide +kernel
theorem dX10_filter_48 : decode cX10_filter 48 = .ok (.istore_n 2, 1) := by decide +kernel
theorem dX10_filter_49 : decode cX10_filter 49 = .ok (.aload_n 0, 1) := by decide +kernel
theorem dX10_filter_50 : decode cX10_filter 50 = .ok (.getfield 20, 3) := by decide +kernel
theorem dX10_filter_53 : decode cX10_filter 53 = .ok (.iload_n 2, 1) := by decide +kernel
theorem dX10_filter_54 : decode cX10_filter 54 = .ok (.aload_n 0, 1) := by decide +kernel
theorem dX10_filter_55 : decode cX10_filter 55 = .ok (.getfield 56, 3) := by decide +kernel
theorem dX10_filter_58 : decode cX10_filter 58 = .ok (.iastore, 1) := by decide +kernel
theorem dX10_filter_59 : decode cX10_filter 59 = .ok (.iconst 0, 1) := by decide +kernel
theorem dX10_filter_60 : decode cX10_filter 60 = .ok (.istore_n 3, 1) := by decide +kernel
theorem dX10_filter_61 : decode cX10_filter 61 = .ok (.iload_n 3, 1) := by decide +kernel
theorem dX10_filter_62 : decode cX10_filter 62 = .ok (.sipush 200, 3) := by decide +kernel
theorem dX10_filter_65 : decode cX10_filter 65 = .ok (.if_icmp .ge 37, 3) := by decide +kernel
theorem dX10_filter_68 : decode cX10_filter 68 = .ok (.aload_n 0, 1) := by decide +kernel
theorem dX10_filter_69 : decode cX10_filter 69 = .ok (.getfield 20, 3) := by decide +kernel
theorem dX10_filter_72 : decode cX10_filter 72 = .ok (.iload_n 2, 1) := by decide +kernel
theorem dX10_filter_73 : decode cX10_filter 73 = .ok (.iconst 1, 1) := by decide +kernel
theorem dX10_filter_74 : decode cX10_filter 74 = .ok (.iadd, 1) := by decide +kernel
theorem dX10_filter_75 : decode cX10_filter 75 = .ok (.iload_n 3, 1) := by decide +kernel
theorem dX10_filter_76 : decode cX10_filter 76 = .ok (.iadd, 1) := by decide +kernel
theorem dX10_filter_77 : decode cX10_filter 77 = .ok (.iload_n 3, 1) := by decide +kernel
theorem dX10_filter_78 : decode cX10_filter 78 = .ok (.aload_n 0, 1) := by decide +kernel
theorem dX10_filter_79 : decode cX10_filter 79 = .ok (.getfield 56, 3) := by decide +kernel
theorem dX10_filter_82 : decode cX10_filter 82 = .ok (.if_icmp .ge 12, 3) := by decide +kernel
theorem dX10_filter_85 : decode cX10_filter 85 = .ok (.aload_n 0, 1) := by decide +kernel
theorem dX10_filter_86 : decode cX10_filter 86 = .ok (.getfield 7, 3) := by decide +kernel
theorem dX10_filter_89 : decode cX10_filter 89 = .ok (.iload_n 3, 1) := by decide +kernel
theorem dX10_filter_90 : decode cX10_filter 90 = .ok (.iaload, 1) := by decide +kernel
theorem dX10_filter_91 : decode cX10_filter 91 = .ok (.goto 4, 3) := by decide +kernel
theorem dX10_filter_94 : decode cX10_filter 94 = .ok (.iconst 0, 1) := by decide +kernel
theorem dX10_filter_95 : decode cX10_filter 95 = .ok (.iastore, 1) := by decide +kernel
theorem dX10_filter_96 : decode cX10_filter 96 = .ok (.iinc 3 1, 3) := by decide +kernel
theorem dX10_filter_99 : decode cX10_filter 99 = .ok (.goto (-38), 3) := by decide +kernel
theorem dX10_filter_102 : decode cX10_filter 102 = .ok (.aload_n 0, 1) := by decide +kernel
theorem dX10_filter_103 : decode cX10_filter 103 = .ok (.getfield 56, 3) := by decide +kernel
theorem dX10_filter_106 : decode cX10_filter 106 = .ok (.ireturn, 1) := by decide +kernel
theorem dX10_hits_0 : decode cX10_hits 0 = .ok (.iload_n 1, 1) := by decide +kernel
theorem dX10_hits_1 : decode cX10_hits 1 = .ok (.invokestatic 96, 3) := by decide +kernel
theorem dX10_hits_4 : decode cX10_hits 4 = .ok (.istore_n 3, 1) := by decide +kernel
theorem dX10_hits_5 : decode cX10_hits 5 = .ok (.iload_n 2, 1) := by decide +kernel
theorem dX10_hits_6 : decode cX10_hits 6 = .ok (.invokestatic 111, 3) := by decide +kernel
theorem dX10_hits_9 : decode cX10_hits 9 = .ok (.istore 4, 2) := by decide +kernel
theorem dX10_hits_11 : decode cX10_hits 11 = .ok (.aload_n 0, 1) := by decide +kernel
theorem dX10_hits_12 : decode cX10_hits 12 = .ok (.getfield 20, 3) := by decide +kernel
theorem dX10_hits_15 : decode cX10_hits 15 = .ok (.iload_n 3, 1) := by decide +kernel
theorem dX10_hits_16 : decode cX10_hits 16 = .ok (.iconst 3, 1) := by decide +kernel
theorem dX10_hits_17 : decode cX10_hits 17 = .ok (.iadd, 1) := by decide +kernel
theorem dX10_hits_18 : decode cX10_hits 18 = .ok (.dup2, 1) := by decide +kernel
theorem dX10_hits_19 : decode cX10_hits 19 = .ok (.iaload, 1) := by decide +kernel
theorem dX10_hits_20 : decode cX10_hits 20 = .ok (.iconst 1, 1) := by decide +kernel
theorem dX10_hits_21 : decode cX10_hits 21 = .ok (.iadd, 1) := by decide +kernel
theorem dX10_hits_22 : decode cX10_hits 22 = .ok (.iastore, 1) := by decide +kernel
theorem dX10_hits_23 : decode cX10_hits 23 = .ok (.aload_n 0, 1) := by decide +kernel
theorem dX10_hits_24 : decode cX10_hits 24 = .ok (.getfield 20, 3) := by decide +kernel
theorem dX10_hits_27 : decode cX10_hits 27 = .ok (.iload_n 3, 1) := by decide +kernel
theorem dX10_hits_28 : decode cX10_hits 28 = .ok (.bipush 7, 2) := by decide +kernel
theorem dX10_hits_30 : decode cX10_hits 30 = .ok (.iadd, 1) := by decide +kernel
theorem dX10_hits_31 : decode cX10_hits 31 = .ok (.iaload, 1) := by decide +kernel
theorem dX10_hits_32 : decode cX10_hits 32 = .ok (.istore 5, 2) := by decide +kernel
theorem dX10_hits_34 : decode cX10_hits 34 = .ok (.iload 5, 2) := by decide +kernel
theorem dX10_hits_36 : decode cX10_hits 36 = .ok (.ifCond .le 42, 3) := by decide +kernel
theorem dX10_hits_39 : decode cX10_hits 39 = .ok (.aload_n 0, 1) := by decide +kernel
theorem dX10_hits_40 : decode cX10_hits 40 = .ok (.aload_n 0, 1) := by decide +kernel
theorem dX10_hits_41 : decode cX10_hits 41 = .ok (.getfield 20, 3) := by decide +kernel
theorem dX10_hits_44 : decode cX10_hits 44 = .ok (.iload_n 3, 1) := by decide +kernel
theorem dX10_hits_45 : decode cX10_hits 45 = .ok (.bipush 7, 2) := by decide +kernel
theorem dX10_hits_47 : decode cX10_hits 47 = .ok (.iadd, 1) := by decide +kernel
theorem dX10_hits_48 : decode cX10_hits 48 = .ok (.iconst 1, 1) := by decide +kernel
theorem dX10_hits_49 : decode cX10_hits 49 = .ok (.iadd, 1) := by decide +kernel
theorem dX10_hits_50 : decode cX10_hits 50 = .ok (.iload 5, 2) := by decide +kernel
theorem dX10_hits_52 : decode cX10_hits 52 = .ok (.aload_n 0, 1) := by decide +kernel
theorem dX10_hits_53 : decode cX10_hits 53 = .ok (.getfield 20, 3) := by decide +kernel
theorem dX10_hits_56 : decode cX10_hits 56 = .ok (.iload 4, 2) := by decide +kernel
theorem dX10_hits_58 : decode cX10_hits 58 = .ok (.iaload, 1) := by decide +kernel
theorem dX10_hits_59 : decode cX10_hits 59 = .ok (.invokevirtual 89, 3) := by decide +kernel
theorem dX10_hits_62 : decode cX10_hits 62 = .ok (.ifCond .ne 16, 3) := by decide +kernel
theorem dX10_hits_65 : decode cX10_hits 65 = .ok (.aload_n 0, 1) := by decide +kernel
theorem dX10_hits_66 : decode cX10_hits 66 = .ok (.getfield 20, 3) := by decide +kernel
theorem dX10_hits_69 : decode cX10_hits 69 = .ok (.iload_n 3, 1) := by decide +kernel
theorem dX10_hits_70 : decode cX10_hits 70 = .ok (.iconst 4, 1) := by decide +kernel
theorem dX10_hits_71 : decode cX10_hits 71 = .ok (.iadd, 1) := by decide +kernel
theorem dX10_hits_72 : decode cX10_hits 72 = .ok (.dup2, 1) := by decide +kernel
theorem dX10_hits_73 : decode cX10_hits 73 = .ok (.iaload, 1) := by decide +kernel
theorem dX10_hits_74 : decode cX10_hits 74 = .ok (.iconst 1, 1) := by decide +kernel
theorem dX10_hits_75 : decode cX10_hits 75 = .ok (.iadd, 1) := by decide +kernel
theorem dX10_hits_76 : decode cX10_hits 76 = .ok (.iastore, 1) := by decide +kernel
theorem dX10_hits_77 : decode cX10_hits 77 = .ok (.return_, 1) := by decide +kernel
theorem dX10_hits_78 : decode cX10_hits 78 = .ok (.aload_n 0, 1) := by decide +kernel
theorem dX10_hits_79 : decode cX10_hits 79 = .ok (.getfield 20, 3) := by decide +kernel
theorem dX10_hits_82 : decode cX10_hits 82 = .ok (.iload 4, 2) := by decide +kernel
theorem dX10_hits_84 : decode cX10_hits 84 = .ok (.bipush 17, 2) := by decide +kernel
theorem dX10_hits_86 : decode cX10_hits 86 = .ok (.iadd, 1) := by decide +kernel
theorem dX10_hits_87 : decode cX10_hits 87 = .ok (.iaload, 1) := by decide +kernel
theorem dX10_hits_88 : decode cX10_hits 88 = .ok (.iconst 4, 1) := by decide +kernel
theorem dX10_hits_89 : decode cX10_hits 89 = .ok (.if_icmp .ne 75, 3) := by decide +kernel
theorem dX10_hits_92 : decode cX10_hits 92 = .ok (.iconst 1, 1) := by decide +kernel
theorem dX10_hits_93 : decode cX10_hits 93 = .ok (.istore 6, 2) := by decide +kernel
theorem dX10_hits_95 : decode cX10_hits 95 = .ok (.iload 6, 2) := by decide +kernel
theorem dX10_hits_97 : decode cX10_hits 97 = .ok (.bipush 10, 2) := by decide +kernel
theorem dX10_hits_99 : decode cX10_hits 99 = .ok (.if_icmp .ge 37, 3) := by decide +kernel
theorem dX10_hits_102 : decode cX10_hits 102 = .ok (.aload_n 0, 1) := by decide +kernel
theorem dX10_hits_103 : decode cX10_hits 103 = .ok (.getfield 20, 3) := by decide +kernel
theorem dX10_hits_106 : decode cX10_hits 106 = .ok (.iload 4, 2) := by decide +kernel
theorem dX10_hits_108 : decode cX10_hits 108 = .ok (.bipush 17, 2) := by decide +kernel
theorem dX10_hits_110 : decode cX10_hits 110 = .ok (.iadd, 1) := by decide +kernel
theorem dX10_hits_111 : decode cX10_hits 111 = .ok (.iload 6, 2) := by decide +kernel
theorem dX10_hits_113 : decode cX10_hits 113 = .ok (.iadd, 1) := by decide +kernel
theorem dX10_hits_114 : decode cX10_hits 114 = .ok (.aload_n 0, 1) := by decide +kernel
theorem dX10_hits_115 : decode cX10_hits 115 = .ok (.getfield 20, 3) := by decide +kernel
theorem dX10_hits_118 : decode cX10_hits 118 = .ok (.iload 4, 2) := by decide +kernel
theorem dX10_hits_120 : decode cX10_hits 120 = .ok (.bipush 17, 2) := by decide +kernel
theorem dX10_hits_122 : decode cX10_hits 122 = .ok (.iadd, 1) := by decide +kernel
theorem dX10_hits_123 : decode cX10_hits 123 = .ok (.iload 6, 2) := by decide +kernel
theorem dX10_hits_125 : decode cX10_hits 125 = .ok (.iadd, 1) := by decide +kernel
theorem dX10_hits_126 : decode cX10_hits 126 = .ok (.iconst 3, 1) := by decide +kernel
theorem dX10_hits_127 : decode cX10_hits 127 = .ok (.iadd, 1) := by decide +kernel
theorem dX10_hits_128 : decode cX10_hits 128 = .ok (.iaload, 1) := by decide +kernel
theorem dX10_hits_129 : decode cX10_hits 129 = .ok (.iastore, 1) := by decide +kernel
theorem dX10_hits_130 : decode cX10_hits 130 = .ok (.iinc 6 1, 3) := by decide +kernel
theorem dX10_hits_133 : decode cX10_hits 133 = .ok (.goto (-38), 3) := by decide +kernel
theorem dX10_hits_136 : decode cX10_hits 136 = .ok (.aload_n 0, 1) := by decide +kernel
theorem dX10_hits_137 : decode cX10_hits 137 = .ok (.getfield 20, 3) := by decide +kernel
theorem dX10_hits_140 : decode cX10_hits 140 = .ok (.iload 4, 2) := by decide +kernel
theorem dX10_hits_142 : decode cX10_hits 142 = .ok (.bipush 17, 2) := by decide +kernel
theorem dX10_hits_144 : decode cX10_hits 144 = .ok (.iadd, 1) := by decide +kernel
theorem dX10_hits_145 : decode cX10_hits 145 = .ok (.dup2, 1) := by decide +kernel
theorem dX10_hits_146 : decode cX10_hits 146 = .ok (.iaload, 1) := by decide +kernel
theorem dX10_hits_147 : decode cX10_hits 147 = .ok (.iconst 1, 1) := by decide +kernel
theorem dX10_hits_148 : decode cX10_hits 148 = .ok (.isub, 1) := by decide +kernel
theorem dX10_hits_149 : decode cX10_hits 149 = .ok (.iastore, 1) := by decide +kernel
theorem dX10_hits_150 : decode cX10_hits 150 = .ok (.aload_n 0, 1) := by decide +kernel
theorem dX10_hits_151 : decode cX10_hits 151 = .ok (.getfield 20, 3) := by decide +kernel
theorem dX10_hits_154 : decode cX10_hits 154 = .ok (.iload 4, 2) := by decide +kernel
theorem dX10_hits_156 : decode cX10_hits 156 = .ok (.bipush 30, 2) := by decide +kernel
theorem dX10_hits_158 : decode cX10_hits 158 = .ok (.iadd, 1) := by decide +kernel
theorem dX10_hits_159 : decode cX10_hits 159 = .ok (.dup2, 1) := by decide +kernel
theorem dX10_hits_160 : decode cX10_hits 160 = .ok (.iaload, 1) := by decide +kernel
theorem dX10_hits_161 : decode cX10_hits 161 = .ok (.iconst 1, 1) := by decide +kernel
theorem dX10_hits_162 : decode cX10_hits 162 = .ok (.iadd, 1) := by decide +kernel
theorem dX10_hits_163 : decode cX10_hits 163 = .ok (.iastore, 1) := by decide +kernel
theorem dX10_hits_164 : decode cX10_hits 164 = .ok (.iload 4, 2) := by decide +kernel
theorem dX10_hits_166 : decode cX10_hits 166 = .ok (.bipush 17, 2) := by decide +kernel
theorem dX10_hits_168 : decode cX10_hits 168 = .ok (.iadd, 1) := by decide +kernel
theorem dX10_hits_169 : decode cX10_hits 169 = .ok (.iconst 1, 1) := by decide +kernel
theorem dX10_hits_170 : decode cX10_hits 170 = .ok (.iadd, 1) := by decide +kernel
theorem dX10_hits_171 : decode cX10_hits 171 = .ok (.iconst 3, 1) := by decide +kernel
theorem dX10_hits_172 : decode cX10_hits 172 = .ok (.aload_n 0, 1) := by decide +kernel
theorem dX10_hits_173 : decode cX10_hits 173 = .ok (.getfield 20, 3) := by decide +kernel
theorem dX10_hits_176 : decode cX10_hits 176 = .ok (.iload 4, 2) := by decide +kernel
theorem dX10_hits_178 : decode cX10_hits 178 = .ok (.bipush 17, 2) := by decide +kernel
theorem dX10_hits_180 : decode cX10_hits 180 = .ok (.iadd, 1) := by decide +kernel
theorem dX10_hits_181 : decode cX10_hits 181 = .ok (.iaload, 1) := by decide +kernel
theorem dX10_hits_182 : decode cX10_hits 182 = .ok (.imul, 1) := by decide +kernel
theorem dX10_hits_183 : decode cX10_hits 183 = .ok (.iadd, 1) := by decide +kernel
theorem dX10_hits_184 : decode cX10_hits 184 = .ok (.istore 6, 2) := by decide +kernel
theorem dX10_hits_186 : decode cX10_hits 186 = .ok (.aload_n 0, 1) := by decide +kernel
theorem dX10_hits_187 : decode cX10_hits 187 = .ok (.getfield 20, 3) := by decide +kernel
theorem dX10_hits_190 : decode cX10_hits 190 = .ok (.iload 6, 2) := by decide +kernel
theorem dX10_hits_192 : decode cX10_hits 192 = .ok (.iload_n 1, 1) := by decide +kernel
theorem dX10_hits_193 : decode cX10_hits 193 = .ok (.iastore, 1) := by decide +kernel
theorem dX10_hits_194 : decode cX10_hits 194 = .ok (.aload_n 0, 1) := by decide +kernel
theorem dX10_hits_195 : decode cX10_hits 195 = .ok (.getfield 20, 3) := by decide +kernel
theorem dX10_hits_198 : decode cX10_hits 198 = .ok (.iload 6, 2) := by decide +kernel
theorem dX10_hits_200 : decode cX10_hits 200 = .ok (.iconst 1, 1) := by decide +kernel
theorem dX10_hits_201 : decode cX10_hits 201 = .ok (.iadd, 1) := by decide +kernel
theorem dX10_hits_202 : decode cX10_hits 202 = .ok (.aload_n 0, 1) := by decide +kernel
theorem dX10_hits_203 : decode cX10_hits 203 = .ok (.getfield 20, 3) := by decide +kernel
theorem dX10_hits_206 : decode cX10_hits 206 = .ok (.iload 4, 2) := by decide +kernel
theorem dX10_hits_208 : decode cX10_hits 208 = .ok (.iaload, 1) := by decide +kernel
theorem dX10_hits_209 : decode cX10_hits 209 = .ok (.iastore, 1) := by decide +kernel
theorem dX10_hits_210 : decode cX10_hits 210 = .ok (.aload_n 0, 1) := by decide +kernel
theorem dX10_hits_211 : decode cX10_hits 211 = .ok (.getfield 20, 3) := by decide +kernel
theorem dX10_hits_214 : decode cX10_hits 214 = .ok (.iload 6, 2) := by decide +kernel
theorem dX10_hits_216 : decode cX10_hits 216 = .ok (.iconst 2, 1) := by decide +kernel
theorem dX10_hits_217 : decode cX10_hits 217 = .ok (.iadd, 1) := by decide +kernel
theorem dX10_hits_218 : decode cX10_hits 218 = .ok (.aload_n 0, 1) := by decide +kernel
theorem dX10_hits_219 : decode cX10_hits 219 = .ok (.getfield 20, 3) := by decide +kernel
theorem dX10_hits_222 : decode cX10_hits 222 = .ok (.iload 4, 2) := by decide +kernel
theorem dX10_hits_224 : decode cX10_hits 224 = .ok (.bipush 16, 2) := by decide +kernel
theorem dX10_hits_226 : decode cX10_hits 226 = .ok (.iadd, 1) := by decide +kernel
theorem dX10_hits_227 : decode cX10_hits 227 = .ok (.iaload, 1) := by decide +kernel
theorem dX10_hits_228 : decode cX10_hits 228 = .ok (.iastore, 1) := by decide +kernel
theorem dX10_hits_229 : decode cX10_hits 229 = .ok (.aload_n 0, 1) := by decide +kernel
theorem dX10_hits_230 : decode cX10_hits 230 = .ok (.getfield 20, 3) := by decide +kernel
theorem dX10_hits_233 : decode cX10_hits 233 = .ok (.iload 4, 2) := by decide +kernel
theorem dX10_hits_235 : decode cX10_hits 235 = .ok (.bipush 17, 2) := by decide +kernel
theorem dX10_hits_237 : decode cX10_hits 237 = .ok (.iadd, 1) := by decide +kernel
theorem dX10_hits_238 : decode cX10_hits 238 = .ok (.dup2, 1) := by decide +kernel
theorem dX10_hits_239 : decode cX10_hits 239 = .ok (.iaload, 1) := by decide +kernel
theorem dX10_hits_240 : decode cX10_hits 240 = .ok (.iconst 1, 1) := by decide +kernel
theorem dX10_hits_241 : decode cX10_hits 241 = .ok (.iadd, 1) := by decide +kernel
theorem dX10_hits_242 : decode cX10_hits 242 = .ok (.iastore, 1) := by decide +kernel
theorem dX10_hits_243 : decode cX10_hits 243 = .ok (.return_, 1) := by decide +kernel
theorem dX10_frees_0 : decode cX10_frees 0 = .ok (.iload_n 1, 1) := by decide +kernel
theorem dX10_frees_1 : decode cX10_frees 1 = .ok (.ifCond .le 61, 3) := by decide +kernel
theorem dX10_frees_4 : decode cX10_frees 4 = .ok (.iload_n 1, 1) := by decide +kernel
theorem dX10_frees_5 : decode cX10_frees 5 = .ok (.iconst 1, 1) := by decide +kernel
theorem dX10_frees_6 : decode cX10_frees 6 = .ok (.isub, 1) := by decide +kernel
theorem dX10_frees_7 : decode cX10_frees 7 = .ok (.invokestatic 96, 3) := by decide +kernel
theorem dX10_frees_10 : decode cX10_frees 10 = .ok (.istore_n 2, 1) := by decide +kernel
theorem dX10_frees_11 : decode cX10_frees 11 = .ok (.aload_n 0, 1) := by decide +kernel
theorem dX10_frees_12 : decode cX10_frees 12 = .ok (.getfield 20, 3) := by decide +kernel
theorem dX10_frees_15 : decode cX10_frees 15 = .ok (.iload_n 2, 1) := by decide +kernel
theorem dX10_frees_16 : decode cX10_frees 16 = .ok (.bipush 6, 2) := by decide +kernel
theorem dX10_frees_18 : decode cX10_frees 18 = .ok (.iadd, 1) := by decide +kernel
theorem dX10_frees_19 : decode cX10_frees 19 = .ok (.dup2, 1) := by decide +kernel
theorem dX10_frees_20 : decode cX10_frees 20 = .ok (.iaload, 1) := by decide +kernel
theorem dX10_frees_21 : decode cX10_frees 21 = .ok (.iconst 1, 1) := by decide +kernel
theorem dX10_frees_22 : decode cX10_frees 22 = .ok (.isub, 1) := by decide +kernel
theorem dX10_frees_23 : decode cX10_frees 23 = .ok (.iastore, 1) := by decide +kernel
theorem dX10_frees_24 : decode cX10_frees 24 = .ok (.aload_n 0, 1) := by decide +kernel
theorem dX10_frees_25 : decode cX10_frees 25 = .ok (.getfield 20, 3) := by decide +kernel
theorem dX10_frees_28 : decode cX10_frees 28 = .ok (.iload_n 2, 1) := by decide +kernel
theorem dX10_frees_29 : decode cX10_frees 29 = .ok (.aload_n 0, 1) := by decide +kernel
theorem dX10_frees_30 : decode cX10_frees 30 = .ok (.getfield 20, 3) := by decide +kernel
theorem dX10_frees_33 : decode cX10_frees 33 = .ok (.iload_n 2, 1) := by decide +kernel
theorem dX10_frees_34 : decode cX10_frees 34 = .ok (.iaload, 1) := by decide +kernel
theorem dX10_frees_35 : decode cX10_frees 35 = .ok (.iconst 2, 1) := by decide +kernel
theorem dX10_frees_36 : decode cX10_frees 36 = .ok (.if_icmp .ne 19, 3) := by decide +kernel
theorem dX10_frees_39 : decode cX10_frees 39 = .ok (.aload_n 0, 1) := by decide +kernel
theorem dX10_frees_40 : decode cX10_frees 40 = .ok (.getfield 20, 3) := by decide +kernel
theorem dX10_frees_43 : decode cX10_frees 43 = .ok (.iload_n 2, 1) := by decide +kernel
theorem dX10_frees_44 : decode cX10_frees 44 = .ok (.bipush 6, 2) := by decide +kernel
theorem dX10_frees_46 : decode cX10_frees 46 = .ok (.iadd, 1) := by decide +kernel
theorem dX10_frees_47 : decode cX10_frees 47 = .ok (.iaload, 1) := by decide +kernel
theorem dX10_frees_48 : decode cX10_frees 48 = .ok (.ifCond .ne 7, 3) := by decide +kernel
theorem dX10_frees_51 : decode cX10_frees 51 = .ok (.iconst 3, 1) := by decide +kernel
theorem dX10_frees_52 : decode cX10_frees 52 = .ok (.goto 9, 3) := by decide +kernel
theorem dX10_frees_55 : decode cX10_frees 55 = .ok (.aload_n 0, 1) := by decide +kernel
theorem dX10_frees_56 : decode cX10_frees 56 = .ok (.getfield 20, 3) := by decide +kernel
theorem dX10_frees_59 : decode cX10_frees 59 = .ok (.iload_n 2, 1) := by decide +kernel
theorem dX10_frees_60 : decode cX10_frees 60 = .ok (.iaload, 1) := by decide +kernel
theorem dX10_frees_61 : decode cX10_frees 61 = .ok (.iastore, 1) := by decide +kernel
theorem dX10_frees_62 : decode cX10_frees 62 = .ok (.return_, 1) := by decide +kernel
theorem dX10_meets_0 : decode cX10_meets 0 = .ok (.iload_n 1, 1) := by decide +kernel
theorem dX10_meets_1 : decode cX10_meets 1 = .ok (.invokestatic 96, 3) := by decide +kernel
theorem dX10_meets_4 : decode cX10_meets 4 = .ok (.istore_n 3, 1) := by decide +kernel
theorem dX10_meets_5 : decode cX10_meets 5 = .ok (.iload_n 2, 1) := by decide +kernel
theorem dX10_meets_6 : decode cX10_meets 6 = .ok (.invokestatic 111, 3) := by decide +kernel
theorem dX10_meets_9 : decode cX10_meets 9 = .ok (.istore 4, 2) := by decide +kernel
theorem dX10_meets_11 : decode cX10_meets 11 = .ok (.aload_n 0, 1) := by decide +kernel
theorem dX10_meets_12 : decode cX10_meets 12 = .ok (.getfield 20, 3) := by decide +kernel
theorem dX10_meets_15 : decode cX10_meets 15 = .ok (.iload_n 3, 1) := by decide +kernel
theorem dX10_meets_16 : decode cX10_meets 16 = .ok (.iconst 1, 1) := by decide +kernel
theorem dX10_meets_17 : decode cX10_meets 17 = .ok (.iadd, 1) := by decide +kernel
theorem dX10_meets_18 : decode cX10_meets 18 = .ok (.iaload, 1) := by decide +kernel
theorem dX10_meets_19 : decode cX10_meets 19 = .ok (.ifCond .ne 10, 3) := by decide +kernel
theorem dX10_meets_22 : decode cX10_meets 22 = .ok (.aload_n 0, 1) := by decide +kernel
theorem dX10_meets_23 : decode cX10_meets 23 = .ok (.iload_n 1, 1) := by decide +kernel
theorem dX10_meets_24 : decode cX10_meets 24 = .ok (.iload_n 2, 1) := by decide +kernel
theorem dX10_meets_25 : decode cX10_meets 25 = .ok (.invokevirtual 114, 3) := by decide +kernel
theorem dX10_meets_28 : decode cX10_meets 28 = .ok (.return_, 1) := by decide +kernel
theorem dX10_meets_29 : decode cX10_meets 29 = .ok (.iload 4, 2) := by decide +kernel
theorem dX10_meets_31 : decode cX10_meets 31 = .ok (.bipush 9, 2) := by decide +kernel
theorem dX10_meets_33 : decode cX10_meets 33 = .ok (.iadd, 1) := by decide +kernel
theorem dX10_meets_34 : decode cX10_meets 34 = .ok (.aload_n 0, 1) := by decide +kernel
theorem dX10_meets_35 : decode cX10_meets 35 = .ok (.getfield 20, 3) := by decide +kernel
theorem dX10_meets_38 : decode cX10_meets 38 = .ok (.iload 4, 2) := by decide +kernel
theorem dX10_meets_40 : decode cX10_meets 40 = .ok (.iconst 2, 1) := by decide +kernel
theorem dX10_meets_41 : decode cX10_meets 41 = .ok (.iadd, 1) := by decide +kernel
theorem dX10_meets_42 : decode cX10_meets 42 = .ok (.iaload, 1) := by decide +kernel
theorem dX10_meets_43 : decode cX10_meets 43 = .ok (.iadd, 1) := by decide +kernel
theorem dX10_meets_44 : decode cX10_meets 44 = .ok (.iconst 1, 1) := by decide +kernel
theorem dX10_meets_45 : decode cX10_meets 45 = .ok (.isub, 1) := by decide +kernel
theorem dX10_meets_46 : decode cX10_meets 46 = .ok (.istore 5, 2) := by decide +kernel
theorem dX10_meets_48 : decode cX10_meets 48 = .ok (.aload_n 0, 1) := by decide +kernel
theorem dX10_meets_49 : decode cX10_meets 49 = .ok (.getfield 20, 3) := by decide +kernel
theorem dX10_meets_52 : decode cX10_meets 52 = .ok (.iload 4, 2) := by decide +kernel
theorem dX10_meets_54 : decode cX10_meets 54 = .ok (.iconst 2, 1) := by decide +kernel
theorem dX10_meets_55 : decode cX10_meets 55 = .ok (.iadd, 1) := by decide +kernel
theorem dX10_meets_56 : decode cX10_meets 56 = .ok (.iaload, 1) := by decide +kernel
theorem dX10_meets_57 : decode cX10_meets 57 = .ok (.ifCond .eq 26, 3) := by decide +kernel
theorem dX10_meets_60 : decode cX10_meets 60 = .ok (.aload_n 0, 1) := by decide +kernel
theorem dX10_meets_61 : decode cX10_meets 61 = .ok (.getfield 20, 3) := by decide +kernel
theorem dX10_meets_64 : decode cX10_meets 64 = .ok (.iload 5, 2) := by decide +kernel
theorem dX10_meets_66 : decode cX10_meets 66 = .ok (.iaload, 1) := by decide +kernel
theorem dX10_meets_67 : decode cX10_meets 67 = .ok (.ifCond .gt 16, 3) := by decide +kernel
theorem dX10_meets_70 : decode cX10_meets 70 = .ok (.aload_n 0, 1) := by decide +kernel
theorem dX10_meets_71 : decode cX10_meets 71 = .ok (.getfield 20, 3) := by decide +kernel
theorem dX10_meets_74 : decode cX10_meets 74 = .ok (.iload_n 3, 1) := by decide +kernel
theorem dX10_meets_75 : decode cX10_meets 75 = .ok (.bipush 6, 2) := by decide +kernel
theorem dX10_meets_77 : decode cX10_meets 77 = .ok (.iadd, 1) := by decide +kernel
theorem dX10_meets_78 : decode cX10_meets 78 = .ok (.iaload, 1) := by decide +kernel
theorem dX10_meets_79 : decode cX10_meets 79 = .ok (.iconst 3, 1) := by decide +kernel
theorem dX10_meets_80 : decode cX10_meets 80 = .ok (.if_icmp .ne 18, 3) := by decide +kernel
theorem dX10_meets_83 : decode cX10_meets 83 = .ok (.aload_n 0, 1) := by decide +kernel
theorem dX10_meets_84 : decode cX10_meets 84 = .ok (.getfield 20, 3) := by decide +kernel
theorem dX10_meets_87 : decode cX10_meets 87 = .ok (.iload_n 3, 1) := by decide +kernel
theorem dX10_meets_88 : decode cX10_meets 88 = .ok (.iconst 5, 1) := by decide +kernel
theorem dX10_meets_89 : decode cX10_meets 89 = .ok (.iadd, 1) := by decide +kernel
theorem dX10_meets_90 : decode cX10_meets 90 = .ok (.dup2, 1) := by decide +kernel
theorem dX10_meets_91 : decode cX10_meets 91 = .ok (.iaload, 1) := by decide +kernel
theorem dX10_meets_92 : decode cX10_meets 92 = .ok (.iconst 1, 1) := by decide +kernel
theorem dX10_meets_93 : decode cX10_meets 93 = .ok (.iadd, 1) := by decide +kernel
theorem dX10_meets_94 : decode cX10_meets 94 = .ok (.iastore, 1) := by decide +kernel
theorem dX10_meets_95 : decode cX10_meets 95 = .ok (.goto 26, 3) := by decide +kernel
theorem dX10_meets_98 : decode cX10_meets 98 = .ok (.aload_n 0, 1) := by decide +kernel
theorem dX10_meets_99 : decode cX10_meets 99 = .ok (.getfield 20, 3) := by decide +kernel
theorem dX10_meets_102 : decode cX10_meets 102 = .ok (.iload 5, 2) := by decide +kernel
theorem dX10_meets_104 : decode cX10_meets 104 = .ok (.iload_n 1, 1) := by decide +kernel
theorem dX10_meets_105 : decode cX10_meets 105 = .ok (.iconst 1, 1) := by decide +kernel
theorem dX10_meets_106 : decode cX10_meets 106 = .ok (.iadd, 1) := by decide +kernel
theorem dX10_meets_107 : decode cX10_meets 107 = .ok (.iastore, 1) := by decide +kernel
theorem dX10_meets_108 : decode cX10_meets 108 = .ok (.aload_n 0, 1) := by decide +kernel
theorem dX10_meets_109 : decode cX10_meets 109 = .ok (.getfield 20, 3) := by decide +kernel
theorem dX10_meets_112 : decode cX10_meets 112 = .ok (.iload_n 3, 1) := by decide +kernel
theorem dX10_meets_113 : decode cX10_meets 113 = .ok (.bipush 6, 2) := by decide +kernel
theorem dX10_meets_115 : decode cX10_meets 115 = .ok (.iadd, 1) := by decide +kernel
theorem dX10_meets_116 : decode cX10_meets 116 = .ok (.dup2, 1) := by decide +kernel
theorem dX10_meets_117 : decode cX10_meets 117 = .ok (.iaload, 1) := by decide +kernel
theorem dX10_meets_118 : decode cX10_meets 118 = .ok (.iconst 1, 1) := by decide +kernel
theorem dX10_meets_119 : decode cX10_meets 119 = .ok (.iadd, 1) := by decide +kernel
theorem dX10_meets_120 : decode cX10_meets 120 = .ok (.iastore, 1) := by decide +kernel
theorem dX10_meets_121 : decode cX10_meets 121 = .ok (.return_, 1) := by decide +kernel
theorem dX10_figures_0 : decode cX10_figures 0 = .ok (.bipush 10, 2) := by decide +kernel
theorem dX10_figures_2 : decode cX10_figures 2 = .ok (.aload_n 0, 1) := by decide +kernel
theorem dX10_figures_3 : decode cX10_figures 3 = .ok (.iload_n 1, 1) := by decide +kernel
theorem dX10_figures_4 : decode cX10_figures 4 = .ok (.iaload, 1) := by decide +kernel
theorem dX10_figures_5 : decode cX10_figures 5 = .ok (.bipush 48, 2) := by decide +kernel
theorem dX10_figures_7 : decode cX10_figures 7 = .ok (.isub, 1) := by decide +kernel
theorem dX10_figures_8 : decode cX10_figures 8 = .ok (.imul, 1) := by decide +kernel
theorem dX10_figures_9 : decode cX10_figures 9 = .ok (.aload_n 0, 1) := by decide +kernel
theorem dX10_figures_10 : decode cX10_figures 10 = .ok (.iload_n 1, 1) := by decide +kernel
theorem dX10_figures_11 : decode cX10_figures 11 = .ok (.iconst 1, 1) := by decide +kernel
theorem dX10_figures_12 : decode cX10_figures 12 = .ok (.iadd, 1) := by decide +kernel
theorem dX10_figures_13 : decode cX10_figures 13 = .ok (.iaload, 1) := by decide +kernel
theorem dX10_figures_14 : decode cX10_figures 14 = .ok (.iadd, 1) := by decide +kernel
theorem dX10_figures_15 : decode cX10_figures 15 = .ok (.bipush 48, 2) := by decide +kernel
theorem dX10_figures_17 : decode cX10_figures 17 = .ok (.isub, 1) := by decide +kernel
theorem dX10_figures_18 : decode cX10_figures 18 = .ok (.ireturn, 1) := by decide +kernel
theorem dX10_plain_0 : decode cX10_plain 0 = .ok (.iload_n 3, 1) := by decide +kernel
theorem dX10_plain_1 : decode cX10_plain 1 = .ok (.iconst 1, 1) := by decide +kernel
theorem dX10_plain_2 : decode cX10_plain 2 = .ok (.iadd, 1) := by decide +kernel
theorem dX10_plain_3 : decode cX10_plain 3 = .ok (.aload_n 0, 1) := by decide +kernel
theorem dX10_plain_4 : decode cX10_plain 4 = .ok (.getfield 49, 3) := by decide +kernel
theorem dX10_plain_7 : decode cX10_plain 7 = .ok (.if_icmp .ge 17, 3) := by decide +kernel
theorem dX10_plain_10 : decode cX10_plain 10 = .ok (.aload_n 0, 1) := by decide +kernel
theorem dX10_plain_11 : decode cX10_plain 11 = .ok (.getfield 13, 3) := by decide +kernel
theorem dX10_plain_14 : decode cX10_plain 14 = .ok (.iload_n 3, 1) := by decide +kernel
theorem dX10_plain_15 : decode cX10_plain 15 = .ok (.iconst 1, 1) := by decide +kernel
theorem dX10_plain_16 : decode cX10_plain 16 = .ok (.iadd, 1) := by decide +kernel
theorem dX10_plain_17 : decode cX10_plain 17 = .ok (.iaload, 1) := by decide +kernel
theorem dX10_plain_18 : decode cX10_plain 18 = .ok (.bipush 48, 2) := by decide +kernel
theorem dX10_plain_20 : decode cX10_plain 20 = .ok (.isub, 1) := by decide +kernel
theorem dX10_plain_21 : decode cX10_plain 21 = .ok (.goto 4, 3) := by decide +kernel
theorem dX10_plain_24 : decode cX10_plain 24 = .ok (.iconst 0, 1) := by decide +kernel
theorem dX10_plain_25 : decode cX10_plain 25 = .ok (.istore 4, 2) := by decide +kernel
theorem dX10_plain_27 : decode cX10_plain 27 = .ok (.aload_n 0, 1) := by decide +kernel
theorem dX10_plain_28 : decode cX10_plain 28 = .ok (.getfield 13, 3) := by decide +kernel
theorem dX10_plain_31 : decode cX10_plain 31 = .ok (.iload_n 3, 1) := by decide +kernel
theorem dX10_plain_32 : decode cX10_plain 32 = .ok (.iaload, 1) := by decide +kernel
theorem dX10_plain_33 : decode cX10_plain 33 = .ok (.tableswitch 216 100 122 #[123, 216, 216, 216, 216, 107, 205, 216, 141, 216, 216, 216, 163, 216, 216, 152, 216, 216, 216, 216, 216, 216, 182], 107) := by decide +kernel
theorem dX10_plain_140 : decode cX10_plain 140 = .ok (.aload_n 1, 1) := by decide +kernel
theorem dX10_plain_141 : decode cX10_plain 141 = .ok (.iload_n 2, 1) := by decide +kernel
theorem dX10_plain_142 : decode cX10_plain 142 = .ok (.aload_n 1, 1) := by decide +kernel
theorem dX10_plain_143 : decode cX10_plain 143 = .ok (.iload_n 2, 1) := by decide +kernel
theorem dX10_plain_144 : decode cX10_plain 144 = .ok (.iaload, 1) := by decide +kernel
theorem dX10_plain_145 : decode cX10_plain 145 = .ok (.iconst 1, 1) := by decide +kernel
theorem dX10_plain_146 : decode cX10_plain 146 = .ok (.iadd, 1) := by decide +kernel
theorem dX10_plain_147 : decode cX10_plain 147 = .ok (.sipush 1000, 3) := by decide +kernel
theorem dX10_plain_150 : decode cX10_plain 150 = .ok (.irem, 1) := by decide +kernel
theorem dX10_plain_151 : decode cX10_plain 151 = .ok (.iastore, 1) := by decide +kernel
theorem dX10_plain_152 : decode cX10_plain 152 = .ok (.iload_n 3, 1) := by decide +kernel
theorem dX10_plain_153 : decode cX10_plain 153 = .ok (.iconst 1, 1) := by decide +kernel
theorem dX10_plain_154 : decode cX10_plain 154 = .ok (.iadd, 1) := by decide +kernel
theorem dX10_plain_155 : decode cX10_plain 155 = .ok (.ireturn, 1) := by decide +kernel
theorem dX10_plain_156 : decode cX10_plain 156 = .ok (.aload_n 1, 1) := by decide +kernel
theorem dX10_plain_157 : decode cX10_plain 157 = .ok (.iload_n 2, 1) := by decide +kernel
theorem dX10_plain_158 : decode cX10_plain 158 = .ok (.aload_n 1, 1) := by decide +kernel
theorem dX10_plain_159 : decode cX10_plain 159 = .ok (.iload_n 2, 1) := by decide +kernel
theorem dX10_plain_160 : decode cX10_plain 160 = .ok (.iaload, 1) := by decide +kernel
theorem dX10_plain_161 : decode cX10_plain 161 = .ok (.sipush 999, 3) := by decide +kernel
theorem dX10_plain_164 : decode cX10_plain 164 = .ok (.iadd, 1) := by decide +kernel
theorem dX10_plain_165 : decode cX10_plain 165 = .ok (.sipush 1000, 3) := by decide +kernel
theorem dX10_plain_168 : decode cX10_plain 168 = .ok (.irem, 1) := by decide +kernel
theorem dX10_plain_169 : decode cX10_plain 169 = .ok (.iastore, 1) := by decide +kernel
theorem dX10_plain_170 : decode cX10_plain 170 = .ok (.iload_n 3, 1) := by decide +kernel
theorem dX10_plain_171 : decode cX10_plain 171 = .ok (.iconst 1, 1) := by decide +kernel
theorem dX10_plain_172 : decode cX10_plain 172 = .ok (.iadd, 1) := by decide +kernel
theorem dX10_plain_173 : decode cX10_plain 173 = .ok (.ireturn, 1) := by decide +kernel
theorem dX10_plain_174 : decode cX10_plain 174 = .ok (.aload_n 1, 1) := by decide +kernel
theorem dX10_plain_175 : decode cX10_plain 175 = .ok (.iload_n 2, 1) := by decide +kernel
theorem dX10_plain_176 : decode cX10_plain 176 = .ok (.aload_n 1, 1) := by decide +kernel
theorem dX10_plain_177 : decode cX10_plain 177 = .ok (.iload 4, 2) := by decide +kernel
theorem dX10_plain_179 : decode cX10_plain 179 = .ok (.iaload, 1) := by decide +kernel
theorem dX10_plain_180 : decode cX10_plain 180 = .ok (.iastore, 1) := by decide +kernel
theorem dX10_plain_181 : decode cX10_plain 181 = .ok (.iload_n 3, 1) := by decide +kernel
theorem dX10_plain_182 : decode cX10_plain 182 = .ok (.iconst 2, 1) := by decide +kernel
theorem dX10_plain_183 : decode cX10_plain 183 = .ok (.iadd, 1) := by decide +kernel
theorem dX10_plain_184 : decode cX10_plain 184 = .ok (.ireturn, 1) := by decide +kernel
theorem dX10_plain_185 : decode cX10_plain 185 = .ok (.aload_n 1, 1) := by decide +kernel
theorem dX10_plain_186 : decode cX10_plain 186 = .ok (.iload 4, 2) := by decide +kernel
theorem dX10_plain_188 : decode cX10_plain 188 = .ok (.aload_n 1, 1) := by decide +kernel
theorem dX10_plain_189 : decode cX10_plain 189 = .ok (.iload_n 2, 1) := by decide +kernel
theorem dX10_plain_190 : decode cX10_plain 190 = .ok (.iaload, 1) := by decide +kernel
theorem dX10_plain_191 : decode cX10_plain 191 = .ok (.iastore, 1) := by decide +kernel
theorem dX10_plain_192 : decode cX10_plain 192 = .ok (.iload_n 3, 1) := by decide +kernel
theorem dX10_plain_193 : decode cX10_plain 193 = .ok (.iconst 2, 1) := by decide +kernel
theorem dX10_plain_194 : decode cX10_plain 194 = .ok (.iadd, 1) := by decide +kernel
theorem dX10_plain_195 : decode cX10_plain 195 = .ok (.ireturn, 1) := by decide +kernel
theorem dX10_plain_196 : decode cX10_plain 196 = .ok (.aload_n 1, 1) := by decide +kernel
theorem dX10_plain_197 : decode cX10_plain 197 = .ok (.iload_n 2, 1) := by decide +kernel
theorem dX10_plain_198 : decode cX10_plain 198 = .ok (.aload_n 1, 1) := by decide +kernel
theorem dX10_plain_199 : decode cX10_plain 199 = .ok (.iload_n 2, 1) := by decide +kernel
theorem dX10_plain_200 : decode cX10_plain 200 = .ok (.iaload, 1) := by decide +kernel
theorem dX10_plain_201 : decode cX10_plain 201 = .ok (.aload_n 1, 1) := by decide +kernel
theorem dX10_plain_202 : decode cX10_plain 202 = .ok (.iload 4, 2) := by decide +kernel
theorem dX10_plain_204 : decode cX10_plain 204 = .ok (.iaload, 1) := by decide +kernel
theorem dX10_plain_205 : decode cX10_plain 205 = .ok (.iadd, 1) := by decide +kernel
theorem dX10_plain_206 : decode cX10_plain 206 = .ok (.sipush 1000, 3) := by decide +kernel
theorem dX10_plain_209 : decode cX10_plain 209 = .ok (.irem, 1) := by decide +kernel
theorem dX10_plain_210 : decode cX10_plain 210 = .ok (.iastore, 1) := by decide +kernel
theorem dX10_plain_211 : decode cX10_plain 211 = .ok (.iload_n 3, 1) := by decide +kernel
theorem dX10_plain_212 : decode cX10_plain 212 = .ok (.iconst 2, 1) := by decide +kernel
theorem dX10_plain_213 : decode cX10_plain 213 = .ok (.iadd, 1) := by decide +kernel
theorem dX10_plain_214 : decode cX10_plain 214 = .ok (.ireturn, 1) := by decide +kernel
theorem dX10_plain_215 : decode cX10_plain 215 = .ok (.aload_n 1, 1) := by decide +kernel
theorem dX10_plain_216 : decode cX10_plain 216 = .ok (.iload_n 2, 1) := by decide +kernel
theorem dX10_plain_217 : decode cX10_plain 217 = .ok (.iaload, 1) := by decide +kernel
theorem dX10_plain_218 : decode cX10_plain 218 = .ok (.ifCond .ne 16, 3) := by decide +kernel
theorem dX10_plain_221 : decode cX10_plain 221 = .ok (.aload_n 0, 1) := by decide +kernel
theorem dX10_plain_222 : decode cX10_plain 222 = .ok (.getfield 13, 3) := by decide +kernel
theorem dX10_plain_225 : decode cX10_plain 225 = .ok (.iload_n 3, 1) := by decide +kernel
theorem dX10_plain_226 : decode cX10_plain 226 = .ok (.iconst 1, 1) := by decide +kernel
theorem dX10_plain_227 : decode cX10_plain 227 = .ok (.iadd, 1) := by decide +kernel
theorem dX10_plain_228 : decode cX10_plain 228 = .ok (.invokestatic 117, 3) := by decide +kernel
theorem dX10_plain_231 : decode cX10_plain 231 = .ok (.goto 6, 3) := by decide +kernel
theorem dX10_plain_234 : decode cX10_plain 234 = .ok (.iload_n 3, 1) := by decide +kernel
theorem dX10_plain_235 : decode cX10_plain 235 = .ok (.iconst 3, 1) := by decide +kernel
theorem dX10_plain_236 : decode cX10_plain 236 = .ok (.iadd, 1) := by decide +kernel
theorem dX10_plain_237 : decode cX10_plain 237 = .ok (.ireturn, 1) := by decide +kernel
theorem dX10_plain_238 : decode cX10_plain 238 = .ok (.aload_n 0, 1) := by decide +kernel
theorem dX10_plain_239 : decode cX10_plain 239 = .ok (.getfield 13, 3) := by decide +kernel
theorem dX10_plain_242 : decode cX10_plain 242 = .ok (.iload_n 3, 1) := by decide +kernel
theorem dX10_plain_243 : decode cX10_plain 243 = .ok (.iconst 1, 1) := by decide +kernel
theorem dX10_plain_244 : decode cX10_plain 244 = .ok (.iadd, 1) := by decide +kernel
theorem dX10_plain_245 : decode cX10_plain 245 = .ok (.invokestatic 117, 3) := by decide +kernel
theorem dX10_plain_248 : decode cX10_plain 248 = .ok (.ireturn, 1) := by decide +kernel
theorem dX10_plain_249 : decode cX10_plain 249 = .ok (.iload_n 3, 1) := by decide +kernel
theorem dX10_plain_250 : decode cX10_plain 250 = .ok (.ireturn, 1) := by decide +kernel
theorem dX10_turns_0 : decode cX10_turns 0 = .ok (.aload_n 1, 1) := by decide +kernel
theorem dX10_turns_1 : decode cX10_turns 1 = .ok (.iload_n 2, 1) := by decide +kernel
theorem dX10_turns_2 : decode cX10_turns 2 = .ok (.iconst 2, 1) := by decide +kernel
theorem dX10_turns_3 : decode cX10_turns 3 = .ok (.iadd, 1) := by decide +kernel
theorem dX10_turns_4 : decode cX10_turns 4 = .ok (.iaload, 1) := by decide +kernel
theorem dX10_turns_5 : decode cX10_turns 5 = .ok (.istore 4, 2) := by decide +kernel
theorem dX10_turns_7 : decode cX10_turns 7 = .ok (.aload_n 0, 1) := by decide +kernel
theorem dX10_turns_8 : decode cX10_turns 8 = .ok (.getfield 13, 3) := by decide +kernel
theorem dX10_turns_11 : decode cX10_turns 11 = .ok (.iload_n 3, 1) := by decide +kernel
theorem dX10_turns_12 : decode cX10_turns 12 = .ok (.iaload, 1) := by decide +kernel
theorem dX10_turns_13 : decode cX10_turns 13 = .ok (.lookupswitch 135 #[(99, 35), (104, 126), (114, 92)], 35) := by decide +kernel
theorem dX10_turns_48 : decode cX10_turns 48 = .ok (.iload 4, 2) := by decide +kernel
theorem dX10_turns_50 : decode cX10_turns 50 = .ok (.bipush 6, 2) := by decide +kernel
theorem dX10_turns_52 : decode cX10_turns 52 = .ok (.if_icmp .ne 12, 3) := by decide +kernel
theorem dX10_turns_55 : decode cX10_turns 55 = .ok (.aload_n 1, 1) := by decide +kernel
theorem dX10_turns_56 : decode cX10_turns 56 = .ok (.iload_n 2, 1) := by decide +kernel
theorem dX10_turns_57 : decode cX10_turns 57 = .ok (.bipush 15, 2) := by decide +kernel
theorem dX10_turns_59 : decode cX10_turns 59 = .ok (.iadd, 1) := by decide +kernel
theorem dX10_turns_60 : decode cX10_turns 60 = .ok (.iconst 1, 1) := by decide +kernel
theorem dX10_turns_61 : decode cX10_turns 61 = .ok (.iastore, 1) := by decide +kernel
theorem dX10_turns_62 : decode cX10_turns 62 = .ok (.iload_n 3, 1) := by decide +kernel
theorem dX10_turns_63 : decode cX10_turns 63 = .ok (.ireturn, 1) := by decide +kernel
theorem dX10_turns_64 : decode cX10_turns 64 = .ok (.aload_n 1, 1) := by decide +kernel
theorem dX10_turns_65 : decode cX10_turns 65 = .ok (.iload_n 2, 1) := by decide +kernel
theorem dX10_turns_66 : decode cX10_turns 66 = .ok (.iconst 3, 1) := by decide +kernel
theorem dX10_turns_67 : decode cX10_turns 67 = .ok (.iadd, 1) := by decide +kernel
theorem dX10_turns_68 : decode cX10_turns 68 = .ok (.iload 4, 2) := by decide +kernel
theorem dX10_turns_70 : decode cX10_turns 70 = .ok (.iadd, 1) := by decide +kernel
theorem dX10_turns_71 : decode cX10_turns 71 = .ok (.iload_n 3, 1) := by decide +kernel
theorem dX10_turns_72 : decode cX10_turns 72 = .ok (.iconst 3, 1) := by decide +kernel
theorem dX10_turns_73 : decode cX10_turns 73 = .ok (.iadd, 1) := by decide +kernel
theorem dX10_turns_74 : decode cX10_turns 74 = .ok (.iastore, 1) := by decide +kernel
theorem dX10_turns_75 : decode cX10_turns 75 = .ok (.aload_n 1, 1) := by decide +kernel
theorem dX10_turns_76 : decode cX10_turns 76 = .ok (.iload_n 2, 1) := by decide +kernel
theorem dX10_turns_77 : decode cX10_turns 77 = .ok (.bipush 9, 2) := by decide +kernel
theorem dX10_turns_79 : decode cX10_turns 79 = .ok (.iadd, 1) := by decide +kernel
theorem dX10_turns_80 : decode cX10_turns 80 = .ok (.iload 4, 2) := by decide +kernel
theorem dX10_turns_82 : decode cX10_turns 82 = .ok (.iadd, 1) := by decide +kernel
theorem dX10_turns_83 : decode cX10_turns 83 = .ok (.iconst 0, 1) := by decide +kernel
theorem dX10_turns_84 : decode cX10_turns 84 = .ok (.iastore, 1) := by decide +kernel
theorem dX10_turns_85 : decode cX10_turns 85 = .ok (.aload_n 1, 1) := by decide +kernel
theorem dX10_turns_86 : decode cX10_turns 86 = .ok (.iload_n 2, 1) := by decide +kernel
theorem dX10_turns_87 : decode cX10_turns 87 = .ok (.iconst 2, 1) := by decide +kernel
theorem dX10_turns_88 : decode cX10_turns 88 = .ok (.iadd, 1) := by decide +kernel
theorem dX10_turns_89 : decode cX10_turns 89 = .ok (.dup2, 1) := by decide +kernel
theorem dX10_turns_90 : decode cX10_turns 90 = .ok (.iaload, 1) := by decide +kernel
theorem dX10_turns_91 : decode cX10_turns 91 = .ok (.iconst 1, 1) := by decide +kernel
theorem dX10_turns_92 : decode cX10_turns 92 = .ok (.iadd, 1) := by decide +kernel
theorem dX10_turns_93 : decode cX10_turns 93 = .ok (.iastore, 1) := by decide +kernel
theorem dX10_turns_94 : decode cX10_turns 94 = .ok (.aload_n 0, 1) := by decide +kernel
theorem dX10_turns_95 : decode cX10_turns 95 = .ok (.getfield 13, 3) := by decide +kernel
theorem dX10_turns_98 : decode cX10_turns 98 = .ok (.iload_n 3, 1) := by decide +kernel
theorem dX10_turns_99 : decode cX10_turns 99 = .ok (.iconst 1, 1) := by decide +kernel
theorem dX10_turns_100 : decode cX10_turns 100 = .ok (.iadd, 1) := by decide +kernel
theorem dX10_turns_101 : decode cX10_turns 101 = .ok (.invokestatic 117, 3) := by decide +kernel
theorem dX10_turns_104 : decode cX10_turns 104 = .ok (.ireturn, 1) := by decide +kernel
theorem dX10_turns_105 : decode cX10_turns 105 = .ok (.iload 4, 2) := by decide +kernel
theorem dX10_turns_107 : decode cX10_turns 107 = .ok (.ifCond .ne 12, 3) := by decide +kernel
theorem dX10_turns_110 : decode cX10_turns 110 = .ok (.aload_n 1, 1) := by decide +kernel
theorem dX10_turns_111 : decode cX10_turns 111 = .ok (.iload_n 2, 1) := by decide +kernel
theorem dX10_turns_112 : decode cX10_turns 112 = .ok (.bipush 15, 2) := by decide +kernel
theorem dX10_turns_114 : decode cX10_turns 114 = .ok (.iadd, 1) := by decide +kernel
theorem dX10_turns_115 : decode cX10_turns 115 = .ok (.iconst 1, 1) := by decide +kernel
theorem dX10_turns_116 : decode cX10_turns 116 = .ok (.iastore, 1) := by decide +kernel
theorem dX10_turns_117 : decode cX10_turns 117 = .ok (.iload_n 3, 1) := by decide +kernel
theorem dX10_turns_118 : decode cX10_turns 118 = .ok (.ireturn, 1) := by decide +kernel
theorem dX10_turns_119 : decode cX10_turns 119 = .ok (.aload_n 1, 1) := by decide +kernel
theorem dX10_turns_120 : decode cX10_turns 120 = .ok (.iload_n 2, 1) := by decide +kernel
theorem dX10_turns_121 : decode cX10_turns 121 = .ok (.iconst 2, 1) := by decide +kernel
theorem dX10_turns_122 : decode cX10_turns 122 = .ok (.iadd, 1) := by decide +kernel
theorem dX10_turns_123 : decode cX10_turns 123 = .ok (.dup2, 1) := by decide +kernel
theorem dX10_turns_124 : decode cX10_turns 124 = .ok (.iaload, 1) := by decide +kernel
theorem dX10_turns_125 : decode cX10_turns 125 = .ok (.iconst 1, 1) := by decide +kernel
theorem dX10_turns_126 : decode cX10_turns 126 = .ok (.isub, 1) := by decide +kernel
theorem dX10_turns_127 : decode cX10_turns 127 = .ok (.iastore, 1) := by decide +kernel
theorem dX10_turns_128 : decode cX10_turns 128 = .ok (.aload_n 1, 1) := by decide +kernel
theorem dX10_turns_129 : decode cX10_turns 129 = .ok (.iload_n 2, 1) := by decide +kernel
theorem dX10_turns_130 : decode cX10_turns 130 = .ok (.iconst 3, 1) := by decide +kernel
theorem dX10_turns_131 : decode cX10_turns 131 = .ok (.iadd, 1) := by decide +kernel
theorem dX10_turns_132 : decode cX10_turns 132 = .ok (.iload 4, 2) := by decide +kernel
theorem dX10_turns_134 : decode cX10_turns 134 = .ok (.iadd, 1) := by decide +kernel
theorem dX10_turns_135 : decode cX10_turns 135 = .ok (.iconst 1, 1) := by decide +kernel
