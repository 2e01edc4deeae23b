theorem dX4_isBehind_21 : decode cX4_isBehind 21 = .ok (.goto 4, 3) := by decide +kernel
theorem dX4_isBehind_24 : decode cX4_isBehind 24 = .ok (.iconst 0, 1) := by decide +kernel
theorem dX4_isBehind_25 : decode cX4_isBehind 25 = .ok (.ireturn, 1) := by decide +kernel
theorem dX4_isBehind_26 : decode cX4_isBehind 26 = .ok (.aload_n 0, 1) := by decide +kernel
theorem dX4_isBehind_27 : decode cX4_isBehind 27 = .ok (.getfield 28, 3) := by decide +kernel
theorem dX4_isBehind_30 : decode cX4_isBehind 30 = .ok (.iload_n 1, 1) := by decide +kernel
theorem dX4_isBehind_31 : decode cX4_isBehind 31 = .ok (.iaload, 1) := by decide +kernel
theorem dX4_isBehind_32 : decode cX4_isBehind 32 = .ok (.iload_n 2, 1) := by decide +kernel
theorem dX4_isBehind_33 : decode cX4_isBehind 33 = .ok (.if_icmp .eq 21, 3) := by decide +kernel
theorem dX4_isBehind_36 : decode cX4_isBehind 36 = .ok (.aload_n 0, 1) := by decide +kernel
theorem dX4_isBehind_37 : decode cX4_isBehind 37 = .ok (.getfield 28, 3) := by decide +kernel
theorem dX4_isBehind_40 : decode cX4_isBehind 40 = .ok (.iload_n 1, 1) := by decide +kernel
theorem dX4_isBehind_41 : decode cX4_isBehind 41 = .ok (.iaload, 1) := by decide +kernel
theorem dX4_isBehind_42 : decode cX4_isBehind 42 = .ok (.iload_n 2, 1) := by decide +kernel
theorem dX4_isBehind_43 : decode cX4_isBehind 43 = .ok (.if_icmp .le 7, 3) := by decide +kernel
theorem dX4_isBehind_46 : decode cX4_isBehind 46 = .ok (.iconst 1, 1) := by decide +kernel
theorem dX4_isBehind_47 : decode cX4_isBehind 47 = .ok (.goto 23, 3) := by decide +kernel
theorem dX4_isBehind_50 : decode cX4_isBehind 50 = .ok (.iconst 0, 1) := by decide +kernel
theorem dX4_isBehind_51 : decode cX4_isBehind 51 = .ok (.goto 19, 3) := by decide +kernel
theorem dX4_isBehind_54 : decode cX4_isBehind 54 = .ok (.aload_n 0, 1) := by decide +kernel
theorem dX4_isBehind_55 : decode cX4_isBehind 55 = .ok (.getfield 34, 3) := by decide +kernel
theorem dX4_isBehind_58 : decode cX4_isBehind 58 = .ok (.iload_n 1, 1) := by decide +kernel
theorem dX4_isBehind_59 : decode cX4_isBehind 59 = .ok (.iaload, 1) := by decide +kernel
theorem dX4_isBehind_60 : decode cX4_isBehind 60 = .ok (.iload 4, 2) := by decide +kernel
theorem dX4_isBehind_62 : decode cX4_isBehind 62 = .ok (.if_icmp .le 7, 3) := by decide +kernel
theorem dX4_isBehind_65 : decode cX4_isBehind 65 = .ok (.iconst 1, 1) := by decide +kernel
theorem dX4_isBehind_66 : decode cX4_isBehind 66 = .ok (.goto 4, 3) := by decide +kernel
theorem dX4_isBehind_69 : decode cX4_isBehind 69 = .ok (.iconst 0, 1) := by decide +kernel
theorem dX4_isBehind_70 : decode cX4_isBehind 70 = .ok (.ireturn, 1) := by decide +kernel
theorem dX4_pulse_0 : decode cX4_pulse 0 = .ok (.iload_n 1, 1) := by decide +kernel
theorem dX4_pulse_1 : decode cX4_pulse 1 = .ok (.invokestatic 68, 3) := by decide +kernel
theorem dX4_pulse_4 : decode cX4_pulse 4 = .ok (.ifCond .ne 5, 3) := by decide +kernel
theorem dX4_pulse_7 : decode cX4_pulse 7 = .ok (.iconst (-1), 1) := by decide +kernel
theorem dX4_pulse_8 : decode cX4_pulse 8 = .ok (.ireturn, 1) := by decide +kernel
theorem dX4_pulse_9 : decode cX4_pulse 9 = .ok (.iload_n 2, 1) := by decide +kernel
theorem dX4_pulse_10 : decode cX4_pulse 10 = .ok (.iconst 0, 1) := by decide +kernel
theorem dX4_pulse_11 : decode cX4_pulse 11 = .ok (.sipush 9999, 3) := by decide +kernel
theorem dX4_pulse_14 : decode cX4_pulse 14 = .ok (.invokestatic 56, 3) := by decide +kernel
theorem dX4_pulse_17 : decode cX4_pulse 17 = .ok (.ifCond .eq 13, 3) := by decide +kernel
theorem dX4_pulse_20 : decode cX4_pulse 20 = .ok (.iload_n 3, 1) := by decide +kernel
theorem dX4_pulse_21 : decode cX4_pulse 21 = .ok (.iconst 0, 1) := by decide +kernel
theorem dX4_pulse_22 : decode cX4_pulse 22 = .ok (.bipush 15, 2) := by decide +kernel
theorem dX4_pulse_24 : decode cX4_pulse 24 = .ok (.invokestatic 56, 3) := by decide +kernel
theorem dX4_pulse_27 : decode cX4_pulse 27 = .ok (.ifCond .ne 6, 3) := by decide +kernel
theorem dX4_pulse_30 : decode cX4_pulse 30 = .ok (.bipush (-2), 2) := by decide +kernel
theorem dX4_pulse_32 : decode cX4_pulse 32 = .ok (.ireturn, 1) := by decide +kernel
theorem dX4_pulse_33 : decode cX4_pulse 33 = .ok (.aload_n 0, 1) := by decide +kernel
theorem dX4_pulse_34 : decode cX4_pulse 34 = .ok (.getfield 64, 3) := by decide +kernel
theorem dX4_pulse_37 : decode cX4_pulse 37 = .ok (.ifCond .eq 6, 3) := by decide +kernel
theorem dX4_pulse_40 : decode cX4_pulse 40 = .ok (.bipush (-3), 2) := by decide +kernel
theorem dX4_pulse_42 : decode cX4_pulse 42 = .ok (.ireturn, 1) := by decide +kernel
theorem dX4_pulse_43 : decode cX4_pulse 43 = .ok (.iload_n 2, 1) := by decide +kernel
theorem dX4_pulse_44 : decode cX4_pulse 44 = .ok (.aload_n 0, 1) := by decide +kernel
theorem dX4_pulse_45 : decode cX4_pulse 45 = .ok (.invokevirtual 76, 3) := by decide +kernel
theorem dX4_pulse_48 : decode cX4_pulse 48 = .ok (.if_icmp .ge 15, 3) := by decide +kernel
theorem dX4_pulse_51 : decode cX4_pulse 51 = .ok (.aload_n 0, 1) := by decide +kernel
theorem dX4_pulse_52 : decode cX4_pulse 52 = .ok (.dup, 1) := by decide +kernel
theorem dX4_pulse_53 : decode cX4_pulse 53 = .ok (.getfield 80, 3) := by decide +kernel
theorem dX4_pulse_56 : decode cX4_pulse 56 = .ok (.iconst 1, 1) := by decide +kernel
theorem dX4_pulse_57 : decode cX4_pulse 57 = .ok (.iadd, 1) := by decide +kernel
theorem dX4_pulse_58 : decode cX4_pulse 58 = .ok (.putfield 80, 3) := by decide +kernel
theorem dX4_pulse_61 : decode cX4_pulse 61 = .ok (.iconst 0, 1) := by decide +kernel
theorem dX4_pulse_62 : decode cX4_pulse 62 = .ok (.ireturn, 1) := by decide +kernel
theorem dX4_pulse_63 : decode cX4_pulse 63 = .ok (.aload_n 0, 1) := by decide +kernel
theorem dX4_pulse_64 : decode cX4_pulse 64 = .ok (.getfield 60, 3) := by decide +kernel
theorem dX4_pulse_67 : decode cX4_pulse 67 = .ok (.sipush 240, 3) := by decide +kernel
theorem dX4_pulse_70 : decode cX4_pulse 70 = .ok (.if_icmp .ne 6, 3) := by decide +kernel
theorem dX4_pulse_73 : decode cX4_pulse 73 = .ok (.bipush (-4), 2) := by decide +kernel
theorem dX4_pulse_75 : decode cX4_pulse 75 = .ok (.ireturn, 1) := by decide +kernel
theorem dX4_pulse_76 : decode cX4_pulse 76 = .ok (.aload_n 0, 1) := by decide +kernel
theorem dX4_pulse_77 : decode cX4_pulse 77 = .ok (.getfield 60, 3) := by decide +kernel
theorem dX4_pulse_80 : decode cX4_pulse 80 = .ok (.istore 4, 2) := by decide +kernel
theorem dX4_pulse_82 : decode cX4_pulse 82 = .ok (.iload 4, 2) := by decide +kernel
theorem dX4_pulse_84 : decode cX4_pulse 84 = .ok (.ifCond .le 71, 3) := by decide +kernel
theorem dX4_pulse_87 : decode cX4_pulse 87 = .ok (.aload_n 0, 1) := by decide +kernel
theorem dX4_pulse_88 : decode cX4_pulse 88 = .ok (.iload 4, 2) := by decide +kernel
theorem dX4_pulse_90 : decode cX4_pulse 90 = .ok (.iconst 1, 1) := by decide +kernel
theorem dX4_pulse_91 : decode cX4_pulse 91 = .ok (.isub, 1) := by decide +kernel
theorem dX4_pulse_92 : decode cX4_pulse 92 = .ok (.iload_n 1, 1) := by decide +kernel
theorem dX4_pulse_93 : decode cX4_pulse 93 = .ok (.iload_n 2, 1) := by decide +kernel
theorem dX4_pulse_94 : decode cX4_pulse 94 = .ok (.iload_n 3, 1) := by decide +kernel
theorem dX4_pulse_95 : decode cX4_pulse 95 = .ok (.invokevirtual 83, 3) := by decide +kernel
theorem dX4_pulse_98 : decode cX4_pulse 98 = .ok (.ifCond .eq 57, 3) := by decide +kernel
theorem dX4_pulse_101 : decode cX4_pulse 101 = .ok (.aload_n 0, 1) := by decide +kernel
theorem dX4_pulse_102 : decode cX4_pulse 102 = .ok (.getfield 28, 3) := by decide +kernel
theorem dX4_pulse_105 : decode cX4_pulse 105 = .ok (.iload 4, 2) := by decide +kernel
theorem dX4_pulse_107 : decode cX4_pulse 107 = .ok (.aload_n 0, 1) := by decide +kernel
theorem dX4_pulse_108 : decode cX4_pulse 108 = .ok (.getfield 28, 3) := by decide +kernel
theorem dX4_pulse_111 : decode cX4_pulse 111 = .ok (.iload 4, 2) := by decide +kernel
theorem dX4_pulse_113 : decode cX4_pulse 113 = .ok (.iconst 1, 1) := by decide +kernel
theorem dX4_pulse_114 : decode cX4_pulse 114 = .ok (.isub, 1) := by decide +kernel
theorem dX4_pulse_115 : decode cX4_pulse 115 = .ok (.iaload, 1) := by decide +kernel
theorem dX4_pulse_116 : decode cX4_pulse 116 = .ok (.iastore, 1) := by decide +kernel
theorem dX4_pulse_117 : decode cX4_pulse 117 = .ok (.aload_n 0, 1) := by decide +kernel
theorem dX4_pulse_118 : decode cX4_pulse 118 = .ok (.getfield 31, 3) := by decide +kernel
theorem dX4_pulse_121 : decode cX4_pulse 121 = .ok (.iload 4, 2) := by decide +kernel
theorem dX4_pulse_123 : decode cX4_pulse 123 = .ok (.aload_n 0, 1) := by decide +kernel
theorem dX4_pulse_124 : decode cX4_pulse 124 = .ok (.getfield 31, 3) := by decide +kernel
theorem dX4_pulse_127 : decode cX4_pulse 127 = .ok (.iload 4, 2) := by decide +kernel
theorem dX4_pulse_129 : decode cX4_pulse 129 = .ok (.iconst 1, 1) := by decide +kernel
theorem dX4_pulse_130 : decode cX4_pulse 130 = .ok (.isub, 1) := by decide +kernel
theorem dX4_pulse_131 : decode cX4_pulse 131 = .ok (.iaload, 1) := by decide +kernel
theorem dX4_pulse_132 : decode cX4_pulse 132 = .ok (.iastore, 1) := by decide +kernel
theorem dX4_pulse_133 : decode cX4_pulse 133 = .ok (.aload_n 0, 1) := by decide +kernel
theorem dX4_pulse_134 : decode cX4_pulse 134 = .ok (.getfield 34, 3) := by decide +kernel
theorem dX4_pulse_137 : decode cX4_pulse 137 = .ok (.iload 4, 2) := by decide +kernel
theorem dX4_pulse_139 : decode cX4_pulse 139 = .ok (.aload_n 0, 1) := by decide +kernel
theorem dX4_pulse_140 : decode cX4_pulse 140 = .ok (.getfield 34, 3) := by decide +kernel
theorem dX4_pulse_143 : decode cX4_pulse 143 = .ok (.iload 4, 2) := by decide +kernel
theorem dX4_pulse_145 : decode cX4_pulse 145 = .ok (.iconst 1, 1) := by decide +kernel
theorem dX4_pulse_146 : decode cX4_pulse 146 = .ok (.isub, 1) := by decide +kernel
theorem dX4_pulse_147 : decode cX4_pulse 147 = .ok (.iaload, 1) := by decide +kernel
theorem dX4_pulse_148 : decode cX4_pulse 148 = .ok (.iastore, 1) := by decide +kernel
theorem dX4_pulse_149 : decode cX4_pulse 149 = .ok (.iinc 4 (-1), 3) := by decide +kernel
theorem dX4_pulse_152 : decode cX4_pulse 152 = .ok (.goto (-70), 3) := by decide +kernel
theorem dX4_pulse_155 : decode cX4_pulse 155 = .ok (.aload_n 0, 1) := by decide +kernel
theorem dX4_pulse_156 : decode cX4_pulse 156 = .ok (.getfield 28, 3) := by decide +kernel
theorem dX4_pulse_159 : decode cX4_pulse 159 = .ok (.iload 4, 2) := by decide +kernel
theorem dX4_pulse_161 : decode cX4_pulse 161 = .ok (.iload_n 1, 1) := by decide +kernel
theorem dX4_pulse_162 : decode cX4_pulse 162 = .ok (.iastore, 1) := by decide +kernel
theorem dX4_pulse_163 : decode cX4_pulse 163 = .ok (.aload_n 0, 1) := by decide +kernel
theorem dX4_pulse_164 : decode cX4_pulse 164 = .ok (.getfield 31, 3) := by decide +kernel
theorem dX4_pulse_167 : decode cX4_pulse 167 = .ok (.iload 4, 2) := by decide +kernel
theorem dX4_pulse_169 : decode cX4_pulse 169 = .ok (.iload_n 2, 1) := by decide +kernel
theorem dX4_pulse_170 : decode cX4_pulse 170 = .ok (.iastore, 1) := by decide +kernel
theorem dX4_pulse_171 : decode cX4_pulse 171 = .ok (.aload_n 0, 1) := by decide +kernel
theorem dX4_pulse_172 : decode cX4_pulse 172 = .ok (.getfield 34, 3) := by decide +kernel
theorem dX4_pulse_175 : decode cX4_pulse 175 = .ok (.iload 4, 2) := by decide +kernel
theorem dX4_pulse_177 : decode cX4_pulse 177 = .ok (.iload_n 3, 1) := by decide +kernel
theorem dX4_pulse_178 : decode cX4_pulse 178 = .ok (.iastore, 1) := by decide +kernel
theorem dX4_pulse_179 : decode cX4_pulse 179 = .ok (.aload_n 0, 1) := by decide +kernel
theorem dX4_pulse_180 : decode cX4_pulse 180 = .ok (.dup, 1) := by decide +kernel
theorem dX4_pulse_181 : decode cX4_pulse 181 = .ok (.getfield 60, 3) := by decide +kernel
theorem dX4_pulse_184 : decode cX4_pulse 184 = .ok (.iconst 1, 1) := by decide +kernel
theorem dX4_pulse_185 : decode cX4_pulse 185 = .ok (.iadd, 1) := by decide +kernel
theorem dX4_pulse_186 : decode cX4_pulse 186 = .ok (.putfield 60, 3) := by decide +kernel
theorem dX4_pulse_189 : decode cX4_pulse 189 = .ok (.iconst 1, 1) := by decide +kernel
theorem dX4_pulse_190 : decode cX4_pulse 190 = .ok (.ireturn, 1) := by decide +kernel
theorem dX4_settled_0 : decode cX4_settled 0 = .ok (.iconst 0, 1) := by decide +kernel
theorem dX4_settled_1 : decode cX4_settled 1 = .ok (.istore_n 1, 1) := by decide +kernel
theorem dX4_settled_2 : decode cX4_settled 2 = .ok (.iconst 0, 1) := by decide +kernel
theorem dX4_settled_3 : decode cX4_settled 3 = .ok (.istore_n 2, 1) := by decide +kernel
theorem dX4_settled_4 : decode cX4_settled 4 = .ok (.iload_n 2, 1) := by decide +kernel
theorem dX4_settled_5 : decode cX4_settled 5 = .ok (.aload_n 0, 1) := by decide +kernel
theorem dX4_settled_6 : decode cX4_settled 6 = .ok (.getfield 60, 3) := by decide +kernel
theorem dX4_settled_9 : decode cX4_settled 9 = .ok (.if_icmp .ge 30, 3) := by decide +kernel
theorem dX4_settled_12 : decode cX4_settled 12 = .ok (.iload_n 1, 1) := by decide +kernel
theorem dX4_settled_13 : decode cX4_settled 13 = .ok (.aload_n 0, 1) := by decide +kernel
theorem dX4_settled_14 : decode cX4_settled 14 = .ok (.getfield 31, 3) := by decide +kernel
theorem dX4_settled_17 : decode cX4_settled 17 = .ok (.iload_n 2, 1) := by decide +kernel
theorem dX4_settled_18 : decode cX4_settled 18 = .ok (.iaload, 1) := by decide +kernel
theorem dX4_settled_19 : decode cX4_settled 19 = .ok (.aload_n 0, 1) := by decide +kernel
theorem dX4_settled_20 : decode cX4_settled 20 = .ok (.invokevirtual 76, 3) := by decide +kernel
theorem dX4_settled_23 : decode cX4_settled 23 = .ok (.if_icmp .ge 7, 3) := by decide +kernel
theorem dX4_settled_26 : decode cX4_settled 26 = .ok (.iconst 1, 1) := by decide +kernel
theorem dX4_settled_27 : decode cX4_settled 27 = .ok (.goto 4, 3) := by decide +kernel
theorem dX4_settled_30 : decode cX4_settled 30 = .ok (.iconst 0, 1) := by decide +kernel
theorem dX4_settled_31 : decode cX4_settled 31 = .ok (.iadd, 1) := by decide +kernel
theorem dX4_settled_32 : decode cX4_settled 32 = .ok (.istore_n 1, 1) := by decide +kernel
theorem dX4_settled_33 : decode cX4_settled 33 = .ok (.iinc 2 1, 3) := by decide +kernel
theorem dX4_settled_36 : decode cX4_settled 36 = .ok (.goto (-32), 3) := by decide +kernel
theorem dX4_settled_39 : decode cX4_settled 39 = .ok (.iload_n 1, 1) := by decide +kernel
theorem dX4_settled_40 : decode cX4_settled 40 = .ok (.ireturn, 1) := by decide +kernel
theorem dX4_end_0 : decode cX4_end 0 = .ok (.aload_n 0, 1) := by decide +kernel
theorem dX4_end_1 : decode cX4_end 1 = .ok (.getfield 64, 3) := by decide +kernel
theorem dX4_end_4 : decode cX4_end 4 = .ok (.ifCond .eq 6, 3) := by decide +kernel
theorem dX4_end_7 : decode cX4_end 7 = .ok (.bipush (-3), 2) := by decide +kernel
theorem dX4_end_9 : decode cX4_end 9 = .ok (.ireturn, 1) := by decide +kernel
theorem dX4_end_10 : decode cX4_end 10 = .ok (.aload_n 0, 1) := by decide +kernel
theorem dX4_end_11 : decode cX4_end 11 = .ok (.invokevirtual 87, 3) := by decide +kernel
theorem dX4_end_14 : decode cX4_end 14 = .ok (.istore_n 1, 1) := by decide +kernel
theorem dX4_end_15 : decode cX4_end 15 = .ok (.aload_n 0, 1) := by decide +kernel
theorem dX4_end_16 : decode cX4_end 16 = .ok (.iconst 1, 1) := by decide +kernel
theorem dX4_end_17 : decode cX4_end 17 = .ok (.putfield 64, 3) := by decide +kernel
theorem dX4_end_20 : decode cX4_end 20 = .ok (.aload_n 0, 1) := by decide +kernel
theorem dX4_end_21 : decode cX4_end 21 = .ok (.invokevirtual 87, 3) := by decide +kernel
theorem dX4_end_24 : decode cX4_end 24 = .ok (.iload_n 1, 1) := by decide +kernel
theorem dX4_end_25 : decode cX4_end 25 = .ok (.isub, 1) := by decide +kernel
theorem dX4_end_26 : decode cX4_end 26 = .ok (.ireturn, 1) := by decide +kernel
theorem dX4_anew_0 : decode cX4_anew 0 = .ok (.aload_n 0, 1) := by decide +kernel
theorem dX4_anew_1 : decode cX4_anew 1 = .ok (.getfield 60, 3) := by decide +kernel
theorem dX4_anew_4 : decode cX4_anew 4 = .ok (.istore_n 1, 1) := by decide +kernel
theorem dX4_anew_5 : decode cX4_anew 5 = .ok (.aload_n 0, 1) := by decide +kernel
theorem dX4_anew_6 : decode cX4_anew 6 = .ok (.iconst 0, 1) := by decide +kernel
theorem dX4_anew_7 : decode cX4_anew 7 = .ok (.putfield 60, 3) := by decide +kernel
theorem dX4_anew_10 : decode cX4_anew 10 = .ok (.aload_n 0, 1) := by decide +kernel
theorem dX4_anew_11 : decode cX4_anew 11 = .ok (.iconst 0, 1) := by decide +kernel
theorem dX4_anew_12 : decode cX4_anew 12 = .ok (.putfield 80, 3) := by decide +kernel
theorem dX4_anew_15 : decode cX4_anew 15 = .ok (.aload_n 0, 1) := by decide +kernel
theorem dX4_anew_16 : decode cX4_anew 16 = .ok (.iconst 0, 1) := by decide +kernel
theorem dX4_anew_17 : decode cX4_anew 17 = .ok (.putfield 64, 3) := by decide +kernel
theorem dX4_anew_20 : decode cX4_anew 20 = .ok (.iload_n 1, 1) := by decide +kernel
theorem dX4_anew_21 : decode cX4_anew 21 = .ok (.ireturn, 1) := by decide +kernel
theorem dX4_findLive_0 : decode cX4_findLive 0 = .ok (.iconst 0, 1) := by decide +kernel
theorem dX4_findLive_1 : decode cX4_findLive 1 = .ok (.istore_n 1, 1) := by decide +kernel
theorem dX4_findLive_2 : decode cX4_findLive 2 = .ok (.iload_n 1, 1) := by decide +kernel
theorem dX4_findLive_3 : decode cX4_findLive 3 = .ok (.bipush 6, 2) := by decide +kernel
theorem dX4_findLive_5 : decode cX4_findLive 5 = .ok (.if_icmp .ge 16, 3) := by decide +kernel
theorem dX4_findLive_8 : decode cX4_findLive 8 = .ok (.aload_n 0, 1) := by decide +kernel
theorem dX4_findLive_9 : decode cX4_findLive 9 = .ok (.getfield 41, 3) := by decide +kernel
theorem dX4_findLive_12 : decode cX4_findLive 12 = .ok (.iload_n 1, 1) := by decide +kernel
theorem dX4_findLive_13 : decode cX4_findLive 13 = .ok (.iconst 0, 1) := by decide +kernel
theorem dX4_findLive_14 : decode cX4_findLive 14 = .ok (.iastore, 1) := by decide +kernel
theorem dX4_findLive_15 : decode cX4_findLive 15 = .ok (.iinc 1 1, 3) := by decide +kernel
theorem dX4_findLive_18 : decode cX4_findLive 18 = .ok (.goto (-16), 3) := by decide +kernel
theorem dX4_findLive_21 : decode cX4_findLive 21 = .ok (.aload_n 0, 1) := by decide +kernel
theorem dX4_findLive_22 : decode cX4_findLive 22 = .ok (.invokevirtual 87, 3) := by decide +kernel
theorem dX4_findLive_25 : decode cX4_findLive 25 = .ok (.istore_n 1, 1) := by decide +kernel
theorem dX4_findLive_26 : decode cX4_findLive 26 = .ok (.iconst 0, 1) := by decide +kernel
theorem dX4_findLive_27 : decode cX4_findLive 27 = .ok (.istore_n 2, 1) := by decide +kernel
theorem dX4_findLive_28 : decode cX4_findLive 28 = .ok (.iload_n 2, 1) := by decide +kernel
theorem dX4_findLive_29 : decode cX4_findLive 29 = .ok (.iload_n 1, 1) := by decide +kernel
theorem dX4_findLive_30 : decode cX4_findLive 30 = .ok (.if_icmp .ge 89, 3) := by decide +kernel
theorem dX4_findLive_33 : decode cX4_findLive 33 = .ok (.aload_n 0, 1) := by decide +kernel
theorem dX4_findLive_34 : decode cX4_findLive 34 = .ok (.getfield 28, 3) := by decide +kernel
theorem dX4_findLive_37 : decode cX4_findLive 37 = .ok (.iload_n 2, 1) := by decide +kernel
theorem dX4_findLive_38 : decode cX4_findLive 38 = .ok (.iaload, 1) := by decide +kernel
theorem dX4_findLive_39 : decode cX4_findLive 39 = .ok (.istore_n 3, 1) := by decide +kernel
theorem dX4_findLive_40 : decode cX4_findLive 40 = .ok (.aload_n 0, 1) := by decide +kernel
theorem dX4_findLive_41 : decode cX4_findLive 41 = .ok (.getfield 37, 3) := by decide +kernel
theorem dX4_findLive_44 : decode cX4_findLive 44 = .ok (.iload_n 2, 1) := by decide +kernel
theorem dX4_findLive_45 : decode cX4_findLive 45 = .ok (.aload_n 0, 1) := by decide +kernel
theorem dX4_findLive_46 : decode cX4_findLive 46 = .ok (.getfield 31, 3) := by decide +kernel
theorem dX4_findLive_49 : decode cX4_findLive 49 = .ok (.iload_n 2, 1) := by decide +kernel
theorem dX4_findLive_50 : decode cX4_findLive 50 = .ok (.iaload, 1) := by decide +kernel
theorem dX4_findLive_51 : decode cX4_findLive 51 = .ok (.aload_n 0, 1) := by decide +kernel
theorem dX4_findLive_52 : decode cX4_findLive 52 = .ok (.getfield 41, 3) := by decide +kernel
theorem dX4_findLive_55 : decode cX4_findLive 55 = .ok (.iload_n 3, 1) := by decide +kernel
theorem dX4_findLive_56 : decode cX4_findLive 56 = .ok (.iaload, 1) := by decide +kernel
theorem dX4_findLive_57 : decode cX4_findLive 57 = .ok (.if_icmp .lt 7, 3) := by decide +kernel
theorem dX4_findLive_60 : decode cX4_findLive 60 = .ok (.iconst 1, 1) := by decide +kernel
theorem dX4_findLive_61 : decode cX4_findLive 61 = .ok (.goto 4, 3) := by decide +kernel
theorem dX4_findLive_64 : decode cX4_findLive 64 = .ok (.iconst 0, 1) := by decide +kernel
theorem dX4_findLive_65 : decode cX4_findLive 65 = .ok (.bastore, 1) := by decide +kernel
theorem dX4_findLive_66 : decode cX4_findLive 66 = .ok (.aload_n 0, 1) := by decide +kernel
theorem dX4_findLive_67 : decode cX4_findLive 67 = .ok (.getfield 41, 3) := by decide +kernel
theorem dX4_findLive_70 : decode cX4_findLive 70 = .ok (.iload_n 3, 1) := by decide +kernel
theorem dX4_findLive_71 : decode cX4_findLive 71 = .ok (.aload_n 0, 1) := by decide +kernel
theorem dX4_findLive_72 : decode cX4_findLive 72 = .ok (.getfield 37, 3) := by decide +kernel
theorem dX4_findLive_75 : decode cX4_findLive 75 = .ok (.iload_n 2, 1) := by decide +kernel
theorem dX4_findLive_76 : decode cX4_findLive 76 = .ok (.baload, 1) := by decide +kernel
theorem dX4_findLive_77 : decode cX4_findLive 77 = .ok (.ifCond .ne 13, 3) := by decide +kernel
theorem dX4_findLive_80 : decode cX4_findLive 80 = .ok (.aload_n 0, 1) := by decide +kernel
theorem dX4_findLive_81 : decode cX4_findLive 81 = .ok (.getfield 16, 3) := by decide +kernel
theorem dX4_findLive_84 : decode cX4_findLive 84 = .ok (.iload_n 3, 1) := by decide +kernel
theorem dX4_findLive_85 : decode cX4_findLive 85 = .ok (.iaload, 1) := by decide +kernel
theorem dX4_findLive_86 : decode cX4_findLive 86 = .ok (.iconst 1, 1) := by decide +kernel
theorem dX4_findLive_87 : decode cX4_findLive 87 = .ok (.if_icmp .ne 19, 3) := by decide +kernel
theorem dX4_findLive_90 : decode cX4_findLive 90 = .ok (.aload_n 0, 1) := by decide +kernel
theorem dX4_findLive_91 : decode cX4_findLive 91 = .ok (.getfield 31, 3) := by decide +kernel
theorem dX4_findLive_94 : decode cX4_findLive 94 = .ok (.iload_n 2, 1) := by decide +kernel
theorem dX4_findLive_95 : decode cX4_findLive 95 = .ok (.iaload, 1) := by decide +kernel
theorem dX4_findLive_96 : decode cX4_findLive 96 = .ok (.aload_n 0, 1) := by decide +kernel
theorem dX4_findLive_97 : decode cX4_findLive 97 = .ok (.getfield 13, 3) := by decide +kernel
theorem dX4_findLive_100 : decode cX4_findLive 100 = .ok (.iload_n 3, 1) := by decide +kernel
theorem dX4_findLive_101 : decode cX4_findLive 101 = .ok (.iaload, 1) := by decide +kernel
theorem dX4_findLive_102 : decode cX4_findLive 102 = .ok (.iadd, 1) := by decide +kernel
theorem dX4_findLive_103 : decode cX4_findLive 103 = .ok (.goto 9, 3) := by decide +kernel
theorem dX4_findLive_106 : decode cX4_findLive 106 = .ok (.aload_n 0, 1) := by decide +kernel
theorem dX4_findLive_107 : decode cX4_findLive 107 = .ok (.getfield 41, 3) := by decide +kernel
theorem dX4_findLive_110 : decode cX4_findLive 110 = .ok (.iload_n 3, 1) := by decide +kernel
theorem dX4_findLive_111 : decode cX4_findLive 111 = .ok (.iaload, 1) := by decide +kernel
theorem dX4_findLive_112 : decode cX4_findLive 112 = .ok (.iastore, 1) := by decide +kernel
theorem dX4_findLive_113 : decode cX4_findLive 113 = .ok (.iinc 2 1, 3) := by decide +kernel
theorem dX4_findLive_116 : decode cX4_findLive 116 = .ok (.goto (-88), 3) := by decide +kernel
theorem dX4_findLive_119 : decode cX4_findLive 119 = .ok (.return_, 1) := by decide +kernel
theorem dX4_manyLive_0 : decode cX4_manyLive 0 = .ok (.aload_n 0, 1) := by decide +kernel
theorem dX4_manyLive_1 : decode cX4_manyLive 1 = .ok (.invokevirtual 90, 3) := by decide +kernel
theorem dX4_manyLive_4 : decode cX4_manyLive 4 = .ok (.iconst 0, 1) := by decide +kernel
theorem dX4_manyLive_5 : decode cX4_manyLive 5 = .ok (.istore_n 3, 1) := by decide +kernel
theorem dX4_manyLive_6 : decode cX4_manyLive 6 = .ok (.aload_n 0, 1) := by decide +kernel
theorem dX4_manyLive_7 : decode cX4_manyLive 7 = .ok (.invokevirtual 87, 3) := by decide +kernel
theorem dX4_manyLive_10 : decode cX4_manyLive 10 = .ok (.istore 4, 2) := by decide +kernel
theorem dX4_manyLive_12 : decode cX4_manyLive 12 = .ok (.iconst 0, 1) := by decide +kernel
theorem dX4_manyLive_13 : decode cX4_manyLive 13 = .ok (.istore 5, 2) := by decide +kernel
theorem dX4_manyLive_15 : decode cX4_manyLive 15 = .ok (.iload 5, 2) := by decide +kernel
theorem dX4_manyLive_17 : decode cX4_manyLive 17 = .ok (.iload 4, 2) := by decide +kernel
theorem dX4_manyLive_19 : decode cX4_manyLive 19 = .ok (.if_icmp .ge 45, 3) := by decide +kernel
theorem dX4_manyLive_22 : decode cX4_manyLive 22 = .ok (.iload_n 3, 1) := by decide +kernel
theorem dX4_manyLive_23 : decode cX4_manyLive 23 = .ok (.iload_n 1, 1) := by decide +kernel
theorem dX4_manyLive_24 : decode cX4_manyLive 24 = .ok (.bipush (-9), 2) := by decide +kernel
theorem dX4_manyLive_26 : decode cX4_manyLive 26 = .ok (.if_icmp .eq 14, 3) := by decide +kernel
theorem dX4_manyLive_29 : decode cX4_manyLive 29 = .ok (.aload_n 0, 1) := by decide +kernel
theorem dX4_manyLive_30 : decode cX4_manyLive 30 = .ok (.getfield 28, 3) := by decide +kernel
theorem dX4_manyLive_33 : decode cX4_manyLive 33 = .ok (.iload 5, 2) := by decide +kernel
theorem dX4_manyLive_35 : decode cX4_manyLive 35 = .ok (.iaload, 1) := by decide +kernel
theorem dX4_manyLive_36 : decode cX4_manyLive 36 = .ok (.iload_n 1, 1) := by decide +kernel
theorem dX4_manyLive_37 : decode cX4_manyLive 37 = .ok (.if_icmp .ne 18, 3) := by decide +kernel
theorem dX4_manyLive_40 : decode cX4_manyLive 40 = .ok (.aload_n 0, 1) := by decide +kernel
theorem dX4_manyLive_41 : decode cX4_manyLive 41 = .ok (.getfield 37, 3) := by decide +kernel
theorem dX4_manyLive_44 : decode cX4_manyLive 44 = .ok (.iload 5, 2) := by decide +kernel
theorem dX4_manyLive_46 : decode cX4_manyLive 46 = .ok (.baload, 1) := by decide +kernel
theorem dX4_manyLive_47 : decode cX4_manyLive 47 = .ok (.iload_n 2, 1) := by decide +kernel
theorem dX4_manyLive_48 : decode cX4_manyLive 48 = .ok (.if_icmp .ne 7, 3) := by decide +kernel
theorem dX4_manyLive_51 : decode cX4_manyLive 51 = .ok (.iconst 1, 1) := by decide +kernel
theorem dX4_manyLive_52 : decode cX4_manyLive 52 = .ok (.goto 4, 3) := by decide +kernel
theorem dX4_manyLive_55 : decode cX4_manyLive 55 = .ok (.iconst 0, 1) := by decide +kernel
theorem dX4_manyLive_56 : decode cX4_manyLive 56 = .ok (.iadd, 1) := by decide +kernel
theorem dX4_manyLive_57 : decode cX4_manyLive 57 = .ok (.istore_n 3, 1) := by decide +kernel
theorem dX4_manyLive_58 : decode cX4_manyLive 58 = .ok (.iinc 5 1, 3) := by decide +kernel
theorem dX4_manyLive_61 : decode cX4_manyLive 61 = .ok (.goto (-46), 3) := by decide +kernel
theorem dX4_manyLive_64 : decode cX4_manyLive 64 = .ok (.iload_n 3, 1) := by decide +kernel
theorem dX4_manyLive_65 : decode cX4_manyLive 65 = .ok (.ireturn, 1) := by decide +kernel
theorem dX4_keptOf_0 : decode cX4_keptOf 0 = .ok (.iconst 0, 1) := by decide +kernel
theorem dX4_keptOf_1 : decode cX4_keptOf 1 = .ok (.istore_n 2, 1) := by decide +kernel
theorem dX4_keptOf_2 : decode cX4_keptOf 2 = .ok (.iconst 0, 1) := by decide +kernel
theorem dX4_keptOf_3 : decode cX4_keptOf 3 = .ok (.istore_n 3, 1) := by decide +kernel
theorem dX4_keptOf_4 : decode cX4_keptOf 4 = .ok (.iload_n 3, 1) := by decide +kernel
theorem dX4_keptOf_5 : decode cX4_keptOf 5 = .ok (.aload_n 0, 1) := by decide +kernel
theorem dX4_keptOf_6 : decode cX4_keptOf 6 = .ok (.getfield 60, 3) := by decide +kernel
theorem dX4_keptOf_9 : decode cX4_keptOf 9 = .ok (.if_icmp .ge 27, 3) := by decide +kernel
theorem dX4_keptOf_12 : decode cX4_keptOf 12 = .ok (.iload_n 2, 1) := by decide +kernel
theorem dX4_keptOf_13 : decode cX4_keptOf 13 = .ok (.aload_n 0, 1) := by decide +kernel
theorem dX4_keptOf_14 : decode cX4_keptOf 14 = .ok (.getfield 28, 3) := by decide +kernel
theorem dX4_keptOf_17 : decode cX4_keptOf 17 = .ok (.iload_n 3, 1) := by decide +kernel
theorem dX4_keptOf_18 : decode cX4_keptOf 18 = .ok (.iaload, 1) := by decide +kernel
theorem dX4_keptOf_19 : decode cX4_keptOf 19 = .ok (.iload_n 1, 1) := by decide +kernel
theorem dX4_keptOf_20 : decode cX4_keptOf 20 = .ok (.if_icmp .ne 7, 3) := by decide +kernel
theorem dX4_keptOf_23 : decode cX4_keptOf 23 = .ok (.iconst 1, 1) := by decide +kernel
theorem dX4_keptOf_24 : decode cX4_keptOf 24 = .ok (.goto 4, 3) := by decide +kernel
theorem dX4_keptOf_27 : decode cX4_keptOf 27 = .ok (.iconst 0, 1) := by decide +kernel
theorem dX4_keptOf_28 : decode cX4_keptOf 28 = .ok (.iadd, 1) := by decide +kernel
theorem dX4_keptOf_29 : decode cX4_keptOf 29 = .ok (.istore_n 2, 1) := by decide +kernel
theorem dX4_keptOf_30 : decode cX4_keptOf 30 = .ok (.iinc 3 1, 3) := by decide +kernel
theorem dX4_keptOf_33 : decode cX4_keptOf 33 = .ok (.goto (-29), 3) := by decide +kernel
theorem dX4_keptOf_36 : decode cX4_keptOf 36 = .ok (.iload_n 2, 1) := by decide +kernel
theorem dX4_keptOf_37 : decode cX4_keptOf 37 = .ok (.ireturn, 1) := by decide +kernel
theorem dX4_ofPlane_0 : decode cX4_ofPlane 0 = .ok (.iload_n 1, 1) := by decide +kernel
theorem dX4_ofPlane_1 : decode cX4_ofPlane 1 = .ok (.invokestatic 68, 3) := by decide +kernel
theorem dX4_ofPlane_4 : decode cX4_ofPlane 4 = .ok (.ifCond .ne 5, 3) := by decide +kernel
theorem dX4_ofPlane_7 : decode cX4_ofPlane 7 = .ok (.iconst (-1), 1) := by decide +kernel
theorem dX4_ofPlane_8 : decode cX4_ofPlane 8 = .ok (.ireturn, 1) := by decide +kernel
theorem dX4_ofPlane_9 : decode cX4_ofPlane 9 = .ok (.iload_n 2, 1) := by decide +kernel
theorem dX4_ofPlane_10 : decode cX4_ofPlane 10 = .ok (.tableswitch 79 0 5 #[38, 45, 52, 59, 65, 72], 38) := by decide +kernel
theorem dX4_ofPlane_48 : decode cX4_ofPlane 48 = .ok (.aload_n 0, 1) := by decide +kernel
theorem dX4_ofPlane_49 : decode cX4_ofPlane 49 = .ok (.getfield 7, 3) := by decide +kernel
theorem dX4_ofPlane_52 : decode cX4_ofPlane 52 = .ok (.iload_n 1, 1) := by decide +kernel
theorem dX4_ofPlane_53 : decode cX4_ofPlane 53 = .ok (.iaload, 1) := by decide +kernel
theorem dX4_ofPlane_54 : decode cX4_ofPlane 54 = .ok (.ireturn, 1) := by decide +kernel
theorem dX4_ofPlane_55 : decode cX4_ofPlane 55 = .ok (.aload_n 0, 1) := by decide +kernel
theorem dX4_ofPlane_56 : decode cX4_ofPlane 56 = .ok (.getfield 13, 3) := by decide +kernel
theorem dX4_ofPlane_59 : decode cX4_ofPlane 59 = .ok (.iload_n 1, 1) := by decide +kernel
theorem dX4_ofPlane_60 : decode cX4_ofPlane 60 = .ok (.iaload, 1) := by decide +kernel
theorem dX4_ofPlane_61 : decode cX4_ofPlane 61 = .ok (.ireturn, 1) := by decide +kernel
theorem dX4_ofPlane_62 : decode cX4_ofPlane 62 = .ok (.aload_n 0, 1) := by decide +kernel
theorem dX4_ofPlane_63 : decode cX4_ofPlane 63 = .ok (.getfield 16, 3) := by decide +kernel
theorem dX4_ofPlane_66 : decode cX4_ofPlane 66 = .ok (.iload_n 1, 1) := by decide +kernel
theorem dX4_ofPlane_67 : decode cX4_ofPlane 67 = .ok (.iaload, 1) := by decide +kernel
theorem dX4_ofPlane_68 : decode cX4_ofPlane 68 = .ok (.ireturn, 1) := by decide +kernel
theorem dX4_ofPlane_69 : decode cX4_ofPlane 69 = .ok (.aload_n 0, 1) := by decide +kernel
theorem dX4_ofPlane_70 : decode cX4_ofPlane 70 = .ok (.iload_n 1, 1) := by decide +kernel
theorem dX4_ofPlane_71 : decode cX4_ofPlane 71 = .ok (.invokevirtual 93, 3) := by decide +kernel
theorem dX4_ofPlane_74 : decode cX4_ofPlane 74 = .ok (.ireturn, 1) := by decide +kernel
theorem dX4_ofPlane_75 : decode cX4_ofPlane 75 = .ok (.aload_n 0, 1) := by decide +kernel
theorem dX4_ofPlane_76 : decode cX4_ofPlane 76 = .ok (.iload_n 1, 1) := by decide +kernel
theorem dX4_ofPlane_77 : decode cX4_ofPlane 77 = .ok (.iconst 1, 1) := by decide +kernel
theorem dX4_ofPlane_78 : decode cX4_ofPlane 78 = .ok (.invokevirtual 97, 3) := by decide +kernel
theorem dX4_ofPlane_81 : decode cX4_ofPlane 81 = .ok (.ireturn, 1) := by decide +kernel
theorem dX4_ofPlane_82 : decode cX4_ofPlane 82 = .ok (.aload_n 0, 1) := by decide +kernel
theorem dX4_ofPlane_83 : decode cX4_ofPlane 83 = .ok (.iload_n 1, 1) := by decide +kernel
theorem dX4_ofPlane_84 : decode cX4_ofPlane 84 = .ok (.iconst 0, 1) := by decide +kernel
theorem dX4_ofPlane_85 : decode cX4_ofPlane 85 = .ok (.invokevirtual 97, 3) := by decide +kernel
theorem dX4_ofPlane_88 : decode cX4_ofPlane 88 = .ok (.ireturn, 1) := by decide +kernel
theorem dX4_ofPlane_89 : decode cX4_ofPlane 89 = .ok (.bipush (-2), 2) := by decide +kernel
theorem dX4_ofPlane_91 : decode cX4_ofPlane 91 = .ok (.ireturn, 1) := by decide +kernel
theorem dX4_isTimeBehind_0 : decode cX4_isTimeBehind 0 = .ok (.aload_n 0, 1) := by decide +kernel
theorem dX4_isTimeBehind_1 : decode cX4_isTimeBehind 1 = .ok (.getfield 44, 3) := by decide +kernel
theorem dX4_isTimeBehind_4 : decode cX4_isTimeBehind 4 = .ok (.iload_n 1, 1) := by decide +kernel
theorem dX4_isTimeBehind_5 : decode cX4_isTimeBehind 5 = .ok (.iaload, 1) := by decide +kernel
theorem dX4_isTimeBehind_6 : decode cX4_isTimeBehind 6 = .ok (.iload_n 2, 1) := by decide +kernel
theorem dX4_isTimeBehind_7 : decode cX4_isTimeBehind 7 = .ok (.if_icmp .eq 19, 3) := by decide +kernel
theorem dX4_isTimeBehind_10 : decode cX4_isTimeBehind 10 = .ok (.aload_n 0, 1) := by decide +kernel
theorem dX4_isTimeBehind_11 : decode cX4_isTimeBehind 11 = .ok (.getfield 44, 3) := by decide +kernel
theorem dX4_isTimeBehind_14 : decode cX4_isTimeBehind 14 = .ok (.iload_n 1, 1) := by decide +kernel
theorem dX4_isTimeBehind_15 : decode cX4_isTimeBehind 15 = .ok (.iaload, 1) := by decide +kernel
theorem dX4_isTimeBehind_16 : decode cX4_isTimeBehind 16 = .ok (.iload_n 2, 1) := by decide +kernel
theorem dX4_isTimeBehind_17 : decode cX4_isTimeBehind 17 = .ok (.if_icmp .le 7, 3) := by decide +kernel
theorem dX4_isTimeBehind_20 : decode cX4_isTimeBehind 20 = .ok (.iconst 1, 1) := by decide +kernel
theorem dX4_isTimeBehind_21 : decode cX4_isTimeBehind 21 = .ok (.goto 4, 3) := by decide +kernel
theorem dX4_isTimeBehind_24 : decode cX4_isTimeBehind 24 = .ok (.iconst 0, 1) := by decide +kernel
theorem dX4_isTimeBehind_25 : decode cX4_isTimeBehind 25 = .ok (.ireturn, 1) := by decide +kernel
theorem dX4_isTimeBehind_26 : decode cX4_isTimeBehind 26 = .ok (.aload_n 0, 1) := by decide +kernel
theorem dX4_isTimeBehind_27 : decode cX4_isTimeBehind 27 = .ok (.getfield 47, 3) := by decide +kernel
theorem dX4_isTimeBehind_30 : decode cX4_isTimeBehind 30 = .ok (.iload_n 1, 1) := by decide +kernel
theorem dX4_isTimeBehind_31 : decode cX4_isTimeBehind 31 = .ok (.iaload, 1) := by decide +kernel
theorem dX4_isTimeBehind_32 : decode cX4_isTimeBehind 32 = .ok (.istore 4, 2) := by decide +kernel
theorem dX4_isTimeBehind_34 : decode cX4_isTimeBehind 34 = .ok (.aload_n 0, 1) := by decide +kernel
theorem dX4_isTimeBehind_35 : decode cX4_isTimeBehind 35 = .ok (.getfield 28, 3) := by decide +kernel
theorem dX4_isTimeBehind_38 : decode cX4_isTimeBehind 38 = .ok (.iload 4, 2) := by decide +kernel
theorem dX4_isTimeBehind_40 : decode cX4_isTimeBehind 40 = .ok (.iaload, 1) := by decide +kernel
theorem dX4_isTimeBehind_41 : decode cX4_isTimeBehind 41 = .ok (.aload_n 0, 1) := by decide +kernel
theorem dX4_isTimeBehind_42 : decode cX4_isTimeBehind 42 = .ok (.getfield 28, 3) := by decide +kernel
theorem dX4_isTimeBehind_45 : decode cX4_isTimeBehind 45 = .ok (.iload_n 3, 1) := by decide +kernel
theorem dX4_isTimeBehind_46 : decode cX4_isTimeBehind 46 = .ok (.iaload, 1) := by decide +kernel
theorem dX4_isTimeBehind_47 : decode cX4_isTimeBehind 47 = .ok (.if_icmp .eq 27, 3) := by decide +kernel
theorem dX4_isTimeBehind_50 : decode cX4_isTimeBehind 50 = .ok (.aload_n 0, 1) := by decide +kernel
theorem dX4_isTimeBehind_51 : decode cX4_isTimeBehind 51 = .ok (.getfield 28, 3) := by decide +kernel
theorem dX4_isTimeBehind_54 : decode cX4_isTimeBehind 54 = .ok (.iload 4, 2) := by decide +kernel
theorem dX4_isTimeBehind_56 : decode cX4_isTimeBehind 56 = .ok (.iaload, 1) := by decide +kernel
theorem dX4_isTimeBehind_57 : decode cX4_isTimeBehind 57 = .ok (.aload_n 0, 1) := by decide +kernel
theorem dX4_isTimeBehind_58 : decode cX4_isTimeBehind 58 = .ok (.getfield 28, 3) := by decide +kernel
theorem dX4_isTimeBehind_61 : decode cX4_isTimeBehind 61 = .ok (.iload_n 3, 1) := by decide +kernel
theorem dX4_isTimeBehind_62 : decode cX4_isTimeBehind 62 = .ok (.iaload, 1) := by decide +kernel
theorem dX4_isTimeBehind_63 : decode cX4_isTimeBehind 63 = .ok (.if_icmp .le 7, 3) := by decide +kernel
theorem dX4_isTimeBehind_66 : decode cX4_isTimeBehind 66 = .ok (.iconst 1, 1) := by decide +kernel
theorem dX4_isTimeBehind_67 : decode cX4_isTimeBehind 67 = .ok (.goto 28, 3) := by decide +kernel
theorem dX4_isTimeBehind_70 : decode cX4_isTimeBehind 70 = .ok (.iconst 0, 1) := by decide +kernel
theorem dX4_isTimeBehind_71 : decode cX4_isTimeBehind 71 = .ok (.goto 24, 3) := by decide +kernel
theorem dX4_isTimeBehind_74 : decode cX4_isTimeBehind 74 = .ok (.aload_n 0, 1) := by decide +kernel
theorem dX4_isTimeBehind_75 : decode cX4_isTimeBehind 75 = .ok (.getfield 34, 3) := by decide +kernel
theorem dX4_isTimeBehind_78 : decode cX4_isTimeBehind 78 = .ok (.iload 4, 2) := by decide +kernel
theorem dX4_isTimeBehind_80 : decode cX4_isTimeBehind 80 = .ok (.iaload, 1) := by decide +kernel
theorem dX4_isTimeBehind_81 : decode cX4_isTimeBehind 81 = .ok (.aload_n 0, 1) := by decide +kernel
theorem dX4_isTimeBehind_82 : decode cX4_isTimeBehind 82 = .ok (.getfield 34, 3) := by decide +kernel
theorem dX4_isTimeBehind_85 : decode cX4_isTimeBehind 85 = .ok (.iload_n 3, 1) := by decide +kernel
theorem dX4_isTimeBehind_86 : decode cX4_isTimeBehind 86 = .ok (.iaload, 1) := by decide +kernel
theorem dX4_isTimeBehind_87 : decode cX4_isTimeBehind 87 = .ok (.if_icmp .le 7, 3) := by decide +kernel
theorem dX4_isTimeBehind_90 : decode cX4_isTimeBehind 90 = .ok (.iconst 1, 1) := by decide +kernel
theorem dX4_isTimeBehind_91 : decode cX4_isTimeBehind 91 = .ok (.goto 4, 3) := by decide +kernel
theorem dX4_isTimeBehind_94 : decode cX4_isTimeBehind 94 = .ok (.iconst 0, 1) := by decide +kernel
theorem dX4_isTimeBehind_95 : decode cX4_isTimeBehind 95 = .ok (.ireturn, 1) := by decide +kernel
theorem dX4_comesByTime_0 : decode cX4_comesByTime 0 = .ok (.aload_n 0, 1) := by decide +kernel
theorem dX4_comesByTime_1 : decode cX4_comesByTime 1 = .ok (.getfield 101, 3) := by decide +kernel
theorem dX4_comesByTime_4 : decode cX4_comesByTime 4 = .ok (.istore_n 3, 1) := by decide +kernel
theorem dX4_comesByTime_5 : decode cX4_comesByTime 5 = .ok (.iload_n 3, 1) := by decide +kernel
theorem dX4_comesByTime_6 : decode cX4_comesByTime 6 = .ok (.ifCond .le 49, 3) := by decide +kernel
theorem dX4_comesByTime_9 : decode cX4_comesByTime 9 = .ok (.aload_n 0, 1) := by decide +kernel
theorem dX4_comesByTime_10 : decode cX4_comesByTime 10 = .ok (.iload_n 3, 1) := by decide +kernel
theorem dX4_comesByTime_11 : decode cX4_comesByTime 11 = .ok (.iconst 1, 1) := by decide +kernel
theorem dX4_comesByTime_12 : decode cX4_comesByTime 12 = .ok (.isub, 1) := by decide +kernel
theorem dX4_comesByTime_13 : decode cX4_comesByTime 13 = .ok (.iload_n 1, 1) := by decide +kernel
theorem dX4_comesByTime_14 : decode cX4_comesByTime 14 = .ok (.iload_n 2, 1) := by decide +kernel
theorem dX4_comesByTime_15 : decode cX4_comesByTime 15 = .ok (.invokevirtual 104, 3) := by decide +kernel
theorem dX4_comesByTime_18 : decode cX4_comesByTime 18 = .ok (.ifCond .eq 37, 3) := by decide +kernel
theorem dX4_comesByTime_21 : decode cX4_comesByTime 21 = .ok (.aload_n 0, 1) := by decide +kernel
theorem dX4_comesByTime_22 : decode cX4_comesByTime 22 = .ok (.getfield 44, 3) := by decide +kernel
theorem dX4_comesByTime_25 : decode cX4_comesByTime 25 = .ok (.iload_n 3, 1) := by decide +kernel
theorem dX4_comesByTime_26 : decode cX4_comesByTime 26 = .ok (.aload_n 0, 1) := by decide +kernel
theorem dX4_comesByTime_27 : decode cX4_comesByTime 27 = .ok (.getfield 44, 3) := by decide +kernel
theorem dX4_comesByTime_30 : decode cX4_comesByTime 30 = .ok (.iload_n 3, 1) := by decide +kernel
theorem dX4_comesByTime_31 : decode cX4_comesByTime 31 = .ok (.iconst 1, 1) := by decide +kernel
theorem dX4_comesByTime_32 : decode cX4_comesByTime 32 = .ok (.isub, 1) := by decide +kernel
theorem dX4_comesByTime_33 : decode cX4_comesByTime 33 = .ok (.iaload, 1) := by decide +kernel
theorem dX4_comesByTime_34 : decode cX4_comesByTime 34 = .ok (.iastore, 1) := by decide +kernel
theorem dX4_comesByTime_35 : decode cX4_comesByTime 35 = .ok (.aload_n 0, 1) := by decide +kernel
theorem dX4_comesByTime_36 : decode cX4_comesByTime 36 = .ok (.getfield 47, 3) := by decide +kernel
theorem dX4_comesByTime_39 : decode cX4_comesByTime 39 = .ok (.iload_n 3, 1) := by decide +kernel
theorem dX4_comesByTime_40 : decode cX4_comesByTime 40 = .ok (.aload_n 0, 1) := by decide +kernel
theorem dX4_comesByTime_41 : decode cX4_comesByTime 41 = .ok (.getfield 47, 3) := by decide +kernel
theorem dX4_comesByTime_44 : decode cX4_comesByTime 44 = .ok (.iload_n 3, 1) := by decide +kernel
theorem dX4_comesByTime_45 : decode cX4_comesByTime 45 = .ok (.iconst 1, 1) := by decide +kernel
theorem dX4_comesByTime_46 : decode cX4_comesByTime 46 = .ok (.isub, 1) := by decide +kernel
theorem dX4_comesByTime_47 : decode cX4_comesByTime 47 = .ok (.iaload, 1) := by decide +kernel
theorem dX4_comesByTime_48 : decode cX4_comesByTime 48 = .ok (.iastore, 1) := by decide +kernel
theorem dX4_comesByTime_49 : decode cX4_comesByTime 49 = .ok (.iinc 3 (-1), 3) := by decide +kernel
theorem dX4_comesByTime_52 : decode cX4_comesByTime 52 = .ok (.goto (-47), 3) := by decide +kernel
theorem dX4_comesByTime_55 : decode cX4_comesByTime 55 = .ok (.aload_n 0, 1) := by decide +kernel
theorem dX4_comesByTime_56 : decode cX4_comesByTime 56 = .ok (.getfield 44, 3) := by decide +kernel
theorem dX4_comesByTime_59 : decode cX4_comesByTime 59 = .ok (.iload_n 3, 1) := by decide +kernel
theorem dX4_comesByTime_60 : decode cX4_comesByTime 60 = .ok (.iload_n 1, 1) := by decide +kernel
theorem dX4_comesByTime_61 : decode cX4_comesByTime 61 = .ok (.iastore, 1) := by decide +kernel
theorem dX4_comesByTime_62 : decode cX4_comesByTime 62 = .ok (.aload_n 0, 1) := by decide +kernel
theorem dX4_comesByTime_63 : decode cX4_comesByTime 63 = .ok (.getfield 47, 3) := by decide +kernel
theorem dX4_comesByTime_66 : decode cX4_comesByTime 66 = .ok (.iload_n 3, 1) := by decide +kernel
theorem dX4_comesByTime_67 : decode cX4_comesByTime 67 = .ok (.iload_n 2, 1) := by decide +kernel
theorem dX4_comesByTime_68 : decode cX4_comesByTime 68 = .ok (.iastore, 1) := by decide +kernel
theorem dX4_comesByTime_69 : decode cX4_comesByTime 69 = .ok (.aload_n 0, 1) := by decide +kernel
theorem dX4_comesByTime_70 : decode cX4_comesByTime 70 = .ok (.dup, 1) := by decide +kernel
theorem dX4_comesByTime_71 : decode cX4_comesByTime 71 = .ok (.getfield 101, 3) := by decide +kernel
theorem dX4_comesByTime_74 : decode cX4_comesByTime 74 = .ok (.iconst 1, 1) := by decide +kernel
theorem dX4_comesByTime_75 : decode cX4_comesByTime 75 = .ok (.iadd, 1) := by decide +kernel
theorem dX4_comesByTime_76 : decode cX4_comesByTime 76 = .ok (.putfield 101, 3) := by decide +kernel
theorem dX4_comesByTime_79 : decode cX4_comesByTime 79 = .ok (.return_, 1) := by decide +kernel
theorem dX4_findGroups_0 : decode cX4_findGroups 0 = .ok (.aload_n 0, 1) := by decide +kernel
theorem dX4_findGroups_1 : decode cX4_findGroups 1 = .ok (.invokevirtual 90, 3) := by decide +kernel
theorem dX4_findGroups_4 : decode cX4_findGroups 4 = .ok (.aload_n 0, 1) := by decide +kernel
theorem dX4_findGroups_5 : decode cX4_findGroups 5 = .ok (.iconst 0, 1) := by decide +kernel
theorem dX4_findGroups_6 : decode cX4_findGroups 6 = .ok (.putfield 101, 3) := by decide +kernel
theorem dX4_findGroups_9 : decode cX4_findGroups 9 = .ok (.aload_n 0, 1) := by decide +kernel
theorem dX4_findGroups_10 : decode cX4_findGroups 10 = .ok (.invokevirtual 87, 3) := by decide +kernel
theorem dX4_findGroups_13 : decode cX4_findGroups 13 = .ok (.istore_n 3, 1) := by decide +kernel
theorem dX4_findGroups_14 : decode cX4_findGroups 14 = .ok (.iconst 0, 1) := by decide +kernel
theorem dX4_findGroups_15 : decode cX4_findGroups 15 = .ok (.istore 4, 2) := by decide +kernel
theorem dX4_findGroups_17 : decode cX4_findGroups 17 = .ok (.iload 4, 2) := by decide +kernel
theorem dX4_findGroups_19 : decode cX4_findGroups 19 = .ok (.iload_n 3, 1) := by decide +kernel
theorem dX4_findGroups_20 : decode cX4_findGroups 20 = .ok (.if_icmp .ge 79, 3) := by decide +kernel
theorem dX4_findGroups_23 : decode cX4_findGroups 23 = .ok (.aload_n 0, 1) := by decide +kernel
theorem dX4_findGroups_24 : decode cX4_findGroups 24 = .ok (.getfield 31, 3) := by decide +kernel
theorem dX4_findGroups_27 : decode cX4_findGroups 27 = .ok (.iload 4, 2) := by decide +kernel
theorem dX4_findGroups_29 : decode cX4_findGroups 29 = .ok (.iaload, 1) := by decide +kernel
theorem dX4_findGroups_30 : decode cX4_findGroups 30 = .ok (.aload_n 0, 1) := by decide +kernel
theorem dX4_findGroups_31 : decode cX4_findGroups 31 = .ok (.getfield 7, 3) := by decide +kernel
theorem dX4_findGroups_34 : decode cX4_findGroups 34 = .ok (.aload_n 0, 1) := by decide +kernel
theorem dX4_findGroups_35 : decode cX4_findGroups 35 = .ok (.getfield 28, 3) := by decide +kernel
theorem dX4_findGroups_38 : decode cX4_findGroups 38 = .ok (.iload 4, 2) := by decide +kernel
theorem dX4_findGroups_40 : decode cX4_findGroups 40 = .ok (.iaload, 1) := by decide +kernel
theorem dX4_findGroups_41 : decode cX4_findGroups 41 = .ok (.iaload, 1) := by decide +kernel
theorem dX4_findGroups_42 : decode cX4_findGroups 42 = .ok (.isub, 1) := by decide +kernel
theorem dX4_findGroups_43 : decode cX4_findGroups 43 = .ok (.istore 5, 2) := by decide +kernel
theorem dX4_findGroups_45 : decode cX4_findGroups 45 = .ok (.aload_n 0, 1) := by decide +kernel
theorem dX4_findGroups_46 : decode cX4_findGroups 46 = .ok (.getfield 37, 3) := by decide +kernel
theorem dX4_findGroups_49 : decode cX4_findGroups 49 = .ok (.iload 4, 2) := by decide +kernel
theorem dX4_findGroups_51 : decode cX4_findGroups 51 = .ok (.baload, 1) := by decide +kernel
theorem dX4_findGroups_52 : decode cX4_findGroups 52 = .ok (.ifCond .eq 41, 3) := by decide +kernel
theorem dX4_findGroups_55 : decode cX4_findGroups 55 = .ok (.iload 5, 2) := by decide +kernel
theorem dX4_findGroups_57 : decode cX4_findGroups 57 = .ok (.aload_n 0, 1) := by decide +kernel
theorem dX4_findGroups_58 : decode cX4_findGroups 58 = .ok (.invokevirtual 107, 3) := by decide +kernel
theorem dX4_findGroups_61 : decode cX4_findGroups 61 = .ok (.if_icmp .ge 32, 3) := by decide +kernel
theorem dX4_findGroups_64 : decode cX4_findGroups 64 = .ok (.aload_n 0, 1) := by decide +kernel
theorem dX4_findGroups_65 : decode cX4_findGroups 65 = .ok (.iload 5, 2) := by decide +kernel
theorem dX4_findGroups_67 : decode cX4_findGroups 67 = .ok (.iload_n 1, 1) := by decide +kernel
theorem dX4_findGroups_68 : decode cX4_findGroups 68 = .ok (.aload_n 0, 1) := by decide +kernel
theorem dX4_findGroups_69 : decode cX4_findGroups 69 = .ok (.getfield 28, 3) := by decide +kernel
theorem dX4_findGroups_72 : decode cX4_findGroups 72 = .ok (.iload 4, 2) := by decide +kernel
theorem dX4_findGroups_74 : decode cX4_findGroups 74 = .ok (.iaload, 1) := by decide +kernel
theorem dX4_findGroups_75 : decode cX4_findGroups 75 = .ok (.ishr, 1) := by decide +kernel
theorem dX4_findGroups_76 : decode cX4_findGroups 76 = .ok (.iconst 1, 1) := by decide +kernel
theorem dX4_findGroups_77 : decode cX4_findGroups 77 = .ok (.iand, 1) := by decide +kernel
theorem dX4_findGroups_78 : decode cX4_findGroups 78 = .ok (.iconst 1, 1) := by decide +kernel
theorem dX4_findGroups_79 : decode cX4_findGroups 79 = .ok (.if_icmp .ne 7, 3) := by decide +kernel
theorem dX4_findGroups_82 : decode cX4_findGroups 82 = .ok (.iload_n 2, 1) := by decide +kernel
theorem dX4_findGroups_83 : decode cX4_findGroups 83 = .ok (.goto 4, 3) := by decide +kernel
theorem dX4_findGroups_86 : decode cX4_findGroups 86 = .ok (.iconst 0, 1) := by decide +kernel
theorem dX4_findGroups_87 : decode cX4_findGroups 87 = .ok (.iadd, 1) := by decide +kernel
theorem dX4_findGroups_88 : decode cX4_findGroups 88 = .ok (.iload 4, 2) := by decide +kernel
theorem dX4_findGroups_90 : decode cX4_findGroups 90 = .ok (.invokevirtual 110, 3) := by decide +kernel
theorem dX4_findGroups_93 : decode cX4_findGroups 93 = .ok (.iinc 4 1, 3) := by decide +kernel
theorem dX4_findGroups_96 : decode cX4_findGroups 96 = .ok (.goto (-79), 3) := by decide +kernel
theorem dX4_findGroups_99 : decode cX4_findGroups 99 = .ok (.aload_n 0, 1) := by decide +kernel
theorem dX4_findGroups_100 : decode cX4_findGroups 100 = .ok (.iconst 0, 1) := by decide +kernel
theorem dX4_findGroups_101 : decode cX4_findGroups 101 = .ok (.putfield 114, 3) := by decide +kernel
theorem dX4_findGroups_104 : decode cX4_findGroups 104 = .ok (.aload_n 0, 1) := by decide +kernel
theorem dX4_findGroups_105 : decode cX4_findGroups 105 = .ok (.iconst 0, 1) := by decide +kernel
theorem dX4_findGroups_106 : decode cX4_findGroups 106 = .ok (.putfield 117, 3) := by decide +kernel
theorem dX4_findGroups_109 : decode cX4_findGroups 109 = .ok (.iconst 0, 1) := by decide +kernel
theorem dX4_findGroups_110 : decode cX4_findGroups 110 = .ok (.istore 4, 2) := by decide +kernel
theorem dX4_findGroups_112 : decode cX4_findGroups 112 = .ok (.iload 4, 2) := by decide +kernel
theorem dX4_findGroups_114 : decode cX4_findGroups 114 = .ok (.aload_n 0, 1) := by decide +kernel
theorem dX4_findGroups_115 : decode cX4_findGroups 115 = .ok (.getfield 101, 3) := by decide +kernel
theorem dX4_findGroups_118 : decode cX4_findGroups 118 = .ok (.if_icmp .ge 118, 3) := by decide +kernel
theorem dX4_findGroups_121 : decode cX4_findGroups 121 = .ok (.aload_n 0, 1) := by decide +kernel
theorem dX4_findGroups_122 : decode cX4_findGroups 122 = .ok (.getfield 114, 3) := by decide +kernel
theorem dX4_findGroups_125 : decode cX4_findGroups 125 = .ok (.ifCond .eq 36, 3) := by decide +kernel
theorem dX4_findGroups_128 : decode cX4_findGroups 128 = .ok (.aload_n 0, 1) := by decide +kernel
theorem dX4_findGroups_129 : decode cX4_findGroups 129 = .ok (.getfield 44, 3) := by decide +kernel
theorem dX4_findGroups_132 : decode cX4_findGroups 132 = .ok (.iload 4, 2) := by decide +kernel
theorem dX4_findGroups_134 : decode cX4_findGroups 134 = .ok (.iaload, 1) := by decide +kernel
theorem dX4_findGroups_135 : decode cX4_findGroups 135 = .ok (.aload_n 0, 1) := by decide +kernel
theorem dX4_findGroups_136 : decode cX4_findGroups 136 = .ok (.getfield 44, 3) := by decide +kernel
theorem dX4_findGroups_139 : decode cX4_findGroups 139 = .ok (.aload_n 0, 1) := by decide +kernel
theorem dX4_findGroups_140 : decode cX4_findGroups 140 = .ok (.getfield 53, 3) := by decide +kernel
theorem dX4_findGroups_143 : decode cX4_findGroups 143 = .ok (.aload_n 0, 1) := by decide +kernel
theorem dX4_findGroups_144 : decode cX4_findGroups 144 = .ok (.getfield 114, 3) := by decide +kernel
theorem dX4_findGroups_147 : decode cX4_findGroups 147 = .ok (.iconst 1, 1) := by decide +kernel
theorem dX4_findGroups_148 : decode cX4_findGroups 148 = .ok (.isub, 1) := by decide +kernel
theorem dX4_findGroups_149 : decode cX4_findGroups 149 = .ok (.iaload, 1) := by decide +kernel
theorem dX4_findGroups_150 : decode cX4_findGroups 150 = .ok (.iaload, 1) := by decide +kernel
theorem dX4_findGroups_151 : decode cX4_findGroups 151 = .ok (.aload_n 0, 1) := by decide +kernel
theorem dX4_findGroups_152 : decode cX4_findGroups 152 = .ok (.getfield 19, 3) := by decide +kernel
theorem dX4_findGroups_155 : decode cX4_findGroups 155 = .ok (.iconst 1, 1) := by decide +kernel
theorem dX4_findGroups_156 : decode cX4_findGroups 156 = .ok (.iaload, 1) := by decide +kernel
theorem dX4_findGroups_157 : decode cX4_findGroups 157 = .ok (.iadd, 1) := by decide +kernel
theorem dX4_findGroups_158 : decode cX4_findGroups 158 = .ok (.if_icmp .le 59, 3) := by decide +kernel
theorem dX4_findGroups_161 : decode cX4_findGroups 161 = .ok (.aload_n 0, 1) := by decide +kernel
theorem dX4_findGroups_162 : decode cX4_findGroups 162 = .ok (.getfield 53, 3) := by decide +kernel
theorem dX4_findGroups_165 : decode cX4_findGroups 165 = .ok (.aload_n 0, 1) := by decide +kernel
theorem dX4_findGroups_166 : decode cX4_findGroups 166 = .ok (.getfield 114, 3) := by decide +kernel
theorem dX4_findGroups_169 : decode cX4_findGroups 169 = .ok (.iload 4, 2) := by decide +kernel
theorem dX4_findGroups_171 : decode cX4_findGroups 171 = .ok (.iastore, 1) := by decide +kernel
theorem dX4_findGroups_172 : decode cX4_findGroups 172 = .ok (.aload_n 0, 1) := by decide +kernel
theorem dX4_findGroups_173 : decode cX4_findGroups 173 = .ok (.dup, 1) := by decide +kernel
theorem dX4_findGroups_174 : decode cX4_findGroups 174 = .ok (.getfield 114, 3) := by decide +kernel
theorem dX4_findGroups_177 : decode cX4_findGroups 177 = .ok (.iconst 1, 1) := by decide +kernel
theorem dX4_findGroups_178 : decode cX4_findGroups 178 = .ok (.iadd, 1) := by decide +kernel
theorem dX4_findGroups_179 : decode cX4_findGroups 179 = .ok (.putfield 114, 3) := by decide +kernel
theorem dX4_findGroups_182 : decode cX4_findGroups 182 = .ok (.aload_n 0, 1) := by decide +kernel
theorem dX4_findGroups_183 : decode cX4_findGroups 183 = .ok (.dup, 1) := by decide +kernel
theorem dX4_findGroups_184 : decode cX4_findGroups 184 = .ok (.getfield 117, 3) := by decide +kernel
theorem dX4_findGroups_187 : decode cX4_findGroups 187 = .ok (.aload_n 0, 1) := by decide +kernel
theorem dX4_findGroups_188 : decode cX4_findGroups 188 = .ok (.getfield 44, 3) := by decide +kernel
theorem dX4_findGroups_191 : decode cX4_findGroups 191 = .ok (.iload 4, 2) := by decide +kernel
theorem dX4_findGroups_193 : decode cX4_findGroups 193 = .ok (.iaload, 1) := by decide +kernel
theorem dX4_findGroups_194 : decode cX4_findGroups 194 = .ok (.aload_n 0, 1) := by decide +kernel
theorem dX4_findGroups_195 : decode cX4_findGroups 195 = .ok (.getfield 19, 3) := by decide +kernel
theorem dX4_findGroups_198 : decode cX4_findGroups 198 = .ok (.iconst 1, 1) := by decide +kernel
theorem dX4_findGroups_199 : decode cX4_findGroups 199 = .ok (.iaload, 1) := by decide +kernel
theorem dX4_findGroups_200 : decode cX4_findGroups 200 = .ok (.iadd, 1) := by decide +kernel
theorem dX4_findGroups_201 : decode cX4_findGroups 201 = .ok (.aload_n 0, 1) := by decide +kernel
theorem dX4_findGroups_202 : decode cX4_findGroups 202 = .ok (.invokevirtual 107, 3) := by decide +kernel
theorem dX4_findGroups_205 : decode cX4_findGroups 205 = .ok (.if_icmp .ge 7, 3) := by decide +kernel
theorem dX4_findGroups_208 : decode cX4_findGroups 208 = .ok (.iconst 1, 1) := by decide +kernel
theorem dX4_findGroups_209 : decode cX4_findGroups 209 = .ok (.goto 4, 3) := by decide +kernel
theorem dX4_findGroups_212 : decode cX4_findGroups 212 = .ok (.iconst 0, 1) := by decide +kernel
theorem dX4_findGroups_213 : decode cX4_findGroups 213 = .ok (.iadd, 1) := by decide +kernel
theorem dX4_findGroups_214 : decode cX4_findGroups 214 = .ok (.putfield 117, 3) := by decide +kernel
theorem dX4_findGroups_217 : decode cX4_findGroups 217 = .ok (.aload_n 0, 1) := by decide +kernel
theorem dX4_findGroups_218 : decode cX4_findGroups 218 = .ok (.getfield 50, 3) := by decide +kernel
theorem dX4_findGroups_221 : decode cX4_findGroups 221 = .ok (.iload 4, 2) := by decide +kernel
theorem dX4_findGroups_223 : decode cX4_findGroups 223 = .ok (.aload_n 0, 1) := by decide +kernel
theorem dX4_findGroups_224 : decode cX4_findGroups 224 = .ok (.getfield 114, 3) := by decide +kernel
theorem dX4_findGroups_227 : decode cX4_findGroups 227 = .ok (.iconst 1, 1) := by decide +kernel
theorem dX4_findGroups_228 : decode cX4_findGroups 228 = .ok (.isub, 1) := by decide +kernel
theorem dX4_findGroups_229 : decode cX4_findGroups 229 = .ok (.iastore, 1) := by decide +kernel
theorem dX4_findGroups_230 : decode cX4_findGroups 230 = .ok (.iinc 4 1, 3) := by decide +kernel
theorem dX4_findGroups_233 : decode cX4_findGroups 233 = .ok (.goto (-121), 3) := by decide +kernel
theorem dX4_findGroups_236 : decode cX4_findGroups 236 = .ok (.return_, 1) := by decide +kernel
theorem dX4_manyIn_0 : decode cX4_manyIn 0 = .ok (.iconst 0, 1) := by decide +kernel
theorem dX4_manyIn_1 : decode cX4_manyIn 1 = .ok (.istore_n 2, 1) := by decide +kernel
theorem dX4_manyIn_2 : decode cX4_manyIn 2 = .ok (.iconst 0, 1) := by decide +kernel
theorem dX4_manyIn_3 : decode cX4_manyIn 3 = .ok (.istore_n 3, 1) := by decide +kernel
theorem dX4_manyIn_4 : decode cX4_manyIn 4 = .ok (.iload_n 3, 1) := by decide +kernel
theorem dX4_manyIn_5 : decode cX4_manyIn 5 = .ok (.aload_n 0, 1) := by decide +kernel
theorem dX4_manyIn_6 : decode cX4_manyIn 6 = .ok (.getfield 101, 3) := by decide +kernel
theorem dX4_manyIn_9 : decode cX4_manyIn 9 = .ok (.if_icmp .ge 27, 3) := by decide +kernel
theorem dX4_manyIn_12 : decode cX4_manyIn 12 = .ok (.iload_n 2, 1) := by decide +kernel
theorem dX4_manyIn_13 : decode cX4_manyIn 13 = .ok (.aload_n 0, 1) := by decide +kernel
theorem dX4_manyIn_14 : decode cX4_manyIn 14 = .ok (.getfield 50, 3) := by decide +kernel
theorem dX4_manyIn_17 : decode cX4_manyIn 17 = .ok (.iload_n 3, 1) := by decide +kernel
theorem dX4_manyIn_18 : decode cX4_manyIn 18 = .ok (.iaload, 1) := by decide +kernel
theorem dX4_manyIn_19 : decode cX4_manyIn 19 = .ok (.iload_n 1, 1) := by decide +kernel
theorem dX4_manyIn_20 : decode cX4_manyIn 20 = .ok (.if_icmp .ne 7, 3) := by decide +kernel
theorem dX4_manyIn_23 : decode cX4_manyIn 23 = .ok (.iconst 1, 1) := by decide +kernel
theorem dX4_manyIn_24 : decode cX4_manyIn 24 = .ok (.goto 4, 3) := by decide +kernel
theorem dX4_manyIn_27 : decode cX4_manyIn 27 = .ok (.iconst 0, 1) := by decide +kernel
theorem dX4_manyIn_28 : decode cX4_manyIn 28 = .ok (.iadd, 1) := by decide +kernel
theorem dX4_manyIn_29 : decode cX4_manyIn 29 = .ok (.istore_n 2, 1) := by decide +kernel
theorem dX4_manyIn_30 : decode cX4_manyIn 30 = .ok (.iinc 3 1, 3) := by decide +kernel
theorem dX4_manyIn_33 : decode cX4_manyIn 33 = .ok (.goto (-29), 3) := by decide +kernel
theorem dX4_manyIn_36 : decode cX4_manyIn 36 = .ok (.iload_n 2, 1) := by decide +kernel
theorem dX4_manyIn_37 : decode cX4_manyIn 37 = .ok (.ireturn, 1) := by decide +kernel
theorem dX4_memberIn_0 : decode cX4_memberIn 0 = .ok (.aload_n 0, 1) := by decide +kernel
theorem dX4_memberIn_1 : decode cX4_memberIn 1 = .ok (.getfield 53, 3) := by decide +kernel
theorem dX4_memberIn_4 : decode cX4_memberIn 4 = .ok (.iload_n 1, 1) := by decide +kernel
theorem dX4_memberIn_5 : decode cX4_memberIn 5 = .ok (.iaload, 1) := by decide +kernel
theorem dX4_memberIn_6 : decode cX4_memberIn 6 = .ok (.istore_n 3, 1) := by decide +kernel
theorem dX4_memberIn_7 : decode cX4_memberIn 7 = .ok (.iload_n 3, 1) := by decide +kernel
theorem dX4_memberIn_8 : decode cX4_memberIn 8 = .ok (.aload_n 0, 1) := by decide +kernel
theorem dX4_memberIn_9 : decode cX4_memberIn 9 = .ok (.getfield 101, 3) := by decide +kernel
theorem dX4_memberIn_12 : decode cX4_memberIn 12 = .ok (.if_icmp .ge 36, 3) := by decide +kernel
theorem dX4_memberIn_15 : decode cX4_memberIn 15 = .ok (.aload_n 0, 1) := by decide +kernel
theorem dX4_memberIn_16 : decode cX4_memberIn 16 = .ok (.getfield 50, 3) := by decide +kernel
theorem dX4_memberIn_19 : decode cX4_memberIn 19 = .ok (.iload_n 3, 1) := by decide +kernel
theorem dX4_memberIn_20 : decode cX4_memberIn 20 = .ok (.iaload, 1) := by decide +kernel
theorem dX4_memberIn_21 : decode cX4_memberIn 21 = .ok (.iload_n 1, 1) := by decide +kernel
theorem dX4_memberIn_22 : decode cX4_memberIn 22 = .ok (.if_icmp .ne 26, 3) := by decide +kernel
theorem dX4_memberIn_25 : decode cX4_memberIn 25 = .ok (.aload_n 0, 1) := by decide +kernel
theorem dX4_memberIn_26 : decode cX4_memberIn 26 = .ok (.getfield 28, 3) := by decide +kernel
theorem dX4_memberIn_29 : decode cX4_memberIn 29 = .ok (.aload_n 0, 1) := by decide +kernel
theorem dX4_memberIn_30 : decode cX4_memberIn 30 = .ok (.getfield 47, 3) := by decide +kernel
theorem dX4_memberIn_33 : decode cX4_memberIn 33 = .ok (.iload_n 3, 1) := by decide +kernel
theorem dX4_memberIn_34 : decode cX4_memberIn 34 = .ok (.iaload, 1) := by decide +kernel
theorem dX4_memberIn_35 : decode cX4_memberIn 35 = .ok (.iaload, 1) := by decide +kernel
theorem dX4_memberIn_36 : decode cX4_memberIn 36 = .ok (.iload_n 2, 1) := by decide +kernel
theorem dX4_memberIn_37 : decode cX4_memberIn 37 = .ok (.if_icmp .ne 5, 3) := by decide +kernel
theorem dX4_memberIn_40 : decode cX4_memberIn 40 = .ok (.iload_n 3, 1) := by decide +kernel
theorem dX4_memberIn_41 : decode cX4_memberIn 41 = .ok (.ireturn, 1) := by decide +kernel
theorem dX4_memberIn_42 : decode cX4_memberIn 42 = .ok (.iinc 3 1, 3) := by decide +kernel
theorem dX4_memberIn_45 : decode cX4_memberIn 45 = .ok (.goto (-38), 3) := by decide +kernel
theorem dX4_memberIn_48 : decode cX4_memberIn 48 = .ok (.bipush (-9), 2) := by decide +kernel
theorem dX4_memberIn_50 : decode cX4_memberIn 50 = .ok (.ireturn, 1) := by decide +kernel
theorem dX4_setOf_0 : decode cX4_setOf 0 = .ok (.iconst 0, 1) := by decide +kernel
theorem dX4_setOf_1 : decode cX4_setOf 1 = .ok (.istore_n 2, 1) := by decide +kernel
theorem dX4_setOf_2 : decode cX4_setOf 2 = .ok (.iconst 0, 1) := by decide +kernel
theorem dX4_setOf_3 : decode cX4_setOf 3 = .ok (.istore_n 3, 1) := by decide +kernel
theorem dX4_setOf_4 : decode cX4_setOf 4 = .ok (.iload_n 3, 1) := by decide +kernel
theorem dX4_setOf_5 : decode cX4_setOf 5 = .ok (.aload_n 0, 1) := by decide +kernel
theorem dX4_setOf_6 : decode cX4_setOf 6 = .ok (.getfield 101, 3) := by decide +kernel
theorem dX4_setOf_9 : decode cX4_setOf 9 = .ok (.if_icmp .ge 39, 3) := by decide +kernel
theorem dX4_setOf_12 : decode cX4_setOf 12 = .ok (.iload_n 2, 1) := by decide +kernel
theorem dX4_setOf_13 : decode cX4_setOf 13 = .ok (.aload_n 0, 1) := by decide +kernel
theorem dX4_setOf_14 : decode cX4_setOf 14 = .ok (.getfield 50, 3) := by decide +kernel
theorem dX4_setOf_17 : decode cX4_setOf 17 = .ok (.iload_n 3, 1) := by decide +kernel
theorem dX4_setOf_18 : decode cX4_setOf 18 = .ok (.iaload, 1) := by decide +kernel
theorem dX4_setOf_19 : decode cX4_setOf 19 = .ok (.iload_n 1, 1) := by decide +kernel
theorem dX4_setOf_20 : decode cX4_setOf 20 = .ok (.if_icmp .ne 19, 3) := by decide +kernel
theorem dX4_setOf_23 : decode cX4_setOf 23 = .ok (.iconst 1, 1) := by decide +kernel
theorem dX4_setOf_24 : decode cX4_setOf 24 = .ok (.aload_n 0, 1) := by decide +kernel
theorem dX4_setOf_25 : decode cX4_setOf 25 = .ok (.getfield 28, 3) := by decide +kernel
theorem dX4_setOf_28 : decode cX4_setOf 28 = .ok (.aload_n 0, 1) := by decide +kernel
theorem dX4_setOf_29 : decode cX4_setOf 29 = .ok (.getfield 47, 3) := by decide +kernel
theorem dX4_setOf_32 : decode cX4_setOf 32 = .ok (.iload_n 3, 1) := by decide +kernel
theorem dX4_setOf_33 : decode cX4_setOf 33 = .ok (.iaload, 1) := by decide +kernel
theorem dX4_setOf_34 : decode cX4_setOf 34 = .ok (.iaload, 1) := by decide +kernel
theorem dX4_setOf_35 : decode cX4_setOf 35 = .ok (.ishl, 1) := by decide +kernel
theorem dX4_setOf_36 : decode cX4_setOf 36 = .ok (.goto 4, 3) := by decide +kernel
theorem dX4_setOf_39 : decode cX4_setOf 39 = .ok (.iconst 0, 1) := by decide +kernel
theorem dX4_setOf_40 : decode cX4_setOf 40 = .ok (.ior, 1) := by decide +kernel
theorem dX4_setOf_41 : decode cX4_setOf 41 = .ok (.istore_n 2, 1) := by decide +kernel
theorem dX4_setOf_42 : decode cX4_setOf 42 = .ok (.iinc 3 1, 3) := by decide +kernel
theorem dX4_setOf_45 : decode cX4_setOf 45 = .ok (.goto (-41), 3) := by decide +kernel
theorem dX4_setOf_48 : decode cX4_setOf 48 = .ok (.iload_n 2, 1) := by decide +kernel
theorem dX4_setOf_49 : decode cX4_setOf 49 = .ok (.ireturn, 1) := by decide +kernel
theorem dX4_size_0 : decode cX4_size 0 = .ok (.iconst 0, 1) := by decide +kernel
theorem dX4_size_1 : decode cX4_size 1 = .ok (.istore_n 1, 1) := by decide +kernel
theorem dX4_size_2 : decode cX4_size 2 = .ok (.iconst 0, 1) := by decide +kernel
theorem dX4_size_3 : decode cX4_size 3 = .ok (.istore_n 2, 1) := by decide +kernel
theorem dX4_size_4 : decode cX4_size 4 = .ok (.iload_n 2, 1) := by decide +kernel
theorem dX4_size_5 : decode cX4_size 5 = .ok (.bipush 6, 2) := by decide +kernel
theorem dX4_size_7 : decode cX4_size 7 = .ok (.if_icmp .ge 17, 3) := by decide +kernel
theorem dX4_size_10 : decode cX4_size 10 = .ok (.iload_n 1, 1) := by decide +kernel
theorem dX4_size_11 : decode cX4_size 11 = .ok (.iload_n 0, 1) := by decide +kernel
theorem dX4_size_12 : decode cX4_size 12 = .ok (.iload_n 2, 1) := by decide +kernel
theorem dX4_size_13 : decode cX4_size 13 = .ok (.ishr, 1) := by decide +kernel
theorem dX4_size_14 : decode cX4_size 14 = .ok (.iconst 1, 1) := by decide +kernel
theorem dX4_size_15 : decode cX4_size 15 = .ok (.iand, 1) := by decide +kernel
theorem dX4_size_16 : decode cX4_size 16 = .ok (.iadd, 1) := by decide +kernel
theorem dX4_size_17 : decode cX4_size 17 = .ok (.istore_n 1, 1) := by decide +kernel
theorem dX4_size_18 : decode cX4_size 18 = .ok (.iinc 2 1, 3) := by decide +kernel
theorem dX4_size_21 : decode cX4_size 21 = .ok (.goto (-17), 3) := by decide +kernel
theorem dX4_size_24 : decode cX4_size 24 = .ok (.iload_n 1, 1) := by decide +kernel
theorem dX4_size_25 : decode cX4_size 25 = .ok (.ireturn, 1) := by decide +kernel
theorem dX4_isGroup_0 : decode cX4_isGroup 0 = .ok (.aload_n 0, 1) := by decide +kernel
theorem dX4_isGroup_1 : decode cX4_isGroup 1 = .ok (.iconst 0, 1) := by decide +kernel
theorem dX4_isGroup_2 : decode cX4_isGroup 2 = .ok (.iconst 0, 1) := by decide +kernel
theorem dX4_isGroup_3 : decode cX4_isGroup 3 = .ok (.invokevirtual 120, 3) := by decide +kernel
theorem dX4_isGroup_6 : decode cX4_isGroup 6 = .ok (.iload_n 1, 1) := by decide +kernel
theorem dX4_isGroup_7 : decode cX4_isGroup 7 = .ok (.iconst 0, 1) := by decide +kernel
theorem dX4_isGroup_8 : decode cX4_isGroup 8 = .ok (.aload_n 0, 1) := by decide +kernel
theorem dX4_isGroup_9 : decode cX4_isGroup 9 = .ok (.getfield 117, 3) := by decide +kernel
theorem dX4_isGroup_12 : decode cX4_isGroup 12 = .ok (.iconst 1, 1) := by decide +kernel
theorem dX4_isGroup_13 : decode cX4_isGroup 13 = .ok (.isub, 1) := by decide +kernel
theorem dX4_isGroup_14 : decode cX4_isGroup 14 = .ok (.invokestatic 56, 3) := by decide +kernel
theorem dX4_isGroup_17 : decode cX4_isGroup 17 = .ok (.ireturn, 1) := by decide +kernel
theorem dX4_group_0 : decode cX4_group 0 = .ok (.aload_n 0, 1) := by decide +kernel
theorem dX4_group_1 : decode cX4_group 1 = .ok (.iload_n 1, 1) := by decide +kernel
theorem dX4_group_2 : decode cX4_group 2 = .ok (.invokevirtual 123, 3) := by decide +kernel
theorem dX4_group_5 : decode cX4_group 5 = .ok (.ifCond .ne 5, 3) := by decide +kernel
theorem dX4_group_8 : decode cX4_group 8 = .ok (.iconst (-1), 1) := by decide +kernel
theorem dX4_group_9 : decode cX4_group 9 = .ok (.ireturn, 1) := by decide +kernel
theorem dX4_group_10 : decode cX4_group 10 = .ok (.aload_n 0, 1) := by decide +kernel
theorem dX4_group_11 : decode cX4_group 11 = .ok (.getfield 53, 3) := by decide +kernel
theorem dX4_group_14 : decode cX4_group 14 = .ok (.iload_n 1, 1) := by decide +kernel
theorem dX4_group_15 : decode cX4_group 15 = .ok (.iaload, 1) := by decide +kernel
theorem dX4_group_16 : decode cX4_group 16 = .ok (.istore_n 3, 1) := by decide +kernel
theorem dX4_group_17 : decode cX4_group 17 = .ok (.iload_n 2, 1) := by decide +kernel
theorem dX4_group_18 : decode cX4_group 18 = .ok (.tableswitch 93 0 4 #[34, 44, 50, 56, 71], 34) := by decide +kernel
theorem dX4_group_52 : decode cX4_group 52 = .ok (.aload_n 0, 1) := by decide +kernel
theorem dX4_group_53 : decode cX4_group 53 = .ok (.getfield 44, 3) := by decide +kernel
theorem dX4_group_56 : decode cX4_group 56 = .ok (.iload_n 3, 1) := by decide +kernel
theorem dX4_group_57 : decode cX4_group 57 = .ok (.iaload, 1) := by decide +kernel
theorem dX4_group_58 : decode cX4_group 58 = .ok (.bipush 100, 2) := by decide +kernel
theorem dX4_group_60 : decode cX4_group 60 = .ok (.iadd, 1) := by decide +kernel
theorem dX4_group_61 : decode cX4_group 61 = .ok (.ireturn, 1) := by decide +kernel
theorem dX4_group_62 : decode cX4_group 62 = .ok (.aload_n 0, 1) := by decide +kernel
theorem dX4_group_63 : decode cX4_group 63 = .ok (.iload_n 1, 1) := by decide +kernel
theorem dX4_group_64 : decode cX4_group 64 = .ok (.invokevirtual 126, 3) := by decide +kernel
theorem dX4_group_67 : decode cX4_group 67 = .ok (.ireturn, 1) := by decide +kernel
theorem dX4_group_68 : decode cX4_group 68 = .ok (.aload_n 0, 1) := by decide +kernel
theorem dX4_group_69 : decode cX4_group 69 = .ok (.iload_n 1, 1) := by decide +kernel
theorem dX4_group_70 : decode cX4_group 70 = .ok (.invokevirtual 129, 3) := by decide +kernel
theorem dX4_group_73 : decode cX4_group 73 = .ok (.ireturn, 1) := by decide +kernel
theorem dX4_group_74 : decode cX4_group 74 = .ok (.aload_n 0, 1) := by decide +kernel
theorem dX4_group_75 : decode cX4_group 75 = .ok (.iload_n 1, 1) := by decide +kernel
theorem dX4_group_76 : decode cX4_group 76 = .ok (.invokevirtual 129, 3) := by decide +kernel
theorem dX4_group_79 : decode cX4_group 79 = .ok (.aload_n 0, 1) := by decide +kernel
theorem dX4_group_80 : decode cX4_group 80 = .ok (.iload_n 1, 1) := by decide +kernel
theorem dX4_group_81 : decode cX4_group 81 = .ok (.invokevirtual 126, 3) := by decide +kernel
theorem dX4_group_84 : decode cX4_group 84 = .ok (.invokestatic 132, 3) := by decide +kernel
theorem dX4_group_87 : decode cX4_group 87 = .ok (.isub, 1) := by decide +kernel
theorem dX4_group_88 : decode cX4_group 88 = .ok (.ireturn, 1) := by decide +kernel
theorem dX4_group_89 : decode cX4_group 89 = .ok (.aload_n 0, 1) := by decide +kernel
theorem dX4_group_90 : decode cX4_group 90 = .ok (.getfield 44, 3) := by decide +kernel
theorem dX4_group_93 : decode cX4_group 93 = .ok (.iload_n 3, 1) := by decide +kernel
theorem dX4_group_94 : decode cX4_group 94 = .ok (.aload_n 0, 1) := by decide +kernel
theorem dX4_group_95 : decode cX4_group 95 = .ok (.iload_n 1, 1) := by decide +kernel
theorem dX4_group_96 : decode cX4_group 96 = .ok (.invokevirtual 129, 3) := by decide +kernel
theorem dX4_group_99 : decode cX4_group 99 = .ok (.iadd, 1) := by decide +kernel
theorem dX4_group_100 : decode cX4_group 100 = .ok (.iconst 1, 1) := by decide +kernel
theorem dX4_group_101 : decode cX4_group 101 = .ok (.isub, 1) := by decide +kernel
theorem dX4_group_102 : decode cX4_group 102 = .ok (.iaload, 1) := by decide +kernel
theorem dX4_group_103 : decode cX4_group 103 = .ok (.aload_n 0, 1) := by decide +kernel
theorem dX4_group_104 : decode cX4_group 104 = .ok (.getfield 44, 3) := by decide +kernel
theorem dX4_group_107 : decode cX4_group 107 = .ok (.iload_n 3, 1) := by decide +kernel
theorem dX4_group_108 : decode cX4_group 108 = .ok (.iaload, 1) := by decide +kernel
theorem dX4_group_109 : decode cX4_group 109 = .ok (.isub, 1) := by decide +kernel
theorem dX4_group_110 : decode cX4_group 110 = .ok (.ireturn, 1) := by decide +kernel
theorem dX4_group_111 : decode cX4_group 111 = .ok (.bipush (-2), 2) := by decide +kernel
theorem dX4_group_113 : decode cX4_group 113 = .ok (.ireturn, 1) := by decide +kernel
theorem dX4_member_0 : decode cX4_member 0 = .ok (.aload_n 0, 1) := by decide +kernel
theorem dX4_member_1 : decode cX4_member 1 = .ok (.iload_n 1, 1) := by decide +kernel
theorem dX4_member_2 : decode cX4_member 2 = .ok (.invokevirtual 123, 3) := by decide +kernel
theorem dX4_member_5 : decode cX4_member 5 = .ok (.ifCond .eq 10, 3) := by decide +kernel
theorem dX4_member_8 : decode cX4_member 8 = .ok (.iload_n 2, 1) := by decide +kernel
theorem dX4_member_9 : decode cX4_member 9 = .ok (.invokestatic 68, 3) := by decide +kernel
theorem dX4_member_12 : decode cX4_member 12 = .ok (.ifCond .ne 5, 3) := by decide +kernel
theorem dX4_member_15 : decode cX4_member 15 = .ok (.iconst (-1), 1) := by decide +kernel
theorem dX4_member_16 : decode cX4_member 16 = .ok (.ireturn, 1) := by decide +kernel
theorem dX4_member_17 : decode cX4_member 17 = .ok (.iload_n 3, 1) := by decide +kernel
theorem dX4_member_18 : decode cX4_member 18 = .ok (.iconst 0, 1) := by decide +kernel
theorem dX4_member_19 : decode cX4_member 19 = .ok (.iconst 1, 1) := by decide +kernel
theorem dX4_member_20 : decode cX4_member 20 = .ok (.invokestatic 56, 3) := by decide +kernel
theorem dX4_member_23 : decode cX4_member 23 = .ok (.ifCond .ne 6, 3) := by decide +kernel
theorem dX4_member_26 : decode cX4_member 26 = .ok (.bipush (-2), 2) := by decide +kernel
theorem dX4_member_28 : decode cX4_member 28 = .ok (.ireturn, 1) := by decide +kernel
theorem dX4_member_29 : decode cX4_member 29 = .ok (.aload_n 0, 1) := by decide +kernel
theorem dX4_member_30 : decode cX4_member 30 = .ok (.iload_n 1, 1) := by decide +kernel
theorem dX4_member_31 : decode cX4_member 31 = .ok (.iload_n 2, 1) := by decide +kernel
theorem dX4_member_32 : decode cX4_member 32 = .ok (.invokevirtual 135, 3) := by decide +kernel
theorem dX4_member_35 : decode cX4_member 35 = .ok (.istore 4, 2) := by decide +kernel
theorem dX4_member_37 : decode cX4_member 37 = .ok (.iload 4, 2) := by decide +kernel
theorem dX4_member_39 : decode cX4_member 39 = .ok (.bipush (-9), 2) := by decide +kernel
theorem dX4_member_41 : decode cX4_member 41 = .ok (.if_icmp .ne 8, 3) := by decide +kernel
theorem dX4_member_44 : decode cX4_member 44 = .ok (.bipush (-9), 2) := by decide +kernel
theorem dX4_member_46 : decode cX4_member 46 = .ok (.goto 34, 3) := by decide +kernel
theorem dX4_member_49 : decode cX4_member 49 = .ok (.iload_n 3, 1) := by decide +kernel
theorem dX4_member_50 : decode cX4_member 50 = .ok (.ifCond .ne 18, 3) := by decide +kernel
theorem dX4_member_53 : decode cX4_member 53 = .ok (.aload_n 0, 1) := by decide +kernel
theorem dX4_member_54 : decode cX4_member 54 = .ok (.getfield 31, 3) := by decide +kernel
theorem dX4_member_57 : decode cX4_member 57 = .ok (.aload_n 0, 1) := by decide +kernel
theorem dX4_member_58 : decode cX4_member 58 = .ok (.getfield 47, 3) := by decide +kernel
theorem dX4_member_61 : decode cX4_member 61 = .ok (.iload 4, 2) := by decide +kernel
theorem dX4_member_63 : decode cX4_member 63 = .ok (.iaload, 1) := by decide +kernel
theorem dX4_member_64 : decode cX4_member 64 = .ok (.iaload, 1) := by decide +kernel
theorem dX4_member_65 : decode cX4_member 65 = .ok (.goto 15, 3) := by decide +kernel
theorem dX4_member_68 : decode cX4_member 68 = .ok (.aload_n 0, 1) := by decide +kernel
theorem dX4_member_69 : decode cX4_member 69 = .ok (.getfield 34, 3) := by decide +kernel
theorem dX4_member_72 : decode cX4_member 72 = .ok (.aload_n 0, 1) := by decide +kernel
theorem dX4_member_73 : decode cX4_member 73 = .ok (.getfield 47, 3) := by decide +kernel
theorem dX4_member_76 : decode cX4_member 76 = .ok (.iload 4, 2) := by decide +kernel
theorem dX4_member_78 : decode cX4_member 78 = .ok (.iaload, 1) := by decide +kernel
theorem dX4_member_79 : decode cX4_member 79 = .ok (.iaload, 1) := by decide +kernel
theorem dX4_member_80 : decode cX4_member 80 = .ok (.ireturn, 1) := by decide +kernel
theorem dX4_having_0 : decode cX4_having 0 = .ok (.iload_n 1, 1) := by decide +kernel
theorem dX4_having_1 : decode cX4_having 1 = .ok (.iconst 0, 1) := by decide +kernel
theorem dX4_having_2 : decode cX4_having 2 = .ok (.bipush 63, 2) := by decide +kernel
theorem dX4_having_4 : decode cX4_having 4 = .ok (.invokestatic 56, 3) := by decide +kernel
theorem dX4_having_7 : decode cX4_having 7 = .ok (.ifCond .eq 12, 3) := by decide +kernel
theorem dX4_having_10 : decode cX4_having 10 = .ok (.iload_n 2, 1) := by decide +kernel
theorem dX4_having_11 : decode cX4_having 11 = .ok (.iconst 0, 1) := by decide +kernel
theorem dX4_having_12 : decode cX4_having 12 = .ok (.iconst 2, 1) := by decide +kernel
theorem dX4_having_13 : decode cX4_having 13 = .ok (.invokestatic 56, 3) := by decide +kernel
theorem dX4_having_16 : decode cX4_having 16 = .ok (.ifCond .ne 6, 3) := by decide +kernel
theorem dX4_having_19 : decode cX4_having 19 = .ok (.bipush (-2), 2) := by decide +kernel
theorem dX4_having_21 : decode cX4_having 21 = .ok (.ireturn, 1) := by decide +kernel
theorem dX4_having_22 : decode cX4_having 22 = .ok (.aload_n 0, 1) := by decide +kernel
theorem dX4_having_23 : decode cX4_having 23 = .ok (.iconst 0, 1) := by decide +kernel
theorem dX4_having_24 : decode cX4_having 24 = .ok (.iconst 0, 1) := by decide +kernel
theorem dX4_having_25 : decode cX4_having 25 = .ok (.invokevirtual 120, 3) := by decide +kernel
theorem dX4_having_28 : decode cX4_having 28 = .ok (.iconst 0, 1) := by decide +kernel
theorem dX4_having_29 : decode cX4_having 29 = .ok (.istore_n 3, 1) := by decide +kernel
theorem dX4_having_30 : decode cX4_having 30 = .ok (.iconst 0, 1) := by decide +kernel
theorem dX4_having_31 : decode cX4_having 31 = .ok (.istore 4, 2) := by decide +kernel
theorem dX4_having_33 : decode cX4_having 33 = .ok (.iload 4, 2) := by decide +kernel
theorem dX4_having_35 : decode cX4_having 35 = .ok (.aload_n 0, 1) := by decide +kernel
theorem dX4_having_36 : decode cX4_having 36 = .ok (.getfield 117, 3) := by decide +kernel
theorem dX4_having_39 : decode cX4_having 39 = .ok (.if_icmp .ge 83, 3) := by decide +kernel
theorem dX4_having_42 : decode cX4_having 42 = .ok (.aload_n 0, 1) := by decide +kernel
theorem dX4_having_43 : decode cX4_having 43 = .ok (.iload 4, 2) := by decide +kernel
theorem dX4_having_45 : decode cX4_having 45 = .ok (.invokevirtual 126, 3) := by decide +kernel
theorem dX4_having_48 : decode cX4_having 48 = .ok (.istore 5, 2) := by decide +kernel
theorem dX4_having_50 : decode cX4_having 50 = .ok (.iload_n 2, 1) := by decide +kernel
theorem dX4_having_51 : decode cX4_having 51 = .ok (.ifCond .ne 17, 3) := by decide +kernel
theorem dX4_having_54 : decode cX4_having 54 = .ok (.iload 5, 2) := by decide +kernel
theorem dX4_having_56 : decode cX4_having 56 = .ok (.iload_n 1, 1) := by decide +kernel
theorem dX4_having_57 : decode cX4_having 57 = .ok (.if_icmp .ne 7, 3) := by decide +kernel
theorem dX4_having_60 : decode cX4_having 60 = .ok (.iconst 1, 1) := by decide +kernel
theorem dX4_having_61 : decode cX4_having 61 = .ok (.goto 40, 3) := by decide +kernel
theorem dX4_having_64 : decode cX4_having 64 = .ok (.iconst 0, 1) := by decide +kernel
theorem dX4_having_65 : decode cX4_having 65 = .ok (.goto 36, 3) := by decide +kernel
theorem dX4_having_68 : decode cX4_having 68 = .ok (.iload_n 2, 1) := by decide +kernel
theorem dX4_having_69 : decode cX4_having 69 = .ok (.iconst 1, 1) := by decide +kernel
theorem dX4_having_70 : decode cX4_having 70 = .ok (.if_icmp .ne 19, 3) := by decide +kernel
theorem dX4_having_73 : decode cX4_having 73 = .ok (.iload 5, 2) := by decide +kernel
theorem dX4_having_75 : decode cX4_having 75 = .ok (.iload_n 1, 1) := by decide +kernel
theorem dX4_having_76 : decode cX4_having 76 = .ok (.iand, 1) := by decide +kernel
theorem dX4_having_77 : decode cX4_having 77 = .ok (.iload_n 1, 1) := by decide +kernel
theorem dX4_having_78 : decode cX4_having 78 = .ok (.if_icmp .ne 7, 3) := by decide +kernel
theorem dX4_having_81 : decode cX4_having 81 = .ok (.iconst 1, 1) := by decide +kernel
theorem dX4_having_82 : decode cX4_having 82 = .ok (.goto 19, 3) := by decide +kernel
theorem dX4_having_85 : decode cX4_having 85 = .ok (.iconst 0, 1) := by decide +kernel
theorem dX4_having_86 : decode cX4_having 86 = .ok (.goto 15, 3) := by decide +kernel
theorem dX4_having_89 : decode cX4_having 89 = .ok (.iload 5, 2) := by decide +kernel
theorem dX4_having_91 : decode cX4_having 91 = .ok (.iload_n 1, 1) := by decide +kernel
theorem dX4_having_92 : decode cX4_having 92 = .ok (.iand, 1) := by decide +kernel
theorem dX4_having_93 : decode cX4_having 93 = .ok (.ifCond .ne 7, 3) := by decide +kernel
theorem dX4_having_96 : decode cX4_having 96 = .ok (.iconst 1, 1) := by decide +kernel
theorem dX4_having_97 : decode cX4_having 97 = .ok (.goto 4, 3) := by decide +kernel
theorem dX4_having_100 : decode cX4_having 100 = .ok (.iconst 0, 1) := by decide +kernel
theorem dX4_having_101 : decode cX4_having 101 = .ok (.istore 6, 2) := by decide +kernel
theorem dX4_having_103 : decode cX4_having 103 = .ok (.iload_n 3, 1) := by decide +kernel
theorem dX4_having_104 : decode cX4_having 104 = .ok (.iload 6, 2) := by decide +kernel
theorem dX4_having_106 : decode cX4_having 106 = .ok (.ifCond .eq 7, 3) := by decide +kernel
theorem dX4_having_109 : decode cX4_having 109 = .ok (.iconst 1, 1) := by decide +kernel
theorem dX4_having_110 : decode cX4_having 110 = .ok (.goto 4, 3) := by decide +kernel
theorem dX4_having_113 : decode cX4_having 113 = .ok (.iconst 0, 1) := by decide +kernel
theorem dX4_having_114 : decode cX4_having 114 = .ok (.iadd, 1) := by decide +kernel
theorem dX4_having_115 : decode cX4_having 115 = .ok (.istore_n 3, 1) := by decide +kernel
theorem dX4_having_116 : decode cX4_having 116 = .ok (.iinc 4 1, 3) := by decide +kernel
theorem dX4_having_119 : decode cX4_having 119 = .ok (.goto (-86), 3) := by decide +kernel
theorem dX4_having_122 : decode cX4_having 122 = .ok (.iload_n 3, 1) := by decide +kernel
theorem dX4_having_123 : decode cX4_having 123 = .ok (.ireturn, 1) := by decide +kernel
theorem dX4_folds_0 : decode cX4_folds 0 = .ok (.iload_n 1, 1) := by decide +kernel
theorem dX4_folds_1 : decode cX4_folds 1 = .ok (.iconst 1, 1) := by decide +kernel
theorem dX4_folds_2 : decode cX4_folds 2 = .ok (.bipush 6, 2) := by decide +kernel
theorem dX4_folds_4 : decode cX4_folds 4 = .ok (.invokestatic 56, 3) := by decide +kernel
theorem dX4_folds_7 : decode cX4_folds 7 = .ok (.ifCond .ne 6, 3) := by decide +kernel
theorem dX4_folds_10 : decode cX4_folds 10 = .ok (.bipush (-2), 2) := by decide +kernel
theorem dX4_folds_12 : decode cX4_folds 12 = .ok (.ireturn, 1) := by decide +kernel
theorem dX4_folds_13 : decode cX4_folds 13 = .ok (.aload_n 0, 1) := by decide +kernel
theorem dX4_folds_14 : decode cX4_folds 14 = .ok (.iconst 0, 1) := by decide +kernel
theorem dX4_folds_15 : decode cX4_folds 15 = .ok (.iconst 0, 1) := by decide +kernel
theorem dX4_folds_16 : decode cX4_folds 16 = .ok (.invokevirtual 120, 3) := by decide +kernel
theorem dX4_folds_19 : decode cX4_folds 19 = .ok (.iconst 0, 1) := by decide +kernel
theorem dX4_folds_20 : decode cX4_folds 20 = .ok (.istore_n 2, 1) := by decide +kernel
theorem dX4_folds_21 : decode cX4_folds 21 = .ok (.iconst 0, 1) := by decide +kernel
theorem dX4_folds_22 : decode cX4_folds 22 = .ok (.istore_n 3, 1) := by decide +kernel
theorem dX4_folds_23 : decode cX4_folds 23 = .ok (.iload_n 3, 1) := by decide +kernel
theorem dX4_folds_24 : decode cX4_folds 24 = .ok (.aload_n 0, 1) := by decide +kernel
theorem dX4_folds_25 : decode cX4_folds 25 = .ok (.getfield 117, 3) := by decide +kernel
theorem dX4_folds_28 : decode cX4_folds 28 = .ok (.if_icmp .ge 29, 3) := by decide +kernel
theorem dX4_folds_31 : decode cX4_folds 31 = .ok (.iload_n 2, 1) := by decide +kernel
theorem dX4_folds_32 : decode cX4_folds 32 = .ok (.aload_n 0, 1) := by decide +kernel
theorem dX4_folds_33 : decode cX4_folds 33 = .ok (.iload_n 3, 1) := by decide +kernel
theorem dX4_folds_34 : decode cX4_folds 34 = .ok (.invokevirtual 126, 3) := by decide +kernel
theorem dX4_folds_37 : decode cX4_folds 37 = .ok (.invokestatic 132, 3) := by decide +kernel
theorem dX4_folds_40 : decode cX4_folds 40 = .ok (.iload_n 1, 1) := by decide +kernel
theorem dX4_folds_41 : decode cX4_folds 41 = .ok (.if_icmp .ne 7, 3) := by decide +kernel
theorem dX4_folds_44 : decode cX4_folds 44 = .ok (.iconst 1, 1) := by decide +kernel
theorem dX4_folds_45 : decode cX4_folds 45 = .ok (.goto 4, 3) := by decide +kernel
theorem dX4_folds_48 : decode cX4_folds 48 = .ok (.iconst 0, 1) := by decide +kernel
theorem dX4_folds_49 : decode cX4_folds 49 = .ok (.iadd, 1) := by decide +kernel
theorem dX4_folds_50 : decode cX4_folds 50 = .ok (.istore_n 2, 1) := by decide +kernel
theorem dX4_folds_51 : decode cX4_folds 51 = .ok (.iinc 3 1, 3) := by decide +kernel
theorem dX4_folds_54 : decode cX4_folds 54 = .ok (.goto (-31), 3) := by decide +kernel
theorem dX4_folds_57 : decode cX4_folds 57 = .ok (.iload_n 2, 1) := by decide +kernel
theorem dX4_folds_58 : decode cX4_folds 58 = .ok (.ireturn, 1) := by decide +kernel
theorem dX4_coincidences_0 : decode cX4_coincidences 0 = .ok (.iconst 0, 1) := by decide +kernel
theorem dX4_coincidences_1 : decode cX4_coincidences 1 = .ok (.istore_n 2, 1) := by decide +kernel
theorem dX4_coincidences_2 : decode cX4_coincidences 2 = .ok (.iconst 0, 1) := by decide +kernel
theorem dX4_coincidences_3 : decode cX4_coincidences 3 = .ok (.istore_n 3, 1) := by decide +kernel
theorem dX4_coincidences_4 : decode cX4_coincidences 4 = .ok (.iload_n 3, 1) := by decide +kernel
theorem dX4_coincidences_5 : decode cX4_coincidences 5 = .ok (.iload_n 1, 1) := by decide +kernel
theorem dX4_coincidences_6 : decode cX4_coincidences 6 = .ok (.if_icmp .ge 34, 3) := by decide +kernel
theorem dX4_coincidences_9 : decode cX4_coincidences 9 = .ok (.iload_n 2, 1) := by decide +kernel
theorem dX4_coincidences_10 : decode cX4_coincidences 10 = .ok (.aload_n 0, 1) := by decide +kernel
theorem dX4_coincidences_11 : decode cX4_coincidences 11 = .ok (.iload_n 3, 1) := by decide +kernel
theorem dX4_coincidences_12 : decode cX4_coincidences 12 = .ok (.invokevirtual 126, 3) := by decide +kernel
theorem dX4_coincidences_15 : decode cX4_coincidences 15 = .ok (.invokestatic 132, 3) := by decide +kernel
theorem dX4_coincidences_18 : decode cX4_coincidences 18 = .ok (.aload_n 0, 1) := by decide +kernel
theorem dX4_coincidences_19 : decode cX4_coincidences 19 = .ok (.getfield 19, 3) := by decide +kernel
theorem dX4_coincidences_22 : decode cX4_coincidences 22 = .ok (.iconst 2, 1) := by decide +kernel
theorem dX4_coincidences_23 : decode cX4_coincidences 23 = .ok (.iaload, 1) := by decide +kernel
theorem dX4_coincidences_24 : decode cX4_coincidences 24 = .ok (.if_icmp .lt 7, 3) := by decide +kernel
theorem dX4_coincidences_27 : decode cX4_coincidences 27 = .ok (.iconst 1, 1) := by decide +kernel
theorem dX4_coincidences_28 : decode cX4_coincidences 28 = .ok (.goto 4, 3) := by decide +kernel
theorem dX4_coincidences_31 : decode cX4_coincidences 31 = .ok (.iconst 0, 1) := by decide +kernel
theorem dX4_coincidences_32 : decode cX4_coincidences 32 = .ok (.iadd, 1) := by decide +kernel
theorem dX4_coincidences_33 : decode cX4_coincidences 33 = .ok (.istore_n 2, 1) := by decide +kernel
theorem dX4_coincidences_34 : decode cX4_coincidences 34 = .ok (.iinc 3 1, 3) := by decide +kernel
theorem dX4_coincidences_37 : decode cX4_coincidences 37 = .ok (.goto (-33), 3) := by decide +kernel
theorem dX4_coincidences_40 : decode cX4_coincidences 40 = .ok (.iload_n 2, 1) := by decide +kernel
theorem dX4_coincidences_41 : decode cX4_coincidences 41 = .ok (.ireturn, 1) := by decide +kernel
theorem dX4_shifted_0 : decode cX4_shifted 0 = .ok (.iload_n 1, 1) := by decide +kernel
theorem dX4_shifted_1 : decode cX4_shifted 1 = .ok (.iconst 0, 1) := by decide +kernel
theorem dX4_shifted_2 : decode cX4_shifted 2 = .ok (.bipush 63, 2) := by decide +kernel
theorem dX4_shifted_4 : decode cX4_shifted 4 = .ok (.invokestatic 56, 3) := by decide +kernel
theorem dX4_shifted_7 : decode cX4_shifted 7 = .ok (.ifCond .eq 14, 3) := by decide +kernel
theorem dX4_shifted_10 : decode cX4_shifted 10 = .ok (.iload_n 2, 1) := by decide +kernel
theorem dX4_shifted_11 : decode cX4_shifted 11 = .ok (.iconst 0, 1) := by decide +kernel
theorem dX4_shifted_12 : decode cX4_shifted 12 = .ok (.sipush 500, 3) := by decide +kernel
theorem dX4_shifted_15 : decode cX4_shifted 15 = .ok (.invokestatic 56, 3) := by decide +kernel
theorem dX4_shifted_18 : decode cX4_shifted 18 = .ok (.ifCond .ne 6, 3) := by decide +kernel
theorem dX4_shifted_21 : decode cX4_shifted 21 = .ok (.bipush (-2), 2) := by decide +kernel
theorem dX4_shifted_23 : decode cX4_shifted 23 = .ok (.ireturn, 1) := by decide +kernel
theorem dX4_shifted_24 : decode cX4_shifted 24 = .ok (.aload_n 0, 1) := by decide +kernel
theorem dX4_shifted_25 : decode cX4_shifted 25 = .ok (.getfield 64, 3) := by decide +kernel
theorem dX4_shifted_28 : decode cX4_shifted 28 = .ok (.ifCond .ne 6, 3) := by decide +kernel
theorem dX4_shifted_31 : decode cX4_shifted 31 = .ok (.bipush (-3), 2) := by decide +kernel
theorem dX4_shifted_33 : decode cX4_shifted 33 = .ok (.ireturn, 1) := by decide +kernel
theorem dX4_shifted_34 : decode cX4_shifted 34 = .ok (.aload_n 0, 1) := by decide +kernel
theorem dX4_shifted_35 : decode cX4_shifted 35 = .ok (.iload_n 1, 1) := by decide +kernel
theorem dX4_shifted_36 : decode cX4_shifted 36 = .ok (.iload_n 2, 1) := by decide +kernel
theorem dX4_shifted_37 : decode cX4_shifted 37 = .ok (.invokevirtual 120, 3) := by decide +kernel
theorem dX4_shifted_40 : decode cX4_shifted 40 = .ok (.aload_n 0, 1) := by decide +kernel
theorem dX4_shifted_41 : decode cX4_shifted 41 = .ok (.aload_n 0, 1) := by decide +kernel
theorem dX4_shifted_42 : decode cX4_shifted 42 = .ok (.getfield 114, 3) := by decide +kernel
theorem dX4_shifted_45 : decode cX4_shifted 45 = .ok (.invokevirtual 139, 3) := by decide +kernel
theorem dX4_shifted_48 : decode cX4_shifted 48 = .ok (.ireturn, 1) := by decide +kernel
theorem dX4_twos_0 : decode cX4_twos 0 = .ok (.iload_n 1, 1) := by decide +kernel
theorem dX4_twos_1 : decode cX4_twos 1 = .ok (.invokestatic 68, 3) := by decide +kernel
theorem dX4_twos_4 : decode cX4_twos 4 = .ok (.ifCond .eq 10, 3) := by decide +kernel
theorem dX4_twos_7 : decode cX4_twos 7 = .ok (.iload_n 2, 1) := by decide +kernel
theorem dX4_twos_8 : decode cX4_twos 8 = .ok (.invokestatic 68, 3) := by decide +kernel
theorem dX4_twos_11 : decode cX4_twos 11 = .ok (.ifCond .ne 5, 3) := by decide +kernel
theorem dX4_twos_14 : decode cX4_twos 14 = .ok (.iconst (-1), 1) := by decide +kernel
theorem dX4_twos_15 : decode cX4_twos 15 = .ok (.ireturn, 1) := by decide +kernel
theorem dX4_twos_16 : decode cX4_twos 16 = .ok (.iload_n 3, 1) := by decide +kernel
theorem dX4_twos_17 : decode cX4_twos 17 = .ok (.sipush (-200), 3) := by decide +kernel
theorem dX4_twos_20 : decode cX4_twos 20 = .ok (.sipush 200, 3) := by decide +kernel
theorem dX4_twos_23 : decode cX4_twos 23 = .ok (.invokestatic 56, 3) := by decide +kernel
theorem dX4_twos_26 : decode cX4_twos 26 = .ok (.ifCond .ne 6, 3) := by decide +kernel
theorem dX4_twos_29 : decode cX4_twos 29 = .ok (.bipush (-2), 2) := by decide +kernel
theorem dX4_twos_31 : decode cX4_twos 31 = .ok (.ireturn, 1) := by decide +kernel
theorem dX4_twos_32 : decode cX4_twos 32 = .ok (.iload_n 1, 1) := by decide +kernel
theorem dX4_twos_33 : decode cX4_twos 33 = .ok (.iload_n 2, 1) := by decide +kernel
theorem dX4_twos_34 : decode cX4_twos 34 = .ok (.if_icmp .ne 6, 3) := by decide +kernel
theorem dX4_twos_37 : decode cX4_twos 37 = .ok (.bipush (-3), 2) := by decide +kernel
theorem dX4_twos_39 : decode cX4_twos 39 = .ok (.ireturn, 1) := by decide +kernel
theorem dX4_twos_40 : decode cX4_twos 40 = .ok (.aload_n 0, 1) := by decide +kernel
theorem dX4_twos_41 : decode cX4_twos 41 = .ok (.iconst 0, 1) := by decide +kernel
theorem dX4_twos_42 : decode cX4_twos 42 = .ok (.iconst 0, 1) := by decide +kernel
theorem dX4_twos_43 : decode cX4_twos 43 = .ok (.invokevirtual 120, 3) := by decide +kernel
theorem dX4_twos_46 : decode cX4_twos 46 = .ok (.iconst 0, 1) := by decide +kernel
theorem dX4_twos_47 : decode cX4_twos 47 = .ok (.istore 4, 2) := by decide +kernel
theorem dX4_twos_49 : decode cX4_twos 49 = .ok (.iconst 0, 1) := by decide +kernel
theorem dX4_twos_50 : decode cX4_twos 50 = .ok (.istore 5, 2) := by decide +kernel
theorem dX4_twos_52 : decode cX4_twos 52 = .ok (.iload 5, 2) := by decide +kernel
theorem dX4_twos_54 : decode cX4_twos 54 = .ok (.aload_n 0, 1) := by decide +kernel
theorem dX4_twos_55 : decode cX4_twos 55 = .ok (.getfield 101, 3) := by decide +kernel
theorem dX4_twos_58 : decode cX4_twos 58 = .ok (.if_icmp .ge 100, 3) := by decide +kernel
theorem dX4_twos_61 : decode cX4_twos 61 = .ok (.iconst 0, 1) := by decide +kernel
theorem dX4_twos_62 : decode cX4_twos 62 = .ok (.istore 6, 2) := by decide +kernel
theorem dX4_twos_64 : decode cX4_twos 64 = .ok (.iload 6, 2) := by decide +kernel
theorem dX4_twos_66 : decode cX4_twos 66 = .ok (.aload_n 0, 1) := by decide +kernel
theorem dX4_twos_67 : decode cX4_twos 67 = .ok (.getfield 101, 3) := by decide +kernel
theorem dX4_twos_70 : decode cX4_twos 70 = .ok (.if_icmp .ge 82, 3) := by decide +kernel
theorem dX4_twos_73 : decode cX4_twos 73 = .ok (.aload_n 0, 1) := by decide +kernel
theorem dX4_twos_74 : decode cX4_twos 74 = .ok (.getfield 28, 3) := by decide +kernel
theorem dX4_twos_77 : decode cX4_twos 77 = .ok (.aload_n 0, 1) := by decide +kernel
theorem dX4_twos_78 : decode cX4_twos 78 = .ok (.getfield 47, 3) := by decide +kernel
theorem dX4_twos_81 : decode cX4_twos 81 = .ok (.iload 5, 2) := by decide +kernel
theorem dX4_twos_83 : decode cX4_twos 83 = .ok (.iaload, 1) := by decide +kernel
theorem dX4_twos_84 : decode cX4_twos 84 = .ok (.iaload, 1) := by decide +kernel
theorem dX4_twos_85 : decode cX4_twos 85 = .ok (.iload_n 1, 1) := by decide +kernel
theorem dX4_twos_86 : decode cX4_twos 86 = .ok (.if_icmp .ne 23, 3) := by decide +kernel
theorem dX4_twos_89 : decode cX4_twos 89 = .ok (.aload_n 0, 1) := by decide +kernel
theorem dX4_twos_90 : decode cX4_twos 90 = .ok (.getfield 28, 3) := by decide +kernel
theorem dX4_twos_93 : decode cX4_twos 93 = .ok (.aload_n 0, 1) := by decide +kernel
theorem dX4_twos_94 : decode cX4_twos 94 = .ok (.getfield 47, 3) := by decide +kernel
theorem dX4_twos_97 : decode cX4_twos 97 = .ok (.iload 6, 2) := by decide +kernel
theorem dX4_twos_99 : decode cX4_twos 99 = .ok (.iaload, 1) := by decide +kernel
theorem dX4_twos_100 : decode cX4_twos 100 = .ok (.iaload, 1) := by decide +kernel
theorem dX4_twos_101 : decode cX4_twos 101 = .ok (.iload_n 2, 1) := by decide +kernel
theorem dX4_twos_102 : decode cX4_twos 102 = .ok (.if_icmp .ne 7, 3) := by decide +kernel
theorem dX4_twos_105 : decode cX4_twos 105 = .ok (.iconst 1, 1) := by decide +kernel
theorem dX4_twos_106 : decode cX4_twos 106 = .ok (.goto 4, 3) := by decide +kernel
theorem dX4_twos_109 : decode cX4_twos 109 = .ok (.iconst 0, 1) := by decide +kernel
theorem dX4_twos_110 : decode cX4_twos 110 = .ok (.istore 7, 2) := by decide +kernel
theorem dX4_twos_112 : decode cX4_twos 112 = .ok (.iload 4, 2) := by decide +kernel
theorem dX4_twos_114 : decode cX4_twos 114 = .ok (.iload 7, 2) := by decide +kernel
theorem dX4_twos_116 : decode cX4_twos 116 = .ok (.ifCond .eq 26, 3) := by decide +kernel
theorem dX4_twos_119 : decode cX4_twos 119 = .ok (.aload_n 0, 1) := by decide +kernel
theorem dX4_twos_120 : decode cX4_twos 120 = .ok (.getfield 44, 3) := by decide +kernel
theorem dX4_twos_123 : decode cX4_twos 123 = .ok (.iload 6, 2) := by decide +kernel
theorem dX4_twos_125 : decode cX4_twos 125 = .ok (.iaload, 1) := by decide +kernel
theorem dX4_twos_126 : decode cX4_twos 126 = .ok (.aload_n 0, 1) := by decide +kernel
theorem dX4_twos_127 : decode cX4_twos 127 = .ok (.getfield 44, 3) := by decide +kernel
theorem dX4_twos_130 : decode cX4_twos 130 = .ok (.iload 5, 2) := by decide +kernel
theorem dX4_twos_132 : decode cX4_twos 132 = .ok (.iaload, 1) := by decide +kernel
theorem dX4_twos_133 : decode cX4_twos 133 = .ok (.isub, 1) := by decide +kernel
theorem dX4_twos_134 : decode cX4_twos 134 = .ok (.iload_n 3, 1) := by decide +kernel
theorem dX4_twos_135 : decode cX4_twos 135 = .ok (.if_icmp .ne 7, 3) := by decide +kernel
theorem dX4_twos_138 : decode cX4_twos 138 = .ok (.iconst 1, 1) := by decide +kernel
theorem dX4_twos_139 : decode cX4_twos 139 = .ok (.goto 4, 3) := by decide +kernel
theorem dX4_twos_142 : decode cX4_twos 142 = .ok (.iconst 0, 1) := by decide +kernel
theorem dX4_twos_143 : decode cX4_twos 143 = .ok (.iadd, 1) := by decide +kernel
theorem dX4_twos_144 : decode cX4_twos 144 = .ok (.istore 4, 2) := by decide +kernel
theorem dX4_twos_146 : decode cX4_twos 146 = .ok (.iinc 6 1, 3) := by decide +kernel
theorem dX4_twos_149 : decode cX4_twos 149 = .ok (.goto (-85), 3) := by decide +kernel
theorem dX4_twos_152 : decode cX4_twos 152 = .ok (.iinc 5 1, 3) := by decide +kernel
theorem dX4_twos_155 : decode cX4_twos 155 = .ok (.goto (-103), 3) := by decide +kernel
theorem dX4_twos_158 : decode cX4_twos 158 = .ok (.iload 4, 2) := by decide +kernel
theorem dX4_twos_160 : decode cX4_twos 160 = .ok (.ireturn, 1) := by decide +kernel
theorem dX4_span_0 : decode cX4_span 0 = .ok (.aload_n 0, 1) := by decide +kernel
theorem dX4_span_1 : decode cX4_span 1 = .ok (.getfield 60, 3) := by decide +kernel
theorem dX4_span_4 : decode cX4_span 4 = .ok (.ifCond .ne 7, 3) := by decide +kernel
theorem dX4_span_7 : decode cX4_span 7 = .ok (.iconst 0, 1) := by decide +kernel
theorem dX4_span_8 : decode cX4_span 8 = .ok (.goto 16, 3) := by decide +kernel
theorem dX4_span_11 : decode cX4_span 11 = .ok (.aload_n 0, 1) := by decide +kernel
theorem dX4_span_12 : decode cX4_span 12 = .ok (.getfield 31, 3) := by decide +kernel
theorem dX4_span_15 : decode cX4_span 15 = .ok (.aload_n 0, 1) := by decide +kernel
theorem dX4_span_16 : decode cX4_span 16 = .ok (.getfield 60, 3) := by decide +kernel
theorem dX4_span_19 : decode cX4_span 19 = .ok (.iconst 1, 1) := by decide +kernel
theorem dX4_span_20 : decode cX4_span 20 = .ok (.isub, 1) := by decide +kernel
theorem dX4_span_21 : decode cX4_span 21 = .ok (.iaload, 1) := by decide +kernel
theorem dX4_span_22 : decode cX4_span 22 = .ok (.iconst 1, 1) := by decide +kernel
theorem dX4_span_23 : decode cX4_span 23 = .ok (.iadd, 1) := by decide +kernel
theorem dX4_span_24 : decode cX4_span 24 = .ok (.ireturn, 1) := by decide +kernel
theorem dX4_liveTime_0 : decode cX4_liveTime 0 = .ok (.aload_n 0, 1) := by decide +kernel
theorem dX4_liveTime_1 : decode cX4_liveTime 1 = .ok (.invokevirtual 90, 3) := by decide +kernel
theorem dX4_liveTime_4 : decode cX4_liveTime 4 = .ok (.aload_n 0, 1) := by decide +kernel
theorem dX4_liveTime_5 : decode cX4_liveTime 5 = .ok (.invokevirtual 142, 3) := by decide +kernel
theorem dX4_liveTime_8 : decode cX4_liveTime 8 = .ok (.istore_n 2, 1) := by decide +kernel
theorem dX4_liveTime_9 : decode cX4_liveTime 9 = .ok (.iconst 0, 1) := by decide +kernel
theorem dX4_liveTime_10 : decode cX4_liveTime 10 = .ok (.istore_n 3, 1) := by decide +kernel
theorem dX4_liveTime_11 : decode cX4_liveTime 11 = .ok (.iconst 0, 1) := by decide +kernel
theorem dX4_liveTime_12 : decode cX4_liveTime 12 = .ok (.istore 4, 2) := by decide +kernel
theorem dX4_liveTime_14 : decode cX4_liveTime 14 = .ok (.iload 4, 2) := by decide +kernel
theorem dX4_liveTime_16 : decode cX4_liveTime 16 = .ok (.aload_n 0, 1) := by decide +kernel
theorem dX4_liveTime_17 : decode cX4_liveTime 17 = .ok (.getfield 60, 3) := by decide +kernel
theorem dX4_liveTime_20 : decode cX4_liveTime 20 = .ok (.if_icmp .ge 132, 3) := by decide +kernel
theorem dX4_liveTime_23 : decode cX4_liveTime 23 = .ok (.aload_n 0, 1) := by decide +kernel
theorem dX4_liveTime_24 : decode cX4_liveTime 24 = .ok (.getfield 28, 3) := by decide +kernel
theorem dX4_liveTime_27 : decode cX4_liveTime 27 = .ok (.iload 4, 2) := by decide +kernel
theorem dX4_liveTime_29 : decode cX4_liveTime 29 = .ok (.iaload, 1) := by decide +kernel
theorem dX4_liveTime_30 : decode cX4_liveTime 30 = .ok (.iload_n 1, 1) := by decide +kernel
theorem dX4_liveTime_31 : decode cX4_liveTime 31 = .ok (.if_icmp .ne 115, 3) := by decide +kernel
theorem dX4_liveTime_34 : decode cX4_liveTime 34 = .ok (.aload_n 0, 1) := by decide +kernel
theorem dX4_liveTime_35 : decode cX4_liveTime 35 = .ok (.getfield 16, 3) := by decide +kernel
theorem dX4_liveTime_38 : decode cX4_liveTime 38 = .ok (.iload_n 1, 1) := by decide +kernel
theorem dX4_liveTime_39 : decode cX4_liveTime 39 = .ok (.iaload, 1) := by decide +kernel
theorem dX4_liveTime_40 : decode cX4_liveTime 40 = .ok (.iconst 1, 1) := by decide +kernel
theorem dX4_liveTime_41 : decode cX4_liveTime 41 = .ok (.if_icmp .eq 13, 3) := by decide +kernel
theorem dX4_liveTime_44 : decode cX4_liveTime 44 = .ok (.aload_n 0, 1) := by decide +kernel
theorem dX4_liveTime_45 : decode cX4_liveTime 45 = .ok (.getfield 37, 3) := by decide +kernel
theorem dX4_liveTime_48 : decode cX4_liveTime 48 = .ok (.iload 4, 2) := by decide +kernel
theorem dX4_liveTime_50 : decode cX4_liveTime 50 = .ok (.baload, 1) := by decide +kernel
theorem dX4_liveTime_51 : decode cX4_liveTime 51 = .ok (.ifCond .eq 95, 3) := by decide +kernel
theorem dX4_liveTime_54 : decode cX4_liveTime 54 = .ok (.aload_n 0, 1) := by decide +kernel
theorem dX4_liveTime_55 : decode cX4_liveTime 55 = .ok (.getfield 31, 3) := by decide +kernel
theorem dX4_liveTime_58 : decode cX4_liveTime 58 = .ok (.iload 4, 2) := by decide +kernel
theorem dX4_liveTime_60 : decode cX4_liveTime 60 = .ok (.iaload, 1) := by decide +kernel
theorem dX4_liveTime_61 : decode cX4_liveTime 61 = .ok (.iload_n 3, 1) := by decide +kernel
theorem dX4_liveTime_62 : decode cX4_liveTime 62 = .ok (.if_icmp .le 13, 3) := by decide +kernel
theorem dX4_liveTime_65 : decode cX4_liveTime 65 = .ok (.aload_n 0, 1) := by decide +kernel
theorem dX4_liveTime_66 : decode cX4_liveTime 66 = .ok (.getfield 31, 3) := by decide +kernel
theorem dX4_liveTime_69 : decode cX4_liveTime 69 = .ok (.iload 4, 2) := by decide +kernel
theorem dX4_liveTime_71 : decode cX4_liveTime 71 = .ok (.iaload, 1) := by decide +kernel
theorem dX4_liveTime_72 : decode cX4_liveTime 72 = .ok (.goto 4, 3) := by decide +kernel
theorem dX4_liveTime_75 : decode cX4_liveTime 75 = .ok (.iload_n 3, 1) := by decide +kernel
theorem dX4_liveTime_76 : decode cX4_liveTime 76 = .ok (.istore 5, 2) := by decide +kernel
theorem dX4_liveTime_78 : decode cX4_liveTime 78 = .ok (.aload_n 0, 1) := by decide +kernel
theorem dX4_liveTime_79 : decode cX4_liveTime 79 = .ok (.getfield 31, 3) := by decide +kernel
theorem dX4_liveTime_82 : decode cX4_liveTime 82 = .ok (.iload 4, 2) := by decide +kernel
theorem dX4_liveTime_84 : decode cX4_liveTime 84 = .ok (.iaload, 1) := by decide +kernel
theorem dX4_liveTime_85 : decode cX4_liveTime 85 = .ok (.aload_n 0, 1) := by decide +kernel
theorem dX4_liveTime_86 : decode cX4_liveTime 86 = .ok (.getfield 13, 3) := by decide +kernel
theorem dX4_liveTime_89 : decode cX4_liveTime 89 = .ok (.iload_n 1, 1) := by decide +kernel
theorem dX4_liveTime_90 : decode cX4_liveTime 90 = .ok (.iaload, 1) := by decide +kernel
theorem dX4_liveTime_91 : decode cX4_liveTime 91 = .ok (.iadd, 1) := by decide +kernel
theorem dX4_liveTime_92 : decode cX4_liveTime 92 = .ok (.istore 6, 2) := by decide +kernel
theorem dX4_liveTime_94 : decode cX4_liveTime 94 = .ok (.iload 6, 2) := by decide +kernel
theorem dX4_liveTime_96 : decode cX4_liveTime 96 = .ok (.iload_n 3, 1) := by decide +kernel
theorem dX4_liveTime_97 : decode cX4_liveTime 97 = .ok (.if_icmp .le 8, 3) := by decide +kernel
theorem dX4_liveTime_100 : decode cX4_liveTime 100 = .ok (.iload 6, 2) := by decide +kernel
theorem dX4_liveTime_102 : decode cX4_liveTime 102 = .ok (.goto 4, 3) := by decide +kernel
theorem dX4_liveTime_105 : decode cX4_liveTime 105 = .ok (.iload_n 3, 1) := by decide +kernel
theorem dX4_liveTime_106 : decode cX4_liveTime 106 = .ok (.istore_n 3, 1) := by decide +kernel
theorem dX4_liveTime_107 : decode cX4_liveTime 107 = .ok (.iload 6, 2) := by decide +kernel
theorem dX4_liveTime_109 : decode cX4_liveTime 109 = .ok (.aload_n 0, 1) := by decide +kernel
theorem dX4_liveTime_110 : decode cX4_liveTime 110 = .ok (.invokevirtual 142, 3) := by decide +kernel
theorem dX4_liveTime_113 : decode cX4_liveTime 113 = .ok (.if_icmp .le 10, 3) := by decide +kernel
theorem dX4_liveTime_116 : decode cX4_liveTime 116 = .ok (.aload_n 0, 1) := by decide +kernel
theorem dX4_liveTime_117 : decode cX4_liveTime 117 = .ok (.invokevirtual 142, 3) := by decide +kernel
theorem dX4_liveTime_120 : decode cX4_liveTime 120 = .ok (.goto 5, 3) := by decide +kernel
theorem dX4_liveTime_123 : decode cX4_liveTime 123 = .ok (.iload 6, 2) := by decide +kernel
theorem dX4_liveTime_125 : decode cX4_liveTime 125 = .ok (.istore 6, 2) := by decide +kernel
theorem dX4_liveTime_127 : decode cX4_liveTime 127 = .ok (.iload_n 2, 1) := by decide +kernel
theorem dX4_liveTime_128 : decode cX4_liveTime 128 = .ok (.iload 6, 2) := by decide +kernel
theorem dX4_liveTime_130 : decode cX4_liveTime 130 = .ok (.iload 5, 2) := by decide +kernel
