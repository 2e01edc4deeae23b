theorem dX4_liveTime_132 : decode cX4_liveTime 132 = .ok (.if_icmp .le 11, 3) := by decide +kernel
theorem dX4_liveTime_135 : decode cX4_liveTime 135 = .ok (.iload 6, 2) := by decide +kernel
theorem dX4_liveTime_137 : decode cX4_liveTime 137 = .ok (.iload 5, 2) := by decide +kernel
theorem dX4_liveTime_139 : decode cX4_liveTime 139 = .ok (.isub, 1) := by decide +kernel
theorem dX4_liveTime_140 : decode cX4_liveTime 140 = .ok (.goto 4, 3) := by decide +kernel
theorem dX4_liveTime_143 : decode cX4_liveTime 143 = .ok (.iconst 0, 1) := by decide +kernel
theorem dX4_liveTime_144 : decode cX4_liveTime 144 = .ok (.isub, 1) := by decide +kernel
theorem dX4_liveTime_145 : decode cX4_liveTime 145 = .ok (.istore_n 2, 1) := by decide +kernel
theorem dX4_liveTime_146 : decode cX4_liveTime 146 = .ok (.iinc 4 1, 3) := by decide +kernel
theorem dX4_liveTime_149 : decode cX4_liveTime 149 = .ok (.goto (-135), 3) := by decide +kernel
theorem dX4_liveTime_152 : decode cX4_liveTime 152 = .ok (.iload_n 2, 1) := by decide +kernel
theorem dX4_liveTime_153 : decode cX4_liveTime 153 = .ok (.ireturn, 1) := by decide +kernel
theorem dX4_live_0 : decode cX4_live 0 = .ok (.iload_n 1, 1) := by decide +kernel
theorem dX4_live_1 : decode cX4_live 1 = .ok (.invokestatic 68, 3) := by decide +kernel
theorem dX4_live_4 : decode cX4_live 4 = .ok (.ifCond .ne 5, 3) := by decide +kernel
theorem dX4_live_7 : decode cX4_live 7 = .ok (.iconst (-1), 1) := by decide +kernel
theorem dX4_live_8 : decode cX4_live 8 = .ok (.ireturn, 1) := by decide +kernel
theorem dX4_live_9 : decode cX4_live 9 = .ok (.aload_n 0, 1) := by decide +kernel
theorem dX4_live_10 : decode cX4_live 10 = .ok (.getfield 64, 3) := by decide +kernel
theorem dX4_live_13 : decode cX4_live 13 = .ok (.ifCond .eq 11, 3) := by decide +kernel
theorem dX4_live_16 : decode cX4_live 16 = .ok (.aload_n 0, 1) := by decide +kernel
theorem dX4_live_17 : decode cX4_live 17 = .ok (.iload_n 1, 1) := by decide +kernel
theorem dX4_live_18 : decode cX4_live 18 = .ok (.invokevirtual 145, 3) := by decide +kernel
theorem dX4_live_21 : decode cX4_live 21 = .ok (.goto 5, 3) := by decide +kernel
theorem dX4_live_24 : decode cX4_live 24 = .ok (.bipush (-3), 2) := by decide +kernel
theorem dX4_live_26 : decode cX4_live 26 = .ok (.ireturn, 1) := by decide +kernel
theorem dX4_inLeastTerms_0 : decode cX4_inLeastTerms 0 = .ok (.lload_n 0, 1) := by decide +kernel
theorem dX4_inLeastTerms_1 : decode cX4_inLeastTerms 1 = .ok (.lstore 5, 2) := by decide +kernel
theorem dX4_inLeastTerms_3 : decode cX4_inLeastTerms 3 = .ok (.lload_n 2, 1) := by decide +kernel
theorem dX4_inLeastTerms_4 : decode cX4_inLeastTerms 4 = .ok (.lstore 7, 2) := by decide +kernel
theorem dX4_inLeastTerms_6 : decode cX4_inLeastTerms 6 = .ok (.lload 7, 2) := by decide +kernel
theorem dX4_inLeastTerms_8 : decode cX4_inLeastTerms 8 = .ok (.lconst 0, 1) := by decide +kernel
theorem dX4_inLeastTerms_9 : decode cX4_inLeastTerms 9 = .ok (.lcmp, 1) := by decide +kernel
theorem dX4_inLeastTerms_10 : decode cX4_inLeastTerms 10 = .ok (.ifCond .eq 21, 3) := by decide +kernel
theorem dX4_inLeastTerms_13 : decode cX4_inLeastTerms 13 = .ok (.lload 5, 2) := by decide +kernel
theorem dX4_inLeastTerms_15 : decode cX4_inLeastTerms 15 = .ok (.lload 7, 2) := by decide +kernel
theorem dX4_inLeastTerms_17 : decode cX4_inLeastTerms 17 = .ok (.lrem, 1) := by decide +kernel
theorem dX4_inLeastTerms_18 : decode cX4_inLeastTerms 18 = .ok (.lstore 9, 2) := by decide +kernel
theorem dX4_inLeastTerms_20 : decode cX4_inLeastTerms 20 = .ok (.lload 7, 2) := by decide +kernel
theorem dX4_inLeastTerms_22 : decode cX4_inLeastTerms 22 = .ok (.lstore 5, 2) := by decide +kernel
theorem dX4_inLeastTerms_24 : decode cX4_inLeastTerms 24 = .ok (.lload 9, 2) := by decide +kernel
theorem dX4_inLeastTerms_26 : decode cX4_inLeastTerms 26 = .ok (.lstore 7, 2) := by decide +kernel
theorem dX4_inLeastTerms_28 : decode cX4_inLeastTerms 28 = .ok (.goto (-22), 3) := by decide +kernel
theorem dX4_inLeastTerms_31 : decode cX4_inLeastTerms 31 = .ok (.iload 4, 2) := by decide +kernel
theorem dX4_inLeastTerms_33 : decode cX4_inLeastTerms 33 = .ok (.ifCond .ne 10, 3) := by decide +kernel
theorem dX4_inLeastTerms_36 : decode cX4_inLeastTerms 36 = .ok (.lload_n 0, 1) := by decide +kernel
theorem dX4_inLeastTerms_37 : decode cX4_inLeastTerms 37 = .ok (.lload 5, 2) := by decide +kernel
theorem dX4_inLeastTerms_39 : decode cX4_inLeastTerms 39 = .ok (.ldiv, 1) := by decide +kernel
theorem dX4_inLeastTerms_40 : decode cX4_inLeastTerms 40 = .ok (.goto 7, 3) := by decide +kernel
theorem dX4_inLeastTerms_43 : decode cX4_inLeastTerms 43 = .ok (.lload_n 2, 1) := by decide +kernel
theorem dX4_inLeastTerms_44 : decode cX4_inLeastTerms 44 = .ok (.lload 5, 2) := by decide +kernel
theorem dX4_inLeastTerms_46 : decode cX4_inLeastTerms 46 = .ok (.ldiv, 1) := by decide +kernel
theorem dX4_inLeastTerms_47 : decode cX4_inLeastTerms 47 = .ok (.lreturn, 1) := by decide +kernel
theorem dX4_rate_0 : decode cX4_rate 0 = .ok (.iload_n 1, 1) := by decide +kernel
theorem dX4_rate_1 : decode cX4_rate 1 = .ok (.invokestatic 68, 3) := by decide +kernel
theorem dX4_rate_4 : decode cX4_rate 4 = .ok (.ifCond .eq 27, 3) := by decide +kernel
theorem dX4_rate_7 : decode cX4_rate 7 = .ok (.iload_n 2, 1) := by decide +kernel
theorem dX4_rate_8 : decode cX4_rate 8 = .ok (.iconst 0, 1) := by decide +kernel
theorem dX4_rate_9 : decode cX4_rate 9 = .ok (.iconst 1, 1) := by decide +kernel
theorem dX4_rate_10 : decode cX4_rate 10 = .ok (.invokestatic 56, 3) := by decide +kernel
theorem dX4_rate_13 : decode cX4_rate 13 = .ok (.ifCond .eq 18, 3) := by decide +kernel
theorem dX4_rate_16 : decode cX4_rate 16 = .ok (.aload_n 0, 1) := by decide +kernel
theorem dX4_rate_17 : decode cX4_rate 17 = .ok (.getfield 64, 3) := by decide +kernel
theorem dX4_rate_20 : decode cX4_rate 20 = .ok (.ifCond .eq 11, 3) := by decide +kernel
theorem dX4_rate_23 : decode cX4_rate 23 = .ok (.aload_n 0, 1) := by decide +kernel
theorem dX4_rate_24 : decode cX4_rate 24 = .ok (.iload_n 1, 1) := by decide +kernel
theorem dX4_rate_25 : decode cX4_rate 25 = .ok (.invokevirtual 145, 3) := by decide +kernel
theorem dX4_rate_28 : decode cX4_rate 28 = .ok (.ifCond .ne 7, 3) := by decide +kernel
theorem dX4_rate_31 : decode cX4_rate 31 = .ok (.ldc2_w 148, 3) := by decide +kernel
theorem dX4_rate_34 : decode cX4_rate 34 = .ok (.lreturn, 1) := by decide +kernel
theorem dX4_rate_35 : decode cX4_rate 35 = .ok (.aload_n 0, 1) := by decide +kernel
theorem dX4_rate_36 : decode cX4_rate 36 = .ok (.iload_n 1, 1) := by decide +kernel
theorem dX4_rate_37 : decode cX4_rate 37 = .ok (.iconst 1, 1) := by decide +kernel
theorem dX4_rate_38 : decode cX4_rate 38 = .ok (.invokevirtual 97, 3) := by decide +kernel
theorem dX4_rate_41 : decode cX4_rate 41 = .ok (.i2l, 1) := by decide +kernel
theorem dX4_rate_42 : decode cX4_rate 42 = .ok (.aload_n 0, 1) := by decide +kernel
theorem dX4_rate_43 : decode cX4_rate 43 = .ok (.iload_n 1, 1) := by decide +kernel
theorem dX4_rate_44 : decode cX4_rate 44 = .ok (.invokevirtual 145, 3) := by decide +kernel
theorem dX4_rate_47 : decode cX4_rate 47 = .ok (.i2l, 1) := by decide +kernel
theorem dX4_rate_48 : decode cX4_rate 48 = .ok (.iload_n 2, 1) := by decide +kernel
theorem dX4_rate_49 : decode cX4_rate 49 = .ok (.invokestatic 150, 3) := by decide +kernel
theorem dX4_rate_52 : decode cX4_rate 52 = .ok (.lreturn, 1) := by decide +kernel
theorem dX4_expected_0 : decode cX4_expected 0 = .ok (.iload_n 1, 1) := by decide +kernel
theorem dX4_expected_1 : decode cX4_expected 1 = .ok (.invokestatic 68, 3) := by decide +kernel
theorem dX4_expected_4 : decode cX4_expected 4 = .ok (.ifCond .eq 38, 3) := by decide +kernel
theorem dX4_expected_7 : decode cX4_expected 7 = .ok (.iload_n 2, 1) := by decide +kernel
theorem dX4_expected_8 : decode cX4_expected 8 = .ok (.invokestatic 68, 3) := by decide +kernel
theorem dX4_expected_11 : decode cX4_expected 11 = .ok (.ifCond .eq 31, 3) := by decide +kernel
theorem dX4_expected_14 : decode cX4_expected 14 = .ok (.iload_n 3, 1) := by decide +kernel
theorem dX4_expected_15 : decode cX4_expected 15 = .ok (.iconst 0, 1) := by decide +kernel
theorem dX4_expected_16 : decode cX4_expected 16 = .ok (.iconst 1, 1) := by decide +kernel
theorem dX4_expected_17 : decode cX4_expected 17 = .ok (.invokestatic 56, 3) := by decide +kernel
theorem dX4_expected_20 : decode cX4_expected 20 = .ok (.ifCond .eq 22, 3) := by decide +kernel
theorem dX4_expected_23 : decode cX4_expected 23 = .ok (.iload_n 1, 1) := by decide +kernel
theorem dX4_expected_24 : decode cX4_expected 24 = .ok (.iload_n 2, 1) := by decide +kernel
theorem dX4_expected_25 : decode cX4_expected 25 = .ok (.if_icmp .eq 17, 3) := by decide +kernel
theorem dX4_expected_28 : decode cX4_expected 28 = .ok (.aload_n 0, 1) := by decide +kernel
theorem dX4_expected_29 : decode cX4_expected 29 = .ok (.getfield 64, 3) := by decide +kernel
theorem dX4_expected_32 : decode cX4_expected 32 = .ok (.ifCond .eq 10, 3) := by decide +kernel
theorem dX4_expected_35 : decode cX4_expected 35 = .ok (.aload_n 0, 1) := by decide +kernel
theorem dX4_expected_36 : decode cX4_expected 36 = .ok (.invokevirtual 142, 3) := by decide +kernel
theorem dX4_expected_39 : decode cX4_expected 39 = .ok (.ifCond .ne 7, 3) := by decide +kernel
theorem dX4_expected_42 : decode cX4_expected 42 = .ok (.ldc2_w 148, 3) := by decide +kernel
theorem dX4_expected_45 : decode cX4_expected 45 = .ok (.lreturn, 1) := by decide +kernel
theorem dX4_expected_46 : decode cX4_expected 46 = .ok (.aload_n 0, 1) := by decide +kernel
theorem dX4_expected_47 : decode cX4_expected 47 = .ok (.iload_n 1, 1) := by decide +kernel
theorem dX4_expected_48 : decode cX4_expected 48 = .ok (.iconst 1, 1) := by decide +kernel
theorem dX4_expected_49 : decode cX4_expected 49 = .ok (.invokevirtual 97, 3) := by decide +kernel
theorem dX4_expected_52 : decode cX4_expected 52 = .ok (.i2l, 1) := by decide +kernel
theorem dX4_expected_53 : decode cX4_expected 53 = .ok (.aload_n 0, 1) := by decide +kernel
theorem dX4_expected_54 : decode cX4_expected 54 = .ok (.iload_n 2, 1) := by decide +kernel
theorem dX4_expected_55 : decode cX4_expected 55 = .ok (.iconst 1, 1) := by decide +kernel
theorem dX4_expected_56 : decode cX4_expected 56 = .ok (.invokevirtual 97, 3) := by decide +kernel
theorem dX4_expected_59 : decode cX4_expected 59 = .ok (.i2l, 1) := by decide +kernel
theorem dX4_expected_60 : decode cX4_expected 60 = .ok (.lmul, 1) := by decide +kernel
theorem dX4_expected_61 : decode cX4_expected 61 = .ok (.lstore 4, 2) := by decide +kernel
theorem dX4_expected_63 : decode cX4_expected 63 = .ok (.lload 4, 2) := by decide +kernel
theorem dX4_expected_65 : decode cX4_expected 65 = .ok (.iconst 2, 1) := by decide +kernel
theorem dX4_expected_66 : decode cX4_expected 66 = .ok (.aload_n 0, 1) := by decide +kernel
theorem dX4_expected_67 : decode cX4_expected 67 = .ok (.getfield 19, 3) := by decide +kernel
theorem dX4_expected_70 : decode cX4_expected 70 = .ok (.iconst 1, 1) := by decide +kernel
theorem dX4_expected_71 : decode cX4_expected 71 = .ok (.iaload, 1) := by decide +kernel
theorem dX4_expected_72 : decode cX4_expected 72 = .ok (.imul, 1) := by decide +kernel
theorem dX4_expected_73 : decode cX4_expected 73 = .ok (.iconst 1, 1) := by decide +kernel
theorem dX4_expected_74 : decode cX4_expected 74 = .ok (.iadd, 1) := by decide +kernel
theorem dX4_expected_75 : decode cX4_expected 75 = .ok (.i2l, 1) := by decide +kernel
theorem dX4_expected_76 : decode cX4_expected 76 = .ok (.lmul, 1) := by decide +kernel
theorem dX4_expected_77 : decode cX4_expected 77 = .ok (.aload_n 0, 1) := by decide +kernel
theorem dX4_expected_78 : decode cX4_expected 78 = .ok (.invokevirtual 142, 3) := by decide +kernel
theorem dX4_expected_81 : decode cX4_expected 81 = .ok (.i2l, 1) := by decide +kernel
theorem dX4_expected_82 : decode cX4_expected 82 = .ok (.iload_n 3, 1) := by decide +kernel
theorem dX4_expected_83 : decode cX4_expected 83 = .ok (.invokestatic 150, 3) := by decide +kernel
theorem dX4_expected_86 : decode cX4_expected 86 = .ok (.lreturn, 1) := by decide +kernel
theorem dX4_tries_0 : decode cX4_tries 0 = .ok (.aload_n 0, 1) := by decide +kernel
theorem dX4_tries_1 : decode cX4_tries 1 = .ok (.iconst 0, 1) := by decide +kernel
theorem dX4_tries_2 : decode cX4_tries 2 = .ok (.putfield 154, 3) := by decide +kernel
theorem dX4_tries_5 : decode cX4_tries 5 = .ok (.aload_n 0, 1) := by decide +kernel
theorem dX4_tries_6 : decode cX4_tries 6 = .ok (.iconst 0, 1) := by decide +kernel
theorem dX4_tries_7 : decode cX4_tries 7 = .ok (.putfield 157, 3) := by decide +kernel
theorem dX4_tries_10 : decode cX4_tries 10 = .ok (.aload_n 0, 1) := by decide +kernel
theorem dX4_tries_11 : decode cX4_tries 11 = .ok (.iconst 0, 1) := by decide +kernel
theorem dX4_tries_12 : decode cX4_tries 12 = .ok (.putfield 160, 3) := by decide +kernel
theorem dX4_tries_15 : decode cX4_tries 15 = .ok (.iconst 0, 1) := by decide +kernel
theorem dX4_tries_16 : decode cX4_tries 16 = .ok (.istore 4, 2) := by decide +kernel
theorem dX4_tries_18 : decode cX4_tries 18 = .ok (.iload 4, 2) := by decide +kernel
theorem dX4_tries_20 : decode cX4_tries 20 = .ok (.bipush 6, 2) := by decide +kernel
theorem dX4_tries_22 : decode cX4_tries 22 = .ok (.if_icmp .ge 117, 3) := by decide +kernel
theorem dX4_tries_25 : decode cX4_tries 25 = .ok (.aload_n 0, 1) := by decide +kernel
theorem dX4_tries_26 : decode cX4_tries 26 = .ok (.iload_n 1, 1) := by decide +kernel
theorem dX4_tries_27 : decode cX4_tries 27 = .ok (.iload 4, 2) := by decide +kernel
theorem dX4_tries_29 : decode cX4_tries 29 = .ok (.invokevirtual 135, 3) := by decide +kernel
theorem dX4_tries_32 : decode cX4_tries 32 = .ok (.istore 5, 2) := by decide +kernel
theorem dX4_tries_34 : decode cX4_tries 34 = .ok (.iload 5, 2) := by decide +kernel
theorem dX4_tries_36 : decode cX4_tries 36 = .ok (.bipush (-9), 2) := by decide +kernel
theorem dX4_tries_38 : decode cX4_tries 38 = .ok (.if_icmp .ne 7, 3) := by decide +kernel
theorem dX4_tries_41 : decode cX4_tries 41 = .ok (.iconst 0, 1) := by decide +kernel
theorem dX4_tries_42 : decode cX4_tries 42 = .ok (.goto 22, 3) := by decide +kernel
theorem dX4_tries_45 : decode cX4_tries 45 = .ok (.aload_n 0, 1) := by decide +kernel
theorem dX4_tries_46 : decode cX4_tries 46 = .ok (.getfield 34, 3) := by decide +kernel
theorem dX4_tries_49 : decode cX4_tries 49 = .ok (.aload_n 0, 1) := by decide +kernel
theorem dX4_tries_50 : decode cX4_tries 50 = .ok (.getfield 47, 3) := by decide +kernel
theorem dX4_tries_53 : decode cX4_tries 53 = .ok (.iload 5, 2) := by decide +kernel
theorem dX4_tries_55 : decode cX4_tries 55 = .ok (.iaload, 1) := by decide +kernel
theorem dX4_tries_56 : decode cX4_tries 56 = .ok (.iaload, 1) := by decide +kernel
theorem dX4_tries_57 : decode cX4_tries 57 = .ok (.iload_n 2, 1) := by decide +kernel
theorem dX4_tries_58 : decode cX4_tries 58 = .ok (.isub, 1) := by decide +kernel
theorem dX4_tries_59 : decode cX4_tries 59 = .ok (.iload_n 3, 1) := by decide +kernel
theorem dX4_tries_60 : decode cX4_tries 60 = .ok (.iload 4, 2) := by decide +kernel
theorem dX4_tries_62 : decode cX4_tries 62 = .ok (.imul, 1) := by decide +kernel
theorem dX4_tries_63 : decode cX4_tries 63 = .ok (.isub, 1) := by decide +kernel
theorem dX4_tries_64 : decode cX4_tries 64 = .ok (.istore 6, 2) := by decide +kernel
theorem dX4_tries_66 : decode cX4_tries 66 = .ok (.iload 6, 2) := by decide +kernel
theorem dX4_tries_68 : decode cX4_tries 68 = .ok (.ifCond .ge 9, 3) := by decide +kernel
theorem dX4_tries_71 : decode cX4_tries 71 = .ok (.iload 6, 2) := by decide +kernel
theorem dX4_tries_73 : decode cX4_tries 73 = .ok (.ineg, 1) := by decide +kernel
theorem dX4_tries_74 : decode cX4_tries 74 = .ok (.goto 5, 3) := by decide +kernel
theorem dX4_tries_77 : decode cX4_tries 77 = .ok (.iload 6, 2) := by decide +kernel
theorem dX4_tries_79 : decode cX4_tries 79 = .ok (.istore 6, 2) := by decide +kernel
theorem dX4_tries_81 : decode cX4_tries 81 = .ok (.iload 5, 2) := by decide +kernel
theorem dX4_tries_83 : decode cX4_tries 83 = .ok (.bipush (-9), 2) := by decide +kernel
theorem dX4_tries_85 : decode cX4_tries 85 = .ok (.if_icmp .eq 48, 3) := by decide +kernel
theorem dX4_tries_88 : decode cX4_tries 88 = .ok (.iload 6, 2) := by decide +kernel
theorem dX4_tries_90 : decode cX4_tries 90 = .ok (.aload_n 0, 1) := by decide +kernel
theorem dX4_tries_91 : decode cX4_tries 91 = .ok (.getfield 19, 3) := by decide +kernel
theorem dX4_tries_94 : decode cX4_tries 94 = .ok (.iconst 3, 1) := by decide +kernel
theorem dX4_tries_95 : decode cX4_tries 95 = .ok (.iaload, 1) := by decide +kernel
theorem dX4_tries_96 : decode cX4_tries 96 = .ok (.if_icmp .gt 37, 3) := by decide +kernel
theorem dX4_tries_99 : decode cX4_tries 99 = .ok (.aload_n 0, 1) := by decide +kernel
theorem dX4_tries_100 : decode cX4_tries 100 = .ok (.dup, 1) := by decide +kernel
theorem dX4_tries_101 : decode cX4_tries 101 = .ok (.getfield 154, 3) := by decide +kernel
theorem dX4_tries_104 : decode cX4_tries 104 = .ok (.iconst 1, 1) := by decide +kernel
theorem dX4_tries_105 : decode cX4_tries 105 = .ok (.iadd, 1) := by decide +kernel
theorem dX4_tries_106 : decode cX4_tries 106 = .ok (.putfield 154, 3) := by decide +kernel
theorem dX4_tries_109 : decode cX4_tries 109 = .ok (.aload_n 0, 1) := by decide +kernel
theorem dX4_tries_110 : decode cX4_tries 110 = .ok (.dup, 1) := by decide +kernel
theorem dX4_tries_111 : decode cX4_tries 111 = .ok (.getfield 157, 3) := by decide +kernel
theorem dX4_tries_114 : decode cX4_tries 114 = .ok (.iconst 1, 1) := by decide +kernel
theorem dX4_tries_115 : decode cX4_tries 115 = .ok (.iload 4, 2) := by decide +kernel
theorem dX4_tries_117 : decode cX4_tries 117 = .ok (.ishl, 1) := by decide +kernel
theorem dX4_tries_118 : decode cX4_tries 118 = .ok (.ior, 1) := by decide +kernel
theorem dX4_tries_119 : decode cX4_tries 119 = .ok (.putfield 157, 3) := by decide +kernel
theorem dX4_tries_122 : decode cX4_tries 122 = .ok (.aload_n 0, 1) := by decide +kernel
theorem dX4_tries_123 : decode cX4_tries 123 = .ok (.dup, 1) := by decide +kernel
theorem dX4_tries_124 : decode cX4_tries 124 = .ok (.getfield 160, 3) := by decide +kernel
theorem dX4_tries_127 : decode cX4_tries 127 = .ok (.iload 6, 2) := by decide +kernel
theorem dX4_tries_129 : decode cX4_tries 129 = .ok (.iadd, 1) := by decide +kernel
theorem dX4_tries_130 : decode cX4_tries 130 = .ok (.putfield 160, 3) := by decide +kernel
theorem dX4_tries_133 : decode cX4_tries 133 = .ok (.iinc 4 1, 3) := by decide +kernel
theorem dX4_tries_136 : decode cX4_tries 136 = .ok (.goto (-118), 3) := by decide +kernel
theorem dX4_tries_139 : decode cX4_tries 139 = .ok (.return_, 1) := by decide +kernel
theorem dX4_far_0 : decode cX4_far 0 = .ok (.iload_n 0, 1) := by decide +kernel
theorem dX4_far_1 : decode cX4_far 1 = .ok (.ifCond .ge 8, 3) := by decide +kernel
theorem dX4_far_4 : decode cX4_far 4 = .ok (.iload_n 0, 1) := by decide +kernel
theorem dX4_far_5 : decode cX4_far 5 = .ok (.ineg, 1) := by decide +kernel
theorem dX4_far_6 : decode cX4_far 6 = .ok (.goto 4, 3) := by decide +kernel
theorem dX4_far_9 : decode cX4_far 9 = .ok (.iload_n 0, 1) := by decide +kernel
theorem dX4_far_10 : decode cX4_far 10 = .ok (.ireturn, 1) := by decide +kernel
theorem dX4_isAhead_0 : decode cX4_isAhead 0 = .ok (.aload_n 0, 1) := by decide +kernel
theorem dX4_isAhead_1 : decode cX4_isAhead 1 = .ok (.getfield 154, 3) := by decide +kernel
theorem dX4_isAhead_4 : decode cX4_isAhead 4 = .ok (.aload_n 0, 1) := by decide +kernel
theorem dX4_isAhead_5 : decode cX4_isAhead 5 = .ok (.getfield 163, 3) := by decide +kernel
theorem dX4_isAhead_8 : decode cX4_isAhead 8 = .ok (.if_icmp .eq 20, 3) := by decide +kernel
theorem dX4_isAhead_11 : decode cX4_isAhead 11 = .ok (.aload_n 0, 1) := by decide +kernel
theorem dX4_isAhead_12 : decode cX4_isAhead 12 = .ok (.getfield 154, 3) := by decide +kernel
theorem dX4_isAhead_15 : decode cX4_isAhead 15 = .ok (.aload_n 0, 1) := by decide +kernel
theorem dX4_isAhead_16 : decode cX4_isAhead 16 = .ok (.getfield 163, 3) := by decide +kernel
theorem dX4_isAhead_19 : decode cX4_isAhead 19 = .ok (.if_icmp .le 7, 3) := by decide +kernel
theorem dX4_isAhead_22 : decode cX4_isAhead 22 = .ok (.iconst 1, 1) := by decide +kernel
theorem dX4_isAhead_23 : decode cX4_isAhead 23 = .ok (.goto 4, 3) := by decide +kernel
theorem dX4_isAhead_26 : decode cX4_isAhead 26 = .ok (.iconst 0, 1) := by decide +kernel
theorem dX4_isAhead_27 : decode cX4_isAhead 27 = .ok (.ireturn, 1) := by decide +kernel
theorem dX4_isAhead_28 : decode cX4_isAhead 28 = .ok (.aload_n 0, 1) := by decide +kernel
theorem dX4_isAhead_29 : decode cX4_isAhead 29 = .ok (.getfield 160, 3) := by decide +kernel
theorem dX4_isAhead_32 : decode cX4_isAhead 32 = .ok (.aload_n 0, 1) := by decide +kernel
theorem dX4_isAhead_33 : decode cX4_isAhead 33 = .ok (.getfield 166, 3) := by decide +kernel
theorem dX4_isAhead_36 : decode cX4_isAhead 36 = .ok (.if_icmp .eq 20, 3) := by decide +kernel
theorem dX4_isAhead_39 : decode cX4_isAhead 39 = .ok (.aload_n 0, 1) := by decide +kernel
theorem dX4_isAhead_40 : decode cX4_isAhead 40 = .ok (.getfield 160, 3) := by decide +kernel
theorem dX4_isAhead_43 : decode cX4_isAhead 43 = .ok (.aload_n 0, 1) := by decide +kernel
theorem dX4_isAhead_44 : decode cX4_isAhead 44 = .ok (.getfield 166, 3) := by decide +kernel
theorem dX4_isAhead_47 : decode cX4_isAhead 47 = .ok (.if_icmp .ge 7, 3) := by decide +kernel
theorem dX4_isAhead_50 : decode cX4_isAhead 50 = .ok (.iconst 1, 1) := by decide +kernel
theorem dX4_isAhead_51 : decode cX4_isAhead 51 = .ok (.goto 4, 3) := by decide +kernel
theorem dX4_isAhead_54 : decode cX4_isAhead 54 = .ok (.iconst 0, 1) := by decide +kernel
theorem dX4_isAhead_55 : decode cX4_isAhead 55 = .ok (.ireturn, 1) := by decide +kernel
theorem dX4_isAhead_56 : decode cX4_isAhead 56 = .ok (.iload_n 1, 1) := by decide +kernel
theorem dX4_isAhead_57 : decode cX4_isAhead 57 = .ok (.invokestatic 169, 3) := by decide +kernel
theorem dX4_isAhead_60 : decode cX4_isAhead 60 = .ok (.aload_n 0, 1) := by decide +kernel
theorem dX4_isAhead_61 : decode cX4_isAhead 61 = .ok (.getfield 172, 3) := by decide +kernel
theorem dX4_isAhead_64 : decode cX4_isAhead 64 = .ok (.invokestatic 169, 3) := by decide +kernel
theorem dX4_isAhead_67 : decode cX4_isAhead 67 = .ok (.if_icmp .eq 25, 3) := by decide +kernel
theorem dX4_isAhead_70 : decode cX4_isAhead 70 = .ok (.iload_n 1, 1) := by decide +kernel
theorem dX4_isAhead_71 : decode cX4_isAhead 71 = .ok (.invokestatic 169, 3) := by decide +kernel
theorem dX4_isAhead_74 : decode cX4_isAhead 74 = .ok (.aload_n 0, 1) := by decide +kernel
theorem dX4_isAhead_75 : decode cX4_isAhead 75 = .ok (.getfield 172, 3) := by decide +kernel
theorem dX4_isAhead_78 : decode cX4_isAhead 78 = .ok (.invokestatic 169, 3) := by decide +kernel
theorem dX4_isAhead_81 : decode cX4_isAhead 81 = .ok (.if_icmp .ge 7, 3) := by decide +kernel
theorem dX4_isAhead_84 : decode cX4_isAhead 84 = .ok (.iconst 1, 1) := by decide +kernel
theorem dX4_isAhead_85 : decode cX4_isAhead 85 = .ok (.goto 20, 3) := by decide +kernel
theorem dX4_isAhead_88 : decode cX4_isAhead 88 = .ok (.iconst 0, 1) := by decide +kernel
theorem dX4_isAhead_89 : decode cX4_isAhead 89 = .ok (.goto 16, 3) := by decide +kernel
theorem dX4_isAhead_92 : decode cX4_isAhead 92 = .ok (.iload_n 1, 1) := by decide +kernel
theorem dX4_isAhead_93 : decode cX4_isAhead 93 = .ok (.aload_n 0, 1) := by decide +kernel
theorem dX4_isAhead_94 : decode cX4_isAhead 94 = .ok (.getfield 172, 3) := by decide +kernel
theorem dX4_isAhead_97 : decode cX4_isAhead 97 = .ok (.if_icmp .ge 7, 3) := by decide +kernel
theorem dX4_isAhead_100 : decode cX4_isAhead 100 = .ok (.iconst 1, 1) := by decide +kernel
theorem dX4_isAhead_101 : decode cX4_isAhead 101 = .ok (.goto 4, 3) := by decide +kernel
theorem dX4_isAhead_104 : decode cX4_isAhead 104 = .ok (.iconst 0, 1) := by decide +kernel
theorem dX4_isAhead_105 : decode cX4_isAhead 105 = .ok (.ireturn, 1) := by decide +kernel
theorem dX4_findTrack_0 : decode cX4_findTrack 0 = .ok (.aload_n 0, 1) := by decide +kernel
theorem dX4_findTrack_1 : decode cX4_findTrack 1 = .ok (.iconst (-1), 1) := by decide +kernel
theorem dX4_findTrack_2 : decode cX4_findTrack 2 = .ok (.putfield 163, 3) := by decide +kernel
theorem dX4_findTrack_5 : decode cX4_findTrack 5 = .ok (.iconst 0, 1) := by decide +kernel
theorem dX4_findTrack_6 : decode cX4_findTrack 6 = .ok (.istore_n 2, 1) := by decide +kernel
theorem dX4_findTrack_7 : decode cX4_findTrack 7 = .ok (.iload_n 2, 1) := by decide +kernel
theorem dX4_findTrack_8 : decode cX4_findTrack 8 = .ok (.bipush 15, 2) := by decide +kernel
theorem dX4_findTrack_10 : decode cX4_findTrack 10 = .ok (.if_icmp .gt 64, 3) := by decide +kernel
theorem dX4_findTrack_13 : decode cX4_findTrack 13 = .ok (.bipush (-3), 2) := by decide +kernel
theorem dX4_findTrack_15 : decode cX4_findTrack 15 = .ok (.istore_n 3, 1) := by decide +kernel
theorem dX4_findTrack_16 : decode cX4_findTrack 16 = .ok (.iload_n 3, 1) := by decide +kernel
theorem dX4_findTrack_17 : decode cX4_findTrack 17 = .ok (.iconst 3, 1) := by decide +kernel
theorem dX4_findTrack_18 : decode cX4_findTrack 18 = .ok (.if_icmp .gt 50, 3) := by decide +kernel
theorem dX4_findTrack_21 : decode cX4_findTrack 21 = .ok (.aload_n 0, 1) := by decide +kernel
theorem dX4_findTrack_22 : decode cX4_findTrack 22 = .ok (.iload_n 1, 1) := by decide +kernel
theorem dX4_findTrack_23 : decode cX4_findTrack 23 = .ok (.iload_n 2, 1) := by decide +kernel
theorem dX4_findTrack_24 : decode cX4_findTrack 24 = .ok (.iload_n 3, 1) := by decide +kernel
theorem dX4_findTrack_25 : decode cX4_findTrack 25 = .ok (.invokevirtual 175, 3) := by decide +kernel
theorem dX4_findTrack_28 : decode cX4_findTrack 28 = .ok (.aload_n 0, 1) := by decide +kernel
theorem dX4_findTrack_29 : decode cX4_findTrack 29 = .ok (.iload_n 3, 1) := by decide +kernel
theorem dX4_findTrack_30 : decode cX4_findTrack 30 = .ok (.invokevirtual 179, 3) := by decide +kernel
theorem dX4_findTrack_33 : decode cX4_findTrack 33 = .ok (.ifCond .eq 29, 3) := by decide +kernel
theorem dX4_findTrack_36 : decode cX4_findTrack 36 = .ok (.aload_n 0, 1) := by decide +kernel
theorem dX4_findTrack_37 : decode cX4_findTrack 37 = .ok (.iload_n 2, 1) := by decide +kernel
theorem dX4_findTrack_38 : decode cX4_findTrack 38 = .ok (.putfield 182, 3) := by decide +kernel
theorem dX4_findTrack_41 : decode cX4_findTrack 41 = .ok (.aload_n 0, 1) := by decide +kernel
theorem dX4_findTrack_42 : decode cX4_findTrack 42 = .ok (.iload_n 3, 1) := by decide +kernel
theorem dX4_findTrack_43 : decode cX4_findTrack 43 = .ok (.putfield 172, 3) := by decide +kernel
theorem dX4_findTrack_46 : decode cX4_findTrack 46 = .ok (.aload_n 0, 1) := by decide +kernel
theorem dX4_findTrack_47 : decode cX4_findTrack 47 = .ok (.aload_n 0, 1) := by decide +kernel
theorem dX4_findTrack_48 : decode cX4_findTrack 48 = .ok (.getfield 154, 3) := by decide +kernel
theorem dX4_findTrack_51 : decode cX4_findTrack 51 = .ok (.putfield 163, 3) := by decide +kernel
theorem dX4_findTrack_54 : decode cX4_findTrack 54 = .ok (.aload_n 0, 1) := by decide +kernel
theorem dX4_findTrack_55 : decode cX4_findTrack 55 = .ok (.aload_n 0, 1) := by decide +kernel
theorem dX4_findTrack_56 : decode cX4_findTrack 56 = .ok (.getfield 160, 3) := by decide +kernel
theorem dX4_findTrack_59 : decode cX4_findTrack 59 = .ok (.putfield 166, 3) := by decide +kernel
theorem dX4_findTrack_62 : decode cX4_findTrack 62 = .ok (.iinc 3 1, 3) := by decide +kernel
theorem dX4_findTrack_65 : decode cX4_findTrack 65 = .ok (.goto (-49), 3) := by decide +kernel
theorem dX4_findTrack_68 : decode cX4_findTrack 68 = .ok (.iinc 2 1, 3) := by decide +kernel
theorem dX4_findTrack_71 : decode cX4_findTrack 71 = .ok (.goto (-64), 3) := by decide +kernel
theorem dX4_findTrack_74 : decode cX4_findTrack 74 = .ok (.aload_n 0, 1) := by decide +kernel
theorem dX4_findTrack_75 : decode cX4_findTrack 75 = .ok (.getfield 163, 3) := by decide +kernel
theorem dX4_findTrack_78 : decode cX4_findTrack 78 = .ok (.aload_n 0, 1) := by decide +kernel
theorem dX4_findTrack_79 : decode cX4_findTrack 79 = .ok (.getfield 19, 3) := by decide +kernel
theorem dX4_findTrack_82 : decode cX4_findTrack 82 = .ok (.iconst 2, 1) := by decide +kernel
theorem dX4_findTrack_83 : decode cX4_findTrack 83 = .ok (.iaload, 1) := by decide +kernel
theorem dX4_findTrack_84 : decode cX4_findTrack 84 = .ok (.if_icmp .lt 7, 3) := by decide +kernel
theorem dX4_findTrack_87 : decode cX4_findTrack 87 = .ok (.iconst 1, 1) := by decide +kernel
theorem dX4_findTrack_88 : decode cX4_findTrack 88 = .ok (.goto 4, 3) := by decide +kernel
theorem dX4_findTrack_91 : decode cX4_findTrack 91 = .ok (.iconst 0, 1) := by decide +kernel
theorem dX4_findTrack_92 : decode cX4_findTrack 92 = .ok (.ireturn, 1) := by decide +kernel
theorem dX4_track_0 : decode cX4_track 0 = .ok (.aload_n 0, 1) := by decide +kernel
theorem dX4_track_1 : decode cX4_track 1 = .ok (.iload_n 1, 1) := by decide +kernel
theorem dX4_track_2 : decode cX4_track 2 = .ok (.invokevirtual 123, 3) := by decide +kernel
theorem dX4_track_5 : decode cX4_track 5 = .ok (.ifCond .ne 5, 3) := by decide +kernel
theorem dX4_track_8 : decode cX4_track 8 = .ok (.iconst (-1), 1) := by decide +kernel
theorem dX4_track_9 : decode cX4_track 9 = .ok (.ireturn, 1) := by decide +kernel
theorem dX4_track_10 : decode cX4_track 10 = .ok (.iload_n 2, 1) := by decide +kernel
theorem dX4_track_11 : decode cX4_track 11 = .ok (.iconst 0, 1) := by decide +kernel
theorem dX4_track_12 : decode cX4_track 12 = .ok (.iconst 4, 1) := by decide +kernel
theorem dX4_track_13 : decode cX4_track 13 = .ok (.invokestatic 56, 3) := by decide +kernel
theorem dX4_track_16 : decode cX4_track 16 = .ok (.ifCond .ne 6, 3) := by decide +kernel
theorem dX4_track_19 : decode cX4_track 19 = .ok (.bipush (-2), 2) := by decide +kernel
theorem dX4_track_21 : decode cX4_track 21 = .ok (.ireturn, 1) := by decide +kernel
theorem dX4_track_22 : decode cX4_track 22 = .ok (.aload_n 0, 1) := by decide +kernel
theorem dX4_track_23 : decode cX4_track 23 = .ok (.iload_n 1, 1) := by decide +kernel
theorem dX4_track_24 : decode cX4_track 24 = .ok (.invokevirtual 185, 3) := by decide +kernel
theorem dX4_track_27 : decode cX4_track 27 = .ok (.ifCond .ne 6, 3) := by decide +kernel
theorem dX4_track_30 : decode cX4_track 30 = .ok (.bipush (-9), 2) := by decide +kernel
theorem dX4_track_32 : decode cX4_track 32 = .ok (.ireturn, 1) := by decide +kernel
theorem dX4_track_33 : decode cX4_track 33 = .ok (.aload_n 0, 1) := by decide +kernel
theorem dX4_track_34 : decode cX4_track 34 = .ok (.iload_n 1, 1) := by decide +kernel
theorem dX4_track_35 : decode cX4_track 35 = .ok (.aload_n 0, 1) := by decide +kernel
theorem dX4_track_36 : decode cX4_track 36 = .ok (.getfield 182, 3) := by decide +kernel
theorem dX4_track_39 : decode cX4_track 39 = .ok (.aload_n 0, 1) := by decide +kernel
theorem dX4_track_40 : decode cX4_track 40 = .ok (.getfield 172, 3) := by decide +kernel
theorem dX4_track_43 : decode cX4_track 43 = .ok (.invokevirtual 175, 3) := by decide +kernel
theorem dX4_track_46 : decode cX4_track 46 = .ok (.iload_n 2, 1) := by decide +kernel
theorem dX4_track_47 : decode cX4_track 47 = .ok (.tableswitch 52 0 3 #[29, 34, 42, 47], 29) := by decide +kernel
theorem dX4_track_76 : decode cX4_track 76 = .ok (.aload_n 0, 1) := by decide +kernel
theorem dX4_track_77 : decode cX4_track 77 = .ok (.getfield 182, 3) := by decide +kernel
theorem dX4_track_80 : decode cX4_track 80 = .ok (.ireturn, 1) := by decide +kernel
theorem dX4_track_81 : decode cX4_track 81 = .ok (.aload_n 0, 1) := by decide +kernel
theorem dX4_track_82 : decode cX4_track 82 = .ok (.getfield 172, 3) := by decide +kernel
theorem dX4_track_85 : decode cX4_track 85 = .ok (.bipush 10, 2) := by decide +kernel
theorem dX4_track_87 : decode cX4_track 87 = .ok (.iadd, 1) := by decide +kernel
theorem dX4_track_88 : decode cX4_track 88 = .ok (.ireturn, 1) := by decide +kernel
theorem dX4_track_89 : decode cX4_track 89 = .ok (.aload_n 0, 1) := by decide +kernel
theorem dX4_track_90 : decode cX4_track 90 = .ok (.getfield 154, 3) := by decide +kernel
theorem dX4_track_93 : decode cX4_track 93 = .ok (.ireturn, 1) := by decide +kernel
theorem dX4_track_94 : decode cX4_track 94 = .ok (.aload_n 0, 1) := by decide +kernel
theorem dX4_track_95 : decode cX4_track 95 = .ok (.getfield 157, 3) := by decide +kernel
theorem dX4_track_98 : decode cX4_track 98 = .ok (.ireturn, 1) := by decide +kernel
theorem dX4_track_99 : decode cX4_track 99 = .ok (.aload_n 0, 1) := by decide +kernel
theorem dX4_track_100 : decode cX4_track 100 = .ok (.getfield 160, 3) := by decide +kernel
theorem dX4_track_103 : decode cX4_track 103 = .ok (.ireturn, 1) := by decide +kernel
theorem dX4_through_0 : decode cX4_through 0 = .ok (.iload_n 1, 1) := by decide +kernel
theorem dX4_through_1 : decode cX4_through 1 = .ok (.invokestatic 68, 3) := by decide +kernel
theorem dX4_through_4 : decode cX4_through 4 = .ok (.ifCond .ne 5, 3) := by decide +kernel
theorem dX4_through_7 : decode cX4_through 7 = .ok (.iconst (-1), 1) := by decide +kernel
theorem dX4_through_8 : decode cX4_through 8 = .ok (.ireturn, 1) := by decide +kernel
theorem dX4_through_9 : decode cX4_through 9 = .ok (.iload_n 2, 1) := by decide +kernel
theorem dX4_through_10 : decode cX4_through 10 = .ok (.iconst 0, 1) := by decide +kernel
theorem dX4_through_11 : decode cX4_through 11 = .ok (.bipush 15, 2) := by decide +kernel
theorem dX4_through_13 : decode cX4_through 13 = .ok (.invokestatic 56, 3) := by decide +kernel
theorem dX4_through_16 : decode cX4_through 16 = .ok (.ifCond .ne 6, 3) := by decide +kernel
theorem dX4_through_19 : decode cX4_through 19 = .ok (.bipush (-2), 2) := by decide +kernel
theorem dX4_through_21 : decode cX4_through 21 = .ok (.ireturn, 1) := by decide +kernel
theorem dX4_through_22 : decode cX4_through 22 = .ok (.aload_n 0, 1) := by decide +kernel
theorem dX4_through_23 : decode cX4_through 23 = .ok (.iconst 0, 1) := by decide +kernel
theorem dX4_through_24 : decode cX4_through 24 = .ok (.iconst 0, 1) := by decide +kernel
theorem dX4_through_25 : decode cX4_through 25 = .ok (.invokevirtual 120, 3) := by decide +kernel
theorem dX4_through_28 : decode cX4_through 28 = .ok (.iconst 0, 1) := by decide +kernel
theorem dX4_through_29 : decode cX4_through 29 = .ok (.istore_n 3, 1) := by decide +kernel
theorem dX4_through_30 : decode cX4_through 30 = .ok (.iconst 0, 1) := by decide +kernel
theorem dX4_through_31 : decode cX4_through 31 = .ok (.istore 4, 2) := by decide +kernel
theorem dX4_through_33 : decode cX4_through 33 = .ok (.iload 4, 2) := by decide +kernel
theorem dX4_through_35 : decode cX4_through 35 = .ok (.aload_n 0, 1) := by decide +kernel
theorem dX4_through_36 : decode cX4_through 36 = .ok (.getfield 117, 3) := by decide +kernel
theorem dX4_through_39 : decode cX4_through 39 = .ok (.if_icmp .ge 41, 3) := by decide +kernel
theorem dX4_through_42 : decode cX4_through 42 = .ok (.iload_n 3, 1) := by decide +kernel
theorem dX4_through_43 : decode cX4_through 43 = .ok (.aload_n 0, 1) := by decide +kernel
theorem dX4_through_44 : decode cX4_through 44 = .ok (.iload 4, 2) := by decide +kernel
theorem dX4_through_46 : decode cX4_through 46 = .ok (.invokevirtual 185, 3) := by decide +kernel
theorem dX4_through_49 : decode cX4_through 49 = .ok (.ifCond .eq 22, 3) := by decide +kernel
theorem dX4_through_52 : decode cX4_through 52 = .ok (.aload_n 0, 1) := by decide +kernel
theorem dX4_through_53 : decode cX4_through 53 = .ok (.getfield 182, 3) := by decide +kernel
theorem dX4_through_56 : decode cX4_through 56 = .ok (.aload_n 0, 1) := by decide +kernel
theorem dX4_through_57 : decode cX4_through 57 = .ok (.getfield 172, 3) := by decide +kernel
theorem dX4_through_60 : decode cX4_through 60 = .ok (.iload_n 1, 1) := by decide +kernel
theorem dX4_through_61 : decode cX4_through 61 = .ok (.imul, 1) := by decide +kernel
theorem dX4_through_62 : decode cX4_through 62 = .ok (.iadd, 1) := by decide +kernel
theorem dX4_through_63 : decode cX4_through 63 = .ok (.iload_n 2, 1) := by decide +kernel
theorem dX4_through_64 : decode cX4_through 64 = .ok (.if_icmp .ne 7, 3) := by decide +kernel
theorem dX4_through_67 : decode cX4_through 67 = .ok (.iconst 1, 1) := by decide +kernel
theorem dX4_through_68 : decode cX4_through 68 = .ok (.goto 4, 3) := by decide +kernel
theorem dX4_through_71 : decode cX4_through 71 = .ok (.iconst 0, 1) := by decide +kernel
theorem dX4_through_72 : decode cX4_through 72 = .ok (.iadd, 1) := by decide +kernel
theorem dX4_through_73 : decode cX4_through 73 = .ok (.istore_n 3, 1) := by decide +kernel
theorem dX4_through_74 : decode cX4_through 74 = .ok (.iinc 4 1, 3) := by decide +kernel
theorem dX4_through_77 : decode cX4_through 77 = .ok (.goto (-44), 3) := by decide +kernel
theorem dX4_through_80 : decode cX4_through 80 = .ok (.iload_n 3, 1) := by decide +kernel
theorem dX4_through_81 : decode cX4_through 81 = .ok (.ireturn, 1) := by decide +kernel
theorem dX4_tracks_0 : decode cX4_tracks 0 = .ok (.iconst 0, 1) := by decide +kernel
theorem dX4_tracks_1 : decode cX4_tracks 1 = .ok (.istore_n 1, 1) := by decide +kernel
theorem dX4_tracks_2 : decode cX4_tracks 2 = .ok (.iconst 0, 1) := by decide +kernel
theorem dX4_tracks_3 : decode cX4_tracks 3 = .ok (.istore_n 2, 1) := by decide +kernel
theorem dX4_tracks_4 : decode cX4_tracks 4 = .ok (.iload_n 2, 1) := by decide +kernel
theorem dX4_tracks_5 : decode cX4_tracks 5 = .ok (.aload_n 0, 1) := by decide +kernel
theorem dX4_tracks_6 : decode cX4_tracks 6 = .ok (.getfield 117, 3) := by decide +kernel
theorem dX4_tracks_9 : decode cX4_tracks 9 = .ok (.if_icmp .ge 25, 3) := by decide +kernel
theorem dX4_tracks_12 : decode cX4_tracks 12 = .ok (.iload_n 1, 1) := by decide +kernel
theorem dX4_tracks_13 : decode cX4_tracks 13 = .ok (.aload_n 0, 1) := by decide +kernel
theorem dX4_tracks_14 : decode cX4_tracks 14 = .ok (.iload_n 2, 1) := by decide +kernel
theorem dX4_tracks_15 : decode cX4_tracks 15 = .ok (.invokevirtual 185, 3) := by decide +kernel
theorem dX4_tracks_18 : decode cX4_tracks 18 = .ok (.ifCond .eq 7, 3) := by decide +kernel
theorem dX4_tracks_21 : decode cX4_tracks 21 = .ok (.iconst 1, 1) := by decide +kernel
theorem dX4_tracks_22 : decode cX4_tracks 22 = .ok (.goto 4, 3) := by decide +kernel
theorem dX4_tracks_25 : decode cX4_tracks 25 = .ok (.iconst 0, 1) := by decide +kernel
theorem dX4_tracks_26 : decode cX4_tracks 26 = .ok (.iadd, 1) := by decide +kernel
theorem dX4_tracks_27 : decode cX4_tracks 27 = .ok (.istore_n 1, 1) := by decide +kernel
theorem dX4_tracks_28 : decode cX4_tracks 28 = .ok (.iinc 2 1, 3) := by decide +kernel
theorem dX4_tracks_31 : decode cX4_tracks 31 = .ok (.goto (-27), 3) := by decide +kernel
theorem dX4_tracks_34 : decode cX4_tracks 34 = .ok (.iload_n 1, 1) := by decide +kernel
theorem dX4_tracks_35 : decode cX4_tracks 35 = .ok (.ireturn, 1) := by decide +kernel
theorem dX4_inGroups_0 : decode cX4_inGroups 0 = .ok (.iconst 0, 1) := by decide +kernel
theorem dX4_inGroups_1 : decode cX4_inGroups 1 = .ok (.istore_n 1, 1) := by decide +kernel
theorem dX4_inGroups_2 : decode cX4_inGroups 2 = .ok (.iconst 0, 1) := by decide +kernel
theorem dX4_inGroups_3 : decode cX4_inGroups 3 = .ok (.istore_n 2, 1) := by decide +kernel
theorem dX4_inGroups_4 : decode cX4_inGroups 4 = .ok (.iload_n 2, 1) := by decide +kernel
theorem dX4_inGroups_5 : decode cX4_inGroups 5 = .ok (.aload_n 0, 1) := by decide +kernel
theorem dX4_inGroups_6 : decode cX4_inGroups 6 = .ok (.getfield 101, 3) := by decide +kernel
theorem dX4_inGroups_9 : decode cX4_inGroups 9 = .ok (.if_icmp .ge 30, 3) := by decide +kernel
theorem dX4_inGroups_12 : decode cX4_inGroups 12 = .ok (.iload_n 1, 1) := by decide +kernel
theorem dX4_inGroups_13 : decode cX4_inGroups 13 = .ok (.aload_n 0, 1) := by decide +kernel
theorem dX4_inGroups_14 : decode cX4_inGroups 14 = .ok (.getfield 50, 3) := by decide +kernel
theorem dX4_inGroups_17 : decode cX4_inGroups 17 = .ok (.iload_n 2, 1) := by decide +kernel
theorem dX4_inGroups_18 : decode cX4_inGroups 18 = .ok (.iaload, 1) := by decide +kernel
theorem dX4_inGroups_19 : decode cX4_inGroups 19 = .ok (.aload_n 0, 1) := by decide +kernel
theorem dX4_inGroups_20 : decode cX4_inGroups 20 = .ok (.getfield 117, 3) := by decide +kernel
theorem dX4_inGroups_23 : decode cX4_inGroups 23 = .ok (.if_icmp .ge 7, 3) := by decide +kernel
theorem dX4_inGroups_26 : decode cX4_inGroups 26 = .ok (.iconst 1, 1) := by decide +kernel
theorem dX4_inGroups_27 : decode cX4_inGroups 27 = .ok (.goto 4, 3) := by decide +kernel
theorem dX4_inGroups_30 : decode cX4_inGroups 30 = .ok (.iconst 0, 1) := by decide +kernel
theorem dX4_inGroups_31 : decode cX4_inGroups 31 = .ok (.iadd, 1) := by decide +kernel
theorem dX4_inGroups_32 : decode cX4_inGroups 32 = .ok (.istore_n 1, 1) := by decide +kernel
theorem dX4_inGroups_33 : decode cX4_inGroups 33 = .ok (.iinc 2 1, 3) := by decide +kernel
theorem dX4_inGroups_36 : decode cX4_inGroups 36 = .ok (.goto (-32), 3) := by decide +kernel
theorem dX4_inGroups_39 : decode cX4_inGroups 39 = .ok (.iload_n 1, 1) := by decide +kernel
theorem dX4_inGroups_40 : decode cX4_inGroups 40 = .ok (.ireturn, 1) := by decide +kernel
theorem dX4_many_0 : decode cX4_many 0 = .ok (.aload_n 0, 1) := by decide +kernel
theorem dX4_many_1 : decode cX4_many 1 = .ok (.iconst 0, 1) := by decide +kernel
theorem dX4_many_2 : decode cX4_many 2 = .ok (.iconst 0, 1) := by decide +kernel
theorem dX4_many_3 : decode cX4_many 3 = .ok (.invokevirtual 120, 3) := by decide +kernel
theorem dX4_many_6 : decode cX4_many 6 = .ok (.iload_n 1, 1) := by decide +kernel
theorem dX4_many_7 : decode cX4_many 7 = .ok (.tableswitch 153 0 12 #[65, 75, 80, 85, 90, 98, 106, 111, 116, 125, 130, 135, 144], 65) := by decide +kernel
theorem dX4_many_72 : decode cX4_many 72 = .ok (.aload_n 0, 1) := by decide +kernel
theorem dX4_many_73 : decode cX4_many 73 = .ok (.getfield 60, 3) := by decide +kernel
theorem dX4_many_76 : decode cX4_many 76 = .ok (.aload_n 0, 1) := by decide +kernel
theorem dX4_many_77 : decode cX4_many 77 = .ok (.getfield 80, 3) := by decide +kernel
theorem dX4_many_80 : decode cX4_many 80 = .ok (.iadd, 1) := by decide +kernel
theorem dX4_many_81 : decode cX4_many 81 = .ok (.ireturn, 1) := by decide +kernel
theorem dX4_many_82 : decode cX4_many 82 = .ok (.aload_n 0, 1) := by decide +kernel
theorem dX4_many_83 : decode cX4_many 83 = .ok (.getfield 80, 3) := by decide +kernel
theorem dX4_many_86 : decode cX4_many 86 = .ok (.ireturn, 1) := by decide +kernel
theorem dX4_many_87 : decode cX4_many 87 = .ok (.aload_n 0, 1) := by decide +kernel
theorem dX4_many_88 : decode cX4_many 88 = .ok (.getfield 60, 3) := by decide +kernel
theorem dX4_many_91 : decode cX4_many 91 = .ok (.ireturn, 1) := by decide +kernel
theorem dX4_many_92 : decode cX4_many 92 = .ok (.aload_n 0, 1) := by decide +kernel
theorem dX4_many_93 : decode cX4_many 93 = .ok (.invokevirtual 87, 3) := by decide +kernel
theorem dX4_many_96 : decode cX4_many 96 = .ok (.ireturn, 1) := by decide +kernel
theorem dX4_many_97 : decode cX4_many 97 = .ok (.aload_n 0, 1) := by decide +kernel
theorem dX4_many_98 : decode cX4_many 98 = .ok (.bipush (-9), 2) := by decide +kernel
theorem dX4_many_100 : decode cX4_many 100 = .ok (.iconst 1, 1) := by decide +kernel
theorem dX4_many_101 : decode cX4_many 101 = .ok (.invokevirtual 97, 3) := by decide +kernel
theorem dX4_many_104 : decode cX4_many 104 = .ok (.ireturn, 1) := by decide +kernel
theorem dX4_many_105 : decode cX4_many 105 = .ok (.aload_n 0, 1) := by decide +kernel
theorem dX4_many_106 : decode cX4_many 106 = .ok (.bipush (-9), 2) := by decide +kernel
theorem dX4_many_108 : decode cX4_many 108 = .ok (.iconst 0, 1) := by decide +kernel
theorem dX4_many_109 : decode cX4_many 109 = .ok (.invokevirtual 97, 3) := by decide +kernel
theorem dX4_many_112 : decode cX4_many 112 = .ok (.ireturn, 1) := by decide +kernel
theorem dX4_many_113 : decode cX4_many 113 = .ok (.aload_n 0, 1) := by decide +kernel
theorem dX4_many_114 : decode cX4_many 114 = .ok (.getfield 101, 3) := by decide +kernel
theorem dX4_many_117 : decode cX4_many 117 = .ok (.ireturn, 1) := by decide +kernel
theorem dX4_many_118 : decode cX4_many 118 = .ok (.aload_n 0, 1) := by decide +kernel
theorem dX4_many_119 : decode cX4_many 119 = .ok (.getfield 117, 3) := by decide +kernel
theorem dX4_many_122 : decode cX4_many 122 = .ok (.ireturn, 1) := by decide +kernel
theorem dX4_many_123 : decode cX4_many 123 = .ok (.aload_n 0, 1) := by decide +kernel
theorem dX4_many_124 : decode cX4_many 124 = .ok (.aload_n 0, 1) := by decide +kernel
theorem dX4_many_125 : decode cX4_many 125 = .ok (.getfield 117, 3) := by decide +kernel
theorem dX4_many_128 : decode cX4_many 128 = .ok (.invokevirtual 139, 3) := by decide +kernel
theorem dX4_many_131 : decode cX4_many 131 = .ok (.ireturn, 1) := by decide +kernel
theorem dX4_many_132 : decode cX4_many 132 = .ok (.aload_n 0, 1) := by decide +kernel
theorem dX4_many_133 : decode cX4_many 133 = .ok (.invokevirtual 188, 3) := by decide +kernel
theorem dX4_many_136 : decode cX4_many 136 = .ok (.ireturn, 1) := by decide +kernel
theorem dX4_many_137 : decode cX4_many 137 = .ok (.aload_n 0, 1) := by decide +kernel
theorem dX4_many_138 : decode cX4_many 138 = .ok (.invokevirtual 191, 3) := by decide +kernel
theorem dX4_many_141 : decode cX4_many 141 = .ok (.ireturn, 1) := by decide +kernel
theorem dX4_many_142 : decode cX4_many 142 = .ok (.aload_n 0, 1) := by decide +kernel
theorem dX4_many_143 : decode cX4_many 143 = .ok (.invokevirtual 76, 3) := by decide +kernel
theorem dX4_many_146 : decode cX4_many 146 = .ok (.sipush 2000, 3) := by decide +kernel
theorem dX4_many_149 : decode cX4_many 149 = .ok (.iadd, 1) := by decide +kernel
theorem dX4_many_150 : decode cX4_many 150 = .ok (.ireturn, 1) := by decide +kernel
theorem dX4_many_151 : decode cX4_many 151 = .ok (.aload_n 0, 1) := by decide +kernel
theorem dX4_many_152 : decode cX4_many 152 = .ok (.invokevirtual 107, 3) := by decide +kernel
theorem dX4_many_155 : decode cX4_many 155 = .ok (.sipush 2000, 3) := by decide +kernel
theorem dX4_many_158 : decode cX4_many 158 = .ok (.iadd, 1) := by decide +kernel
theorem dX4_many_159 : decode cX4_many 159 = .ok (.ireturn, 1) := by decide +kernel
theorem dX4_many_160 : decode cX4_many 160 = .ok (.bipush (-2), 2) := by decide +kernel
theorem dX4_many_162 : decode cX4_many 162 = .ok (.ireturn, 1) := by decide +kernel
theorem dJ6_bitCount_0f7a4_0 : decode cJ6_bitCount_0f7a4 0 = .ok (.iload_n 0, 1) := by decide +kernel
theorem dJ6_bitCount_0f7a4_1 : decode cJ6_bitCount_0f7a4 1 = .ok (.iload_n 0, 1) := by decide +kernel
theorem dJ6_bitCount_0f7a4_2 : decode cJ6_bitCount_0f7a4 2 = .ok (.iconst 1, 1) := by decide +kernel
theorem dJ6_bitCount_0f7a4_3 : decode cJ6_bitCount_0f7a4 3 = .ok (.iushr, 1) := by decide +kernel
theorem dJ6_bitCount_0f7a4_4 : decode cJ6_bitCount_0f7a4 4 = .ok (.ldc_w 265, 3) := by decide +kernel
theorem dJ6_bitCount_0f7a4_7 : decode cJ6_bitCount_0f7a4 7 = .ok (.iand, 1) := by decide +kernel
theorem dJ6_bitCount_0f7a4_8 : decode cJ6_bitCount_0f7a4 8 = .ok (.isub, 1) := by decide +kernel
theorem dJ6_bitCount_0f7a4_9 : decode cJ6_bitCount_0f7a4 9 = .ok (.istore_n 0, 1) := by decide +kernel
theorem dJ6_bitCount_0f7a4_10 : decode cJ6_bitCount_0f7a4 10 = .ok (.iload_n 0, 1) := by decide +kernel
theorem dJ6_bitCount_0f7a4_11 : decode cJ6_bitCount_0f7a4 11 = .ok (.ldc_w 266, 3) := by decide +kernel
theorem dJ6_bitCount_0f7a4_14 : decode cJ6_bitCount_0f7a4 14 = .ok (.iand, 1) := by decide +kernel
theorem dJ6_bitCount_0f7a4_15 : decode cJ6_bitCount_0f7a4 15 = .ok (.iload_n 0, 1) := by decide +kernel
theorem dJ6_bitCount_0f7a4_16 : decode cJ6_bitCount_0f7a4 16 = .ok (.iconst 2, 1) := by decide +kernel
theorem dJ6_bitCount_0f7a4_17 : decode cJ6_bitCount_0f7a4 17 = .ok (.iushr, 1) := by decide +kernel
theorem dJ6_bitCount_0f7a4_18 : decode cJ6_bitCount_0f7a4 18 = .ok (.ldc_w 266, 3) := by decide +kernel
theorem dJ6_bitCount_0f7a4_21 : decode cJ6_bitCount_0f7a4 21 = .ok (.iand, 1) := by decide +kernel
theorem dJ6_bitCount_0f7a4_22 : decode cJ6_bitCount_0f7a4 22 = .ok (.iadd, 1) := by decide +kernel
theorem dJ6_bitCount_0f7a4_23 : decode cJ6_bitCount_0f7a4 23 = .ok (.istore_n 0, 1) := by decide +kernel
theorem dJ6_bitCount_0f7a4_24 : decode cJ6_bitCount_0f7a4 24 = .ok (.iload_n 0, 1) := by decide +kernel
theorem dJ6_bitCount_0f7a4_25 : decode cJ6_bitCount_0f7a4 25 = .ok (.iload_n 0, 1) := by decide +kernel
theorem dJ6_bitCount_0f7a4_26 : decode cJ6_bitCount_0f7a4 26 = .ok (.iconst 4, 1) := by decide +kernel
theorem dJ6_bitCount_0f7a4_27 : decode cJ6_bitCount_0f7a4 27 = .ok (.iushr, 1) := by decide +kernel
theorem dJ6_bitCount_0f7a4_28 : decode cJ6_bitCount_0f7a4 28 = .ok (.iadd, 1) := by decide +kernel
theorem dJ6_bitCount_0f7a4_29 : decode cJ6_bitCount_0f7a4 29 = .ok (.ldc_w 267, 3) := by decide +kernel
theorem dJ6_bitCount_0f7a4_32 : decode cJ6_bitCount_0f7a4 32 = .ok (.iand, 1) := by decide +kernel
theorem dJ6_bitCount_0f7a4_33 : decode cJ6_bitCount_0f7a4 33 = .ok (.istore_n 0, 1) := by decide +kernel
theorem dJ6_bitCount_0f7a4_34 : decode cJ6_bitCount_0f7a4 34 = .ok (.iload_n 0, 1) := by decide +kernel
theorem dJ6_bitCount_0f7a4_35 : decode cJ6_bitCount_0f7a4 35 = .ok (.iload_n 0, 1) := by decide +kernel
theorem dJ6_bitCount_0f7a4_36 : decode cJ6_bitCount_0f7a4 36 = .ok (.bipush 8, 2) := by decide +kernel
theorem dJ6_bitCount_0f7a4_38 : decode cJ6_bitCount_0f7a4 38 = .ok (.iushr, 1) := by decide +kernel
theorem dJ6_bitCount_0f7a4_39 : decode cJ6_bitCount_0f7a4 39 = .ok (.iadd, 1) := by decide +kernel
theorem dJ6_bitCount_0f7a4_40 : decode cJ6_bitCount_0f7a4 40 = .ok (.istore_n 0, 1) := by decide +kernel
theorem dJ6_bitCount_0f7a4_41 : decode cJ6_bitCount_0f7a4 41 = .ok (.iload_n 0, 1) := by decide +kernel
theorem dJ6_bitCount_0f7a4_42 : decode cJ6_bitCount_0f7a4 42 = .ok (.iload_n 0, 1) := by decide +kernel
theorem dJ6_bitCount_0f7a4_43 : decode cJ6_bitCount_0f7a4 43 = .ok (.bipush 16, 2) := by decide +kernel
theorem dJ6_bitCount_0f7a4_45 : decode cJ6_bitCount_0f7a4 45 = .ok (.iushr, 1) := by decide +kernel
theorem dJ6_bitCount_0f7a4_46 : decode cJ6_bitCount_0f7a4 46 = .ok (.iadd, 1) := by decide +kernel
theorem dJ6_bitCount_0f7a4_47 : decode cJ6_bitCount_0f7a4 47 = .ok (.istore_n 0, 1) := by decide +kernel
theorem dJ6_bitCount_0f7a4_48 : decode cJ6_bitCount_0f7a4 48 = .ok (.iload_n 0, 1) := by decide +kernel
theorem dJ6_bitCount_0f7a4_49 : decode cJ6_bitCount_0f7a4 49 = .ok (.bipush 63, 2) := by decide +kernel
theorem dJ6_bitCount_0f7a4_51 : decode cJ6_bitCount_0f7a4 51 = .ok (.iand, 1) := by decide +kernel
theorem dJ6_bitCount_0f7a4_52 : decode cJ6_bitCount_0f7a4 52 = .ok (.ireturn, 1) := by decide +kernel
theorem dJ9_abs_0f7a4_0 : decode cJ9_abs_0f7a4 0 = .ok (.iload_n 0, 1) := by decide +kernel
theorem dJ9_abs_0f7a4_1 : decode cJ9_abs_0f7a4 1 = .ok (.ifCond .ge 8, 3) := by decide +kernel
theorem dJ9_abs_0f7a4_4 : decode cJ9_abs_0f7a4 4 = .ok (.iload_n 0, 1) := by decide +kernel
theorem dJ9_abs_0f7a4_5 : decode cJ9_abs_0f7a4 5 = .ok (.ineg, 1) := by decide +kernel
theorem dJ9_abs_0f7a4_6 : decode cJ9_abs_0f7a4 6 = .ok (.goto 4, 3) := by decide +kernel
theorem dJ9_abs_0f7a4_9 : decode cJ9_abs_0f7a4 9 = .ok (.iload_n 0, 1) := by decide +kernel
theorem dJ9_abs_0f7a4_10 : decode cJ9_abs_0f7a4 10 = .ok (.ireturn, 1) := by decide +kernel
theorem dJ9_max_7cf53_0 : decode cJ9_max_7cf53 0 = .ok (.iload_n 0, 1) := by decide +kernel
theorem dJ9_max_7cf53_1 : decode cJ9_max_7cf53 1 = .ok (.iload_n 1, 1) := by decide +kernel
theorem dJ9_max_7cf53_2 : decode cJ9_max_7cf53 2 = .ok (.if_icmp .lt 7, 3) := by decide +kernel
theorem dJ9_max_7cf53_5 : decode cJ9_max_7cf53 5 = .ok (.iload_n 0, 1) := by decide +kernel
theorem dJ9_max_7cf53_6 : decode cJ9_max_7cf53 6 = .ok (.goto 4, 3) := by decide +kernel
theorem dJ9_max_7cf53_9 : decode cJ9_max_7cf53 9 = .ok (.iload_n 1, 1) := by decide +kernel
theorem dJ9_max_7cf53_10 : decode cJ9_max_7cf53 10 = .ok (.ireturn, 1) := by decide +kernel
theorem dJ9_min_7cf53_0 : decode cJ9_min_7cf53 0 = .ok (.iload_n 0, 1) := by decide +kernel
theorem dJ9_min_7cf53_1 : decode cJ9_min_7cf53 1 = .ok (.iload_n 1, 1) := by decide +kernel
theorem dJ9_min_7cf53_2 : decode cJ9_min_7cf53 2 = .ok (.if_icmp .gt 7, 3) := by decide +kernel
theorem dJ9_min_7cf53_5 : decode cJ9_min_7cf53 5 = .ok (.iload_n 0, 1) := by decide +kernel
theorem dJ9_min_7cf53_6 : decode cJ9_min_7cf53 6 = .ok (.goto 4, 3) := by decide +kernel
theorem dJ9_min_7cf53_9 : decode cJ9_min_7cf53 9 = .ok (.iload_n 1, 1) := by decide +kernel
theorem dJ9_min_7cf53_10 : decode cJ9_min_7cf53 10 = .ok (.ireturn, 1) := by decide +kernel
theorem dJ7_fill_53178_0 : decode cJ7_fill_53178 0 = .ok (.iconst 0, 1) := by decide +kernel
theorem dJ7_fill_53178_1 : decode cJ7_fill_53178 1 = .ok (.istore_n 2, 1) := by decide +kernel
theorem dJ7_fill_53178_2 : decode cJ7_fill_53178 2 = .ok (.aload_n 0, 1) := by decide +kernel
theorem dJ7_fill_53178_3 : decode cJ7_fill_53178 3 = .ok (.arraylength, 1) := by decide +kernel
theorem dJ7_fill_53178_4 : decode cJ7_fill_53178 4 = .ok (.istore_n 3, 1) := by decide +kernel
theorem dJ7_fill_53178_5 : decode cJ7_fill_53178 5 = .ok (.iload_n 2, 1) := by decide +kernel
theorem dJ7_fill_53178_6 : decode cJ7_fill_53178 6 = .ok (.iload_n 3, 1) := by decide +kernel
theorem dJ7_fill_53178_7 : decode cJ7_fill_53178 7 = .ok (.if_icmp .ge 13, 3) := by decide +kernel
theorem dJ7_fill_53178_10 : decode cJ7_fill_53178 10 = .ok (.aload_n 0, 1) := by decide +kernel
theorem dJ7_fill_53178_11 : decode cJ7_fill_53178 11 = .ok (.iload_n 2, 1) := by decide +kernel
theorem dJ7_fill_53178_12 : decode cJ7_fill_53178 12 = .ok (.iload_n 1, 1) := by decide +kernel
theorem dJ7_fill_53178_13 : decode cJ7_fill_53178 13 = .ok (.iastore, 1) := by decide +kernel
theorem dJ7_fill_53178_14 : decode cJ7_fill_53178 14 = .ok (.iinc 2 1, 3) := by decide +kernel
theorem dJ7_fill_53178_17 : decode cJ7_fill_53178 17 = .ok (.goto (-12), 3) := by decide +kernel
theorem dJ7_fill_53178_20 : decode cJ7_fill_53178 20 = .ok (.return_, 1) := by decide +kernel
theorem dL_law_0 : decode cL_law 0 = .ok (.new 7, 3) := by decide +kernel
theorem dL_law_3 : decode cL_law 3 = .ok (.dup, 1) := by decide +kernel
theorem dL_law_4 : decode cL_law 4 = .ok (.invokespecial 9, 3) := by decide +kernel
theorem dL_law_7 : decode cL_law 7 = .ok (.astore_n 1, 1) := by decide +kernel
theorem dL_law_8 : decode cL_law 8 = .ok (.new 10, 3) := by decide +kernel
theorem dL_law_11 : decode cL_law 11 = .ok (.dup, 1) := by decide +kernel
theorem dL_law_12 : decode cL_law 12 = .ok (.invokespecial 12, 3) := by decide +kernel
theorem dL_law_15 : decode cL_law 15 = .ok (.astore_n 2, 1) := by decide +kernel
theorem dL_law_16 : decode cL_law 16 = .ok (.iconst 0, 1) := by decide +kernel
theorem dL_law_17 : decode cL_law 17 = .ok (.istore_n 3, 1) := by decide +kernel
theorem dL_law_18 : decode cL_law 18 = .ok (.iload_n 3, 1) := by decide +kernel
theorem dL_law_19 : decode cL_law 19 = .ok (.aload_n 0, 1) := by decide +kernel
theorem dL_law_20 : decode cL_law 20 = .ok (.arraylength, 1) := by decide +kernel
theorem dL_law_21 : decode cL_law 21 = .ok (.iconst 5, 1) := by decide +kernel
theorem dL_law_22 : decode cL_law 22 = .ok (.isub, 1) := by decide +kernel
theorem dL_law_23 : decode cL_law 23 = .ok (.if_icmp .gt 689, 3) := by decide +kernel
theorem dL_law_26 : decode cL_law 26 = .ok (.aload_n 0, 1) := by decide +kernel
theorem dL_law_27 : decode cL_law 27 = .ok (.iload_n 3, 1) := by decide +kernel
theorem dL_law_28 : decode cL_law 28 = .ok (.iaload, 1) := by decide +kernel
theorem dL_law_29 : decode cL_law 29 = .ok (.bipush 31, 2) := by decide +kernel
theorem dL_law_31 : decode cL_law 31 = .ok (.iand, 1) := by decide +kernel
theorem dL_law_32 : decode cL_law 32 = .ok (.tableswitch 674 0 17 #[88, 141, 174, 207, 250, 263, 276, 309, 352, 385, 408, 441, 484, 507, 541, 585, 618, 651], 88) := by decide +kernel
theorem dL_law_120 : decode cL_law 120 = .ok (.aload_n 1, 1) := by decide +kernel
theorem dL_law_121 : decode cL_law 121 = .ok (.aload_n 0, 1) := by decide +kernel
theorem dL_law_122 : decode cL_law 122 = .ok (.iload_n 3, 1) := by decide +kernel
theorem dL_law_123 : decode cL_law 123 = .ok (.iconst 1, 1) := by decide +kernel
theorem dL_law_124 : decode cL_law 124 = .ok (.iadd, 1) := by decide +kernel
theorem dL_law_125 : decode cL_law 125 = .ok (.iaload, 1) := by decide +kernel
theorem dL_law_126 : decode cL_law 126 = .ok (.aload_n 0, 1) := by decide +kernel
theorem dL_law_127 : decode cL_law 127 = .ok (.iload_n 3, 1) := by decide +kernel
theorem dL_law_128 : decode cL_law 128 = .ok (.iconst 2, 1) := by decide +kernel
theorem dL_law_129 : decode cL_law 129 = .ok (.iadd, 1) := by decide +kernel
theorem dL_law_130 : decode cL_law 130 = .ok (.iaload, 1) := by decide +kernel
theorem dL_law_131 : decode cL_law 131 = .ok (.aload_n 0, 1) := by decide +kernel
theorem dL_law_132 : decode cL_law 132 = .ok (.iload_n 3, 1) := by decide +kernel
theorem dL_law_133 : decode cL_law 133 = .ok (.iconst 3, 1) := by decide +kernel
theorem dL_law_134 : decode cL_law 134 = .ok (.iadd, 1) := by decide +kernel
theorem dL_law_135 : decode cL_law 135 = .ok (.iaload, 1) := by decide +kernel
theorem dL_law_136 : decode cL_law 136 = .ok (.aload_n 0, 1) := by decide +kernel
theorem dL_law_137 : decode cL_law 137 = .ok (.iload_n 3, 1) := by decide +kernel
theorem dL_law_138 : decode cL_law 138 = .ok (.iconst 4, 1) := by decide +kernel
theorem dL_law_139 : decode cL_law 139 = .ok (.iadd, 1) := by decide +kernel
theorem dL_law_140 : decode cL_law 140 = .ok (.iaload, 1) := by decide +kernel
theorem dL_law_141 : decode cL_law 141 = .ok (.invokevirtual 13, 3) := by decide +kernel
theorem dL_law_144 : decode cL_law 144 = .ok (.aload_n 2, 1) := by decide +kernel
theorem dL_law_145 : decode cL_law 145 = .ok (.aload_n 0, 1) := by decide +kernel
theorem dL_law_146 : decode cL_law 146 = .ok (.iload_n 3, 1) := by decide +kernel
theorem dL_law_147 : decode cL_law 147 = .ok (.iconst 1, 1) := by decide +kernel
theorem dL_law_148 : decode cL_law 148 = .ok (.iadd, 1) := by decide +kernel
theorem dL_law_149 : decode cL_law 149 = .ok (.iaload, 1) := by decide +kernel
theorem dL_law_150 : decode cL_law 150 = .ok (.aload_n 0, 1) := by decide +kernel
theorem dL_law_151 : decode cL_law 151 = .ok (.iload_n 3, 1) := by decide +kernel
theorem dL_law_152 : decode cL_law 152 = .ok (.iconst 2, 1) := by decide +kernel
theorem dL_law_153 : decode cL_law 153 = .ok (.iadd, 1) := by decide +kernel
theorem dL_law_154 : decode cL_law 154 = .ok (.iaload, 1) := by decide +kernel
theorem dL_law_155 : decode cL_law 155 = .ok (.aload_n 0, 1) := by decide +kernel
theorem dL_law_156 : decode cL_law 156 = .ok (.iload_n 3, 1) := by decide +kernel
theorem dL_law_157 : decode cL_law 157 = .ok (.iconst 3, 1) := by decide +kernel
theorem dL_law_158 : decode cL_law 158 = .ok (.iadd, 1) := by decide +kernel
theorem dL_law_159 : decode cL_law 159 = .ok (.iaload, 1) := by decide +kernel
theorem dL_law_160 : decode cL_law 160 = .ok (.aload_n 0, 1) := by decide +kernel
theorem dL_law_161 : decode cL_law 161 = .ok (.iload_n 3, 1) := by decide +kernel
theorem dL_law_162 : decode cL_law 162 = .ok (.iconst 4, 1) := by decide +kernel
theorem dL_law_163 : decode cL_law 163 = .ok (.iadd, 1) := by decide +kernel
theorem dL_law_164 : decode cL_law 164 = .ok (.iaload, 1) := by decide +kernel
theorem dL_law_165 : decode cL_law 165 = .ok (.invokevirtual 17, 3) := by decide +kernel
theorem dL_law_168 : decode cL_law 168 = .ok (.if_icmp .eq 538, 3) := by decide +kernel
theorem dL_law_171 : decode cL_law 171 = .ok (.iconst 0, 1) := by decide +kernel
theorem dL_law_172 : decode cL_law 172 = .ok (.ireturn, 1) := by decide +kernel
theorem dL_law_173 : decode cL_law 173 = .ok (.aload_n 1, 1) := by decide +kernel
theorem dL_law_174 : decode cL_law 174 = .ok (.aload_n 0, 1) := by decide +kernel
theorem dL_law_175 : decode cL_law 175 = .ok (.iload_n 3, 1) := by decide +kernel
theorem dL_law_176 : decode cL_law 176 = .ok (.iconst 1, 1) := by decide +kernel
theorem dL_law_177 : decode cL_law 177 = .ok (.iadd, 1) := by decide +kernel
theorem dL_law_178 : decode cL_law 178 = .ok (.iaload, 1) := by decide +kernel
theorem dL_law_179 : decode cL_law 179 = .ok (.aload_n 0, 1) := by decide +kernel
theorem dL_law_180 : decode cL_law 180 = .ok (.iload_n 3, 1) := by decide +kernel
theorem dL_law_181 : decode cL_law 181 = .ok (.iconst 2, 1) := by decide +kernel
theorem dL_law_182 : decode cL_law 182 = .ok (.iadd, 1) := by decide +kernel
theorem dL_law_183 : decode cL_law 183 = .ok (.iaload, 1) := by decide +kernel
theorem dL_law_184 : decode cL_law 184 = .ok (.invokevirtual 18, 3) := by decide +kernel
theorem dL_law_187 : decode cL_law 187 = .ok (.aload_n 2, 1) := by decide +kernel
theorem dL_law_188 : decode cL_law 188 = .ok (.aload_n 0, 1) := by decide +kernel
theorem dL_law_189 : decode cL_law 189 = .ok (.iload_n 3, 1) := by decide +kernel
theorem dL_law_190 : decode cL_law 190 = .ok (.iconst 1, 1) := by decide +kernel
theorem dL_law_191 : decode cL_law 191 = .ok (.iadd, 1) := by decide +kernel
theorem dL_law_192 : decode cL_law 192 = .ok (.iaload, 1) := by decide +kernel
theorem dL_law_193 : decode cL_law 193 = .ok (.aload_n 0, 1) := by decide +kernel
theorem dL_law_194 : decode cL_law 194 = .ok (.iload_n 3, 1) := by decide +kernel
theorem dL_law_195 : decode cL_law 195 = .ok (.iconst 2, 1) := by decide +kernel
theorem dL_law_196 : decode cL_law 196 = .ok (.iadd, 1) := by decide +kernel
theorem dL_law_197 : decode cL_law 197 = .ok (.iaload, 1) := by decide +kernel
theorem dL_law_198 : decode cL_law 198 = .ok (.invokevirtual 22, 3) := by decide +kernel
theorem dL_law_201 : decode cL_law 201 = .ok (.if_icmp .eq 505, 3) := by decide +kernel
theorem dL_law_204 : decode cL_law 204 = .ok (.iconst 0, 1) := by decide +kernel
theorem dL_law_205 : decode cL_law 205 = .ok (.ireturn, 1) := by decide +kernel
theorem dL_law_206 : decode cL_law 206 = .ok (.aload_n 1, 1) := by decide +kernel
theorem dL_law_207 : decode cL_law 207 = .ok (.aload_n 0, 1) := by decide +kernel
theorem dL_law_208 : decode cL_law 208 = .ok (.iload_n 3, 1) := by decide +kernel
theorem dL_law_209 : decode cL_law 209 = .ok (.iconst 1, 1) := by decide +kernel
theorem dL_law_210 : decode cL_law 210 = .ok (.iadd, 1) := by decide +kernel
theorem dL_law_211 : decode cL_law 211 = .ok (.iaload, 1) := by decide +kernel
theorem dL_law_212 : decode cL_law 212 = .ok (.aload_n 0, 1) := by decide +kernel
theorem dL_law_213 : decode cL_law 213 = .ok (.iload_n 3, 1) := by decide +kernel
theorem dL_law_214 : decode cL_law 214 = .ok (.iconst 2, 1) := by decide +kernel
theorem dL_law_215 : decode cL_law 215 = .ok (.iadd, 1) := by decide +kernel
theorem dL_law_216 : decode cL_law 216 = .ok (.iaload, 1) := by decide +kernel
theorem dL_law_217 : decode cL_law 217 = .ok (.invokevirtual 23, 3) := by decide +kernel
theorem dL_law_220 : decode cL_law 220 = .ok (.aload_n 2, 1) := by decide +kernel
theorem dL_law_221 : decode cL_law 221 = .ok (.aload_n 0, 1) := by decide +kernel
theorem dL_law_222 : decode cL_law 222 = .ok (.iload_n 3, 1) := by decide +kernel
theorem dL_law_223 : decode cL_law 223 = .ok (.iconst 1, 1) := by decide +kernel
theorem dL_law_224 : decode cL_law 224 = .ok (.iadd, 1) := by decide +kernel
theorem dL_law_225 : decode cL_law 225 = .ok (.iaload, 1) := by decide +kernel
theorem dL_law_226 : decode cL_law 226 = .ok (.aload_n 0, 1) := by decide +kernel
theorem dL_law_227 : decode cL_law 227 = .ok (.iload_n 3, 1) := by decide +kernel
theorem dL_law_228 : decode cL_law 228 = .ok (.iconst 2, 1) := by decide +kernel
theorem dL_law_229 : decode cL_law 229 = .ok (.iadd, 1) := by decide +kernel
theorem dL_law_230 : decode cL_law 230 = .ok (.iaload, 1) := by decide +kernel
theorem dL_law_231 : decode cL_law 231 = .ok (.invokevirtual 26, 3) := by decide +kernel
theorem dL_law_234 : decode cL_law 234 = .ok (.if_icmp .eq 472, 3) := by decide +kernel
theorem dL_law_237 : decode cL_law 237 = .ok (.iconst 0, 1) := by decide +kernel
theorem dL_law_238 : decode cL_law 238 = .ok (.ireturn, 1) := by decide +kernel
theorem dL_law_239 : decode cL_law 239 = .ok (.aload_n 1, 1) := by decide +kernel
theorem dL_law_240 : decode cL_law 240 = .ok (.aload_n 0, 1) := by decide +kernel
theorem dL_law_241 : decode cL_law 241 = .ok (.iload_n 3, 1) := by decide +kernel
theorem dL_law_242 : decode cL_law 242 = .ok (.iconst 1, 1) := by decide +kernel
theorem dL_law_243 : decode cL_law 243 = .ok (.iadd, 1) := by decide +kernel
theorem dL_law_244 : decode cL_law 244 = .ok (.iaload, 1) := by decide +kernel
theorem dL_law_245 : decode cL_law 245 = .ok (.aload_n 0, 1) := by decide +kernel
theorem dL_law_246 : decode cL_law 246 = .ok (.iload_n 3, 1) := by decide +kernel
theorem dL_law_247 : decode cL_law 247 = .ok (.iconst 2, 1) := by decide +kernel
theorem dL_law_248 : decode cL_law 248 = .ok (.iadd, 1) := by decide +kernel
theorem dL_law_249 : decode cL_law 249 = .ok (.iaload, 1) := by decide +kernel
theorem dL_law_250 : decode cL_law 250 = .ok (.aload_n 0, 1) := by decide +kernel
theorem dL_law_251 : decode cL_law 251 = .ok (.iload_n 3, 1) := by decide +kernel
theorem dL_law_252 : decode cL_law 252 = .ok (.iconst 3, 1) := by decide +kernel
theorem dL_law_253 : decode cL_law 253 = .ok (.iadd, 1) := by decide +kernel
theorem dL_law_254 : decode cL_law 254 = .ok (.iaload, 1) := by decide +kernel
theorem dL_law_255 : decode cL_law 255 = .ok (.invokevirtual 27, 3) := by decide +kernel
theorem dL_law_258 : decode cL_law 258 = .ok (.aload_n 2, 1) := by decide +kernel
theorem dL_law_259 : decode cL_law 259 = .ok (.aload_n 0, 1) := by decide +kernel
theorem dL_law_260 : decode cL_law 260 = .ok (.iload_n 3, 1) := by decide +kernel
theorem dL_law_261 : decode cL_law 261 = .ok (.iconst 1, 1) := by decide +kernel
theorem dL_law_262 : decode cL_law 262 = .ok (.iadd, 1) := by decide +kernel
theorem dL_law_263 : decode cL_law 263 = .ok (.iaload, 1) := by decide +kernel
theorem dL_law_264 : decode cL_law 264 = .ok (.aload_n 0, 1) := by decide +kernel
theorem dL_law_265 : decode cL_law 265 = .ok (.iload_n 3, 1) := by decide +kernel
theorem dL_law_266 : decode cL_law 266 = .ok (.iconst 2, 1) := by decide +kernel
theorem dL_law_267 : decode cL_law 267 = .ok (.iadd, 1) := by decide +kernel
theorem dL_law_268 : decode cL_law 268 = .ok (.iaload, 1) := by decide +kernel
theorem dL_law_269 : decode cL_law 269 = .ok (.aload_n 0, 1) := by decide +kernel
theorem dL_law_270 : decode cL_law 270 = .ok (.iload_n 3, 1) := by decide +kernel
theorem dL_law_271 : decode cL_law 271 = .ok (.iconst 3, 1) := by decide +kernel
theorem dL_law_272 : decode cL_law 272 = .ok (.iadd, 1) := by decide +kernel
theorem dL_law_273 : decode cL_law 273 = .ok (.iaload, 1) := by decide +kernel
theorem dL_law_274 : decode cL_law 274 = .ok (.invokevirtual 31, 3) := by decide +kernel
theorem dL_law_277 : decode cL_law 277 = .ok (.if_icmp .eq 429, 3) := by decide +kernel
theorem dL_law_280 : decode cL_law 280 = .ok (.iconst 0, 1) := by decide +kernel
theorem dL_law_281 : decode cL_law 281 = .ok (.ireturn, 1) := by decide +kernel
theorem dL_law_282 : decode cL_law 282 = .ok (.aload_n 1, 1) := by decide +kernel
theorem dL_law_283 : decode cL_law 283 = .ok (.invokevirtual 32, 3) := by decide +kernel
theorem dL_law_286 : decode cL_law 286 = .ok (.aload_n 2, 1) := by decide +kernel
theorem dL_law_287 : decode cL_law 287 = .ok (.invokevirtual 36, 3) := by decide +kernel
theorem dL_law_290 : decode cL_law 290 = .ok (.if_icmp .eq 416, 3) := by decide +kernel
theorem dL_law_293 : decode cL_law 293 = .ok (.iconst 0, 1) := by decide +kernel
theorem dL_law_294 : decode cL_law 294 = .ok (.ireturn, 1) := by decide +kernel
theorem dL_law_295 : decode cL_law 295 = .ok (.aload_n 1, 1) := by decide +kernel
theorem dL_law_296 : decode cL_law 296 = .ok (.invokevirtual 37, 3) := by decide +kernel
theorem dL_law_299 : decode cL_law 299 = .ok (.aload_n 2, 1) := by decide +kernel
theorem dL_law_300 : decode cL_law 300 = .ok (.invokevirtual 40, 3) := by decide +kernel
theorem dL_law_303 : decode cL_law 303 = .ok (.if_icmp .eq 403, 3) := by decide +kernel
theorem dL_law_306 : decode cL_law 306 = .ok (.iconst 0, 1) := by decide +kernel
theorem dL_law_307 : decode cL_law 307 = .ok (.ireturn, 1) := by decide +kernel
theorem dL_law_308 : decode cL_law 308 = .ok (.aload_n 1, 1) := by decide +kernel
theorem dL_law_309 : decode cL_law 309 = .ok (.aload_n 0, 1) := by decide +kernel
theorem dL_law_310 : decode cL_law 310 = .ok (.iload_n 3, 1) := by decide +kernel
theorem dL_law_311 : decode cL_law 311 = .ok (.iconst 1, 1) := by decide +kernel
theorem dL_law_312 : decode cL_law 312 = .ok (.iadd, 1) := by decide +kernel
theorem dL_law_313 : decode cL_law 313 = .ok (.iaload, 1) := by decide +kernel
theorem dL_law_314 : decode cL_law 314 = .ok (.aload_n 0, 1) := by decide +kernel
theorem dL_law_315 : decode cL_law 315 = .ok (.iload_n 3, 1) := by decide +kernel
theorem dL_law_316 : decode cL_law 316 = .ok (.iconst 2, 1) := by decide +kernel
theorem dL_law_317 : decode cL_law 317 = .ok (.iadd, 1) := by decide +kernel
theorem dL_law_318 : decode cL_law 318 = .ok (.iaload, 1) := by decide +kernel
theorem dL_law_319 : decode cL_law 319 = .ok (.invokevirtual 41, 3) := by decide +kernel
theorem dL_law_322 : decode cL_law 322 = .ok (.aload_n 2, 1) := by decide +kernel
theorem dL_law_323 : decode cL_law 323 = .ok (.aload_n 0, 1) := by decide +kernel
theorem dL_law_324 : decode cL_law 324 = .ok (.iload_n 3, 1) := by decide +kernel
theorem dL_law_325 : decode cL_law 325 = .ok (.iconst 1, 1) := by decide +kernel
theorem dL_law_326 : decode cL_law 326 = .ok (.iadd, 1) := by decide +kernel
theorem dL_law_327 : decode cL_law 327 = .ok (.iaload, 1) := by decide +kernel
theorem dL_law_328 : decode cL_law 328 = .ok (.aload_n 0, 1) := by decide +kernel
theorem dL_law_329 : decode cL_law 329 = .ok (.iload_n 3, 1) := by decide +kernel
theorem dL_law_330 : decode cL_law 330 = .ok (.iconst 2, 1) := by decide +kernel
theorem dL_law_331 : decode cL_law 331 = .ok (.iadd, 1) := by decide +kernel
theorem dL_law_332 : decode cL_law 332 = .ok (.iaload, 1) := by decide +kernel
theorem dL_law_333 : decode cL_law 333 = .ok (.invokevirtual 44, 3) := by decide +kernel
theorem dL_law_336 : decode cL_law 336 = .ok (.if_icmp .eq 370, 3) := by decide +kernel
theorem dL_law_339 : decode cL_law 339 = .ok (.iconst 0, 1) := by decide +kernel
theorem dL_law_340 : decode cL_law 340 = .ok (.ireturn, 1) := by decide +kernel
theorem dL_law_341 : decode cL_law 341 = .ok (.aload_n 1, 1) := by decide +kernel
theorem dL_law_342 : decode cL_law 342 = .ok (.aload_n 0, 1) := by decide +kernel
theorem dL_law_343 : decode cL_law 343 = .ok (.iload_n 3, 1) := by decide +kernel
theorem dL_law_344 : decode cL_law 344 = .ok (.iconst 1, 1) := by decide +kernel
theorem dL_law_345 : decode cL_law 345 = .ok (.iadd, 1) := by decide +kernel
theorem dL_law_346 : decode cL_law 346 = .ok (.iaload, 1) := by decide +kernel
theorem dL_law_347 : decode cL_law 347 = .ok (.aload_n 0, 1) := by decide +kernel
theorem dL_law_348 : decode cL_law 348 = .ok (.iload_n 3, 1) := by decide +kernel
theorem dL_law_349 : decode cL_law 349 = .ok (.iconst 2, 1) := by decide +kernel
theorem dL_law_350 : decode cL_law 350 = .ok (.iadd, 1) := by decide +kernel
theorem dL_law_351 : decode cL_law 351 = .ok (.iaload, 1) := by decide +kernel
theorem dL_law_352 : decode cL_law 352 = .ok (.aload_n 0, 1) := by decide +kernel
theorem dL_law_353 : decode cL_law 353 = .ok (.iload_n 3, 1) := by decide +kernel
theorem dL_law_354 : decode cL_law 354 = .ok (.iconst 3, 1) := by decide +kernel
theorem dL_law_355 : decode cL_law 355 = .ok (.iadd, 1) := by decide +kernel
theorem dL_law_356 : decode cL_law 356 = .ok (.iaload, 1) := by decide +kernel
theorem dL_law_357 : decode cL_law 357 = .ok (.invokevirtual 45, 3) := by decide +kernel
theorem dL_law_360 : decode cL_law 360 = .ok (.aload_n 2, 1) := by decide +kernel
theorem dL_law_361 : decode cL_law 361 = .ok (.aload_n 0, 1) := by decide +kernel
theorem dL_law_362 : decode cL_law 362 = .ok (.iload_n 3, 1) := by decide +kernel
theorem dL_law_363 : decode cL_law 363 = .ok (.iconst 1, 1) := by decide +kernel
theorem dL_law_364 : decode cL_law 364 = .ok (.iadd, 1) := by decide +kernel
theorem dL_law_365 : decode cL_law 365 = .ok (.iaload, 1) := by decide +kernel
theorem dL_law_366 : decode cL_law 366 = .ok (.aload_n 0, 1) := by decide +kernel
theorem dL_law_367 : decode cL_law 367 = .ok (.iload_n 3, 1) := by decide +kernel
theorem dL_law_368 : decode cL_law 368 = .ok (.iconst 2, 1) := by decide +kernel
theorem dL_law_369 : decode cL_law 369 = .ok (.iadd, 1) := by decide +kernel
theorem dL_law_370 : decode cL_law 370 = .ok (.iaload, 1) := by decide +kernel
theorem dL_law_371 : decode cL_law 371 = .ok (.aload_n 0, 1) := by decide +kernel
theorem dL_law_372 : decode cL_law 372 = .ok (.iload_n 3, 1) := by decide +kernel
theorem dL_law_373 : decode cL_law 373 = .ok (.iconst 3, 1) := by decide +kernel
theorem dL_law_374 : decode cL_law 374 = .ok (.iadd, 1) := by decide +kernel
theorem dL_law_375 : decode cL_law 375 = .ok (.iaload, 1) := by decide +kernel
theorem dL_law_376 : decode cL_law 376 = .ok (.invokevirtual 48, 3) := by decide +kernel
theorem dL_law_379 : decode cL_law 379 = .ok (.if_icmp .eq 327, 3) := by decide +kernel
theorem dL_law_382 : decode cL_law 382 = .ok (.iconst 0, 1) := by decide +kernel
theorem dL_law_383 : decode cL_law 383 = .ok (.ireturn, 1) := by decide +kernel
theorem dL_law_384 : decode cL_law 384 = .ok (.aload_n 1, 1) := by decide +kernel
theorem dL_law_385 : decode cL_law 385 = .ok (.aload_n 0, 1) := by decide +kernel
theorem dL_law_386 : decode cL_law 386 = .ok (.iload_n 3, 1) := by decide +kernel
theorem dL_law_387 : decode cL_law 387 = .ok (.iconst 1, 1) := by decide +kernel
theorem dL_law_388 : decode cL_law 388 = .ok (.iadd, 1) := by decide +kernel
theorem dL_law_389 : decode cL_law 389 = .ok (.iaload, 1) := by decide +kernel
theorem dL_law_390 : decode cL_law 390 = .ok (.aload_n 0, 1) := by decide +kernel
theorem dL_law_391 : decode cL_law 391 = .ok (.iload_n 3, 1) := by decide +kernel
theorem dL_law_392 : decode cL_law 392 = .ok (.iconst 2, 1) := by decide +kernel
theorem dL_law_393 : decode cL_law 393 = .ok (.iadd, 1) := by decide +kernel
theorem dL_law_394 : decode cL_law 394 = .ok (.iaload, 1) := by decide +kernel
theorem dL_law_395 : decode cL_law 395 = .ok (.invokevirtual 49, 3) := by decide +kernel
theorem dL_law_398 : decode cL_law 398 = .ok (.aload_n 2, 1) := by decide +kernel
theorem dL_law_399 : decode cL_law 399 = .ok (.aload_n 0, 1) := by decide +kernel
theorem dL_law_400 : decode cL_law 400 = .ok (.iload_n 3, 1) := by decide +kernel
theorem dL_law_401 : decode cL_law 401 = .ok (.iconst 1, 1) := by decide +kernel
theorem dL_law_402 : decode cL_law 402 = .ok (.iadd, 1) := by decide +kernel
theorem dL_law_403 : decode cL_law 403 = .ok (.iaload, 1) := by decide +kernel
theorem dL_law_404 : decode cL_law 404 = .ok (.aload_n 0, 1) := by decide +kernel
theorem dL_law_405 : decode cL_law 405 = .ok (.iload_n 3, 1) := by decide +kernel
theorem dL_law_406 : decode cL_law 406 = .ok (.iconst 2, 1) := by decide +kernel
theorem dL_law_407 : decode cL_law 407 = .ok (.iadd, 1) := by decide +kernel
theorem dL_law_408 : decode cL_law 408 = .ok (.iaload, 1) := by decide +kernel
theorem dL_law_409 : decode cL_law 409 = .ok (.invokevirtual 52, 3) := by decide +kernel
theorem dL_law_412 : decode cL_law 412 = .ok (.if_icmp .eq 294, 3) := by decide +kernel
theorem dL_law_415 : decode cL_law 415 = .ok (.iconst 0, 1) := by decide +kernel
theorem dL_law_416 : decode cL_law 416 = .ok (.ireturn, 1) := by decide +kernel
theorem dL_law_417 : decode cL_law 417 = .ok (.aload_n 1, 1) := by decide +kernel
theorem dL_law_418 : decode cL_law 418 = .ok (.aload_n 0, 1) := by decide +kernel
theorem dL_law_419 : decode cL_law 419 = .ok (.iload_n 3, 1) := by decide +kernel
theorem dL_law_420 : decode cL_law 420 = .ok (.iconst 1, 1) := by decide +kernel
theorem dL_law_421 : decode cL_law 421 = .ok (.iadd, 1) := by decide +kernel
theorem dL_law_422 : decode cL_law 422 = .ok (.iaload, 1) := by decide +kernel
theorem dL_law_423 : decode cL_law 423 = .ok (.invokevirtual 53, 3) := by decide +kernel
theorem dL_law_426 : decode cL_law 426 = .ok (.aload_n 2, 1) := by decide +kernel
theorem dL_law_427 : decode cL_law 427 = .ok (.aload_n 0, 1) := by decide +kernel
theorem dL_law_428 : decode cL_law 428 = .ok (.iload_n 3, 1) := by decide +kernel
theorem dL_law_429 : decode cL_law 429 = .ok (.iconst 1, 1) := by decide +kernel
theorem dL_law_430 : decode cL_law 430 = .ok (.iadd, 1) := by decide +kernel
theorem dL_law_431 : decode cL_law 431 = .ok (.iaload, 1) := by decide +kernel
theorem dL_law_432 : decode cL_law 432 = .ok (.invokevirtual 57, 3) := by decide +kernel
theorem dL_law_435 : decode cL_law 435 = .ok (.if_icmp .eq 271, 3) := by decide +kernel
theorem dL_law_438 : decode cL_law 438 = .ok (.iconst 0, 1) := by decide +kernel
theorem dL_law_439 : decode cL_law 439 = .ok (.ireturn, 1) := by decide +kernel
theorem dL_law_440 : decode cL_law 440 = .ok (.aload_n 1, 1) := by decide +kernel
theorem dL_law_441 : decode cL_law 441 = .ok (.aload_n 0, 1) := by decide +kernel
theorem dL_law_442 : decode cL_law 442 = .ok (.iload_n 3, 1) := by decide +kernel
theorem dL_law_443 : decode cL_law 443 = .ok (.iconst 1, 1) := by decide +kernel
theorem dL_law_444 : decode cL_law 444 = .ok (.iadd, 1) := by decide +kernel
theorem dL_law_445 : decode cL_law 445 = .ok (.iaload, 1) := by decide +kernel
theorem dL_law_446 : decode cL_law 446 = .ok (.aload_n 0, 1) := by decide +kernel
theorem dL_law_447 : decode cL_law 447 = .ok (.iload_n 3, 1) := by decide +kernel
theorem dL_law_448 : decode cL_law 448 = .ok (.iconst 2, 1) := by decide +kernel
theorem dL_law_449 : decode cL_law 449 = .ok (.iadd, 1) := by decide +kernel
theorem dL_law_450 : decode cL_law 450 = .ok (.iaload, 1) := by decide +kernel
theorem dL_law_451 : decode cL_law 451 = .ok (.invokevirtual 58, 3) := by decide +kernel
theorem dL_law_454 : decode cL_law 454 = .ok (.aload_n 2, 1) := by decide +kernel
theorem dL_law_455 : decode cL_law 455 = .ok (.aload_n 0, 1) := by decide +kernel
theorem dL_law_456 : decode cL_law 456 = .ok (.iload_n 3, 1) := by decide +kernel
theorem dL_law_457 : decode cL_law 457 = .ok (.iconst 1, 1) := by decide +kernel
theorem dL_law_458 : decode cL_law 458 = .ok (.iadd, 1) := by decide +kernel
theorem dL_law_459 : decode cL_law 459 = .ok (.iaload, 1) := by decide +kernel
theorem dL_law_460 : decode cL_law 460 = .ok (.aload_n 0, 1) := by decide +kernel
theorem dL_law_461 : decode cL_law 461 = .ok (.iload_n 3, 1) := by decide +kernel
theorem dL_law_462 : decode cL_law 462 = .ok (.iconst 2, 1) := by decide +kernel
theorem dL_law_463 : decode cL_law 463 = .ok (.iadd, 1) := by decide +kernel
theorem dL_law_464 : decode cL_law 464 = .ok (.iaload, 1) := by decide +kernel
theorem dL_law_465 : decode cL_law 465 = .ok (.invokevirtual 61, 3) := by decide +kernel
theorem dL_law_468 : decode cL_law 468 = .ok (.if_icmp .eq 238, 3) := by decide +kernel
theorem dL_law_471 : decode cL_law 471 = .ok (.iconst 0, 1) := by decide +kernel
theorem dL_law_472 : decode cL_law 472 = .ok (.ireturn, 1) := by decide +kernel
theorem dL_law_473 : decode cL_law 473 = .ok (.aload_n 1, 1) := by decide +kernel
theorem dL_law_474 : decode cL_law 474 = .ok (.aload_n 0, 1) := by decide +kernel
theorem dL_law_475 : decode cL_law 475 = .ok (.iload_n 3, 1) := by decide +kernel
theorem dL_law_476 : decode cL_law 476 = .ok (.iconst 1, 1) := by decide +kernel
theorem dL_law_477 : decode cL_law 477 = .ok (.iadd, 1) := by decide +kernel
theorem dL_law_478 : decode cL_law 478 = .ok (.iaload, 1) := by decide +kernel
theorem dL_law_479 : decode cL_law 479 = .ok (.aload_n 0, 1) := by decide +kernel
theorem dL_law_480 : decode cL_law 480 = .ok (.iload_n 3, 1) := by decide +kernel
theorem dL_law_481 : decode cL_law 481 = .ok (.iconst 2, 1) := by decide +kernel
theorem dL_law_482 : decode cL_law 482 = .ok (.iadd, 1) := by decide +kernel
theorem dL_law_483 : decode cL_law 483 = .ok (.iaload, 1) := by decide +kernel
theorem dL_law_484 : decode cL_law 484 = .ok (.aload_n 0, 1) := by decide +kernel
theorem dL_law_485 : decode cL_law 485 = .ok (.iload_n 3, 1) := by decide +kernel
theorem dL_law_486 : decode cL_law 486 = .ok (.iconst 3, 1) := by decide +kernel
theorem dL_law_487 : decode cL_law 487 = .ok (.iadd, 1) := by decide +kernel
theorem dL_law_488 : decode cL_law 488 = .ok (.iaload, 1) := by decide +kernel
theorem dL_law_489 : decode cL_law 489 = .ok (.invokevirtual 62, 3) := by decide +kernel
theorem dL_law_492 : decode cL_law 492 = .ok (.aload_n 2, 1) := by decide +kernel
theorem dL_law_493 : decode cL_law 493 = .ok (.aload_n 0, 1) := by decide +kernel
theorem dL_law_494 : decode cL_law 494 = .ok (.iload_n 3, 1) := by decide +kernel
theorem dL_law_495 : decode cL_law 495 = .ok (.iconst 1, 1) := by decide +kernel
theorem dL_law_496 : decode cL_law 496 = .ok (.iadd, 1) := by decide +kernel
theorem dL_law_497 : decode cL_law 497 = .ok (.iaload, 1) := by decide +kernel
theorem dL_law_498 : decode cL_law 498 = .ok (.aload_n 0, 1) := by decide +kernel
theorem dL_law_499 : decode cL_law 499 = .ok (.iload_n 3, 1) := by decide +kernel
theorem dL_law_500 : decode cL_law 500 = .ok (.iconst 2, 1) := by decide +kernel
theorem dL_law_501 : decode cL_law 501 = .ok (.iadd, 1) := by decide +kernel
theorem dL_law_502 : decode cL_law 502 = .ok (.iaload, 1) := by decide +kernel
theorem dL_law_503 : decode cL_law 503 = .ok (.aload_n 0, 1) := by decide +kernel
theorem dL_law_504 : decode cL_law 504 = .ok (.iload_n 3, 1) := by decide +kernel
theorem dL_law_505 : decode cL_law 505 = .ok (.iconst 3, 1) := by decide +kernel
theorem dL_law_506 : decode cL_law 506 = .ok (.iadd, 1) := by decide +kernel
theorem dL_law_507 : decode cL_law 507 = .ok (.iaload, 1) := by decide +kernel
theorem dL_law_508 : decode cL_law 508 = .ok (.invokevirtual 65, 3) := by decide +kernel
theorem dL_law_511 : decode cL_law 511 = .ok (.if_icmp .eq 195, 3) := by decide +kernel
theorem dL_law_514 : decode cL_law 514 = .ok (.iconst 0, 1) := by decide +kernel
theorem dL_law_515 : decode cL_law 515 = .ok (.ireturn, 1) := by decide +kernel
theorem dL_law_516 : decode cL_law 516 = .ok (.aload_n 1, 1) := by decide +kernel
theorem dL_law_517 : decode cL_law 517 = .ok (.aload_n 0, 1) := by decide +kernel
theorem dL_law_518 : decode cL_law 518 = .ok (.iload_n 3, 1) := by decide +kernel
theorem dL_law_519 : decode cL_law 519 = .ok (.iconst 1, 1) := by decide +kernel
theorem dL_law_520 : decode cL_law 520 = .ok (.iadd, 1) := by decide +kernel
theorem dL_law_521 : decode cL_law 521 = .ok (.iaload, 1) := by decide +kernel
theorem dL_law_522 : decode cL_law 522 = .ok (.invokevirtual 66, 3) := by decide +kernel
theorem dL_law_525 : decode cL_law 525 = .ok (.aload_n 2, 1) := by decide +kernel
theorem dL_law_526 : decode cL_law 526 = .ok (.aload_n 0, 1) := by decide +kernel
theorem dL_law_527 : decode cL_law 527 = .ok (.iload_n 3, 1) := by decide +kernel
theorem dL_law_528 : decode cL_law 528 = .ok (.iconst 1, 1) := by decide +kernel
theorem dL_law_529 : decode cL_law 529 = .ok (.iadd, 1) := by decide +kernel
theorem dL_law_530 : decode cL_law 530 = .ok (.iaload, 1) := by decide +kernel
theorem dL_law_531 : decode cL_law 531 = .ok (.invokevirtual 69, 3) := by decide +kernel
theorem dL_law_534 : decode cL_law 534 = .ok (.if_icmp .eq 172, 3) := by decide +kernel
theorem dL_law_537 : decode cL_law 537 = .ok (.iconst 0, 1) := by decide +kernel
theorem dL_law_538 : decode cL_law 538 = .ok (.ireturn, 1) := by decide +kernel
theorem dL_law_539 : decode cL_law 539 = .ok (.aload_n 1, 1) := by decide +kernel
theorem dL_law_540 : decode cL_law 540 = .ok (.aload_n 0, 1) := by decide +kernel
theorem dL_law_541 : decode cL_law 541 = .ok (.iload_n 3, 1) := by decide +kernel
theorem dL_law_542 : decode cL_law 542 = .ok (.iconst 1, 1) := by decide +kernel
theorem dL_law_543 : decode cL_law 543 = .ok (.iadd, 1) := by decide +kernel
theorem dL_law_544 : decode cL_law 544 = .ok (.iaload, 1) := by decide +kernel
theorem dL_law_545 : decode cL_law 545 = .ok (.aload_n 0, 1) := by decide +kernel
theorem dL_law_546 : decode cL_law 546 = .ok (.iload_n 3, 1) := by decide +kernel
theorem dL_law_547 : decode cL_law 547 = .ok (.iconst 2, 1) := by decide +kernel
theorem dL_law_548 : decode cL_law 548 = .ok (.iadd, 1) := by decide +kernel
theorem dL_law_549 : decode cL_law 549 = .ok (.iaload, 1) := by decide +kernel
theorem dL_law_550 : decode cL_law 550 = .ok (.invokevirtual 70, 3) := by decide +kernel
theorem dL_law_553 : decode cL_law 553 = .ok (.aload_n 2, 1) := by decide +kernel
theorem dL_law_554 : decode cL_law 554 = .ok (.aload_n 0, 1) := by decide +kernel
theorem dL_law_555 : decode cL_law 555 = .ok (.iload_n 3, 1) := by decide +kernel
theorem dL_law_556 : decode cL_law 556 = .ok (.iconst 1, 1) := by decide +kernel
theorem dL_law_557 : decode cL_law 557 = .ok (.iadd, 1) := by decide +kernel
theorem dL_law_558 : decode cL_law 558 = .ok (.iaload, 1) := by decide +kernel
theorem dL_law_559 : decode cL_law 559 = .ok (.aload_n 0, 1) := by decide +kernel
theorem dL_law_560 : decode cL_law 560 = .ok (.iload_n 3, 1) := by decide +kernel
theorem dL_law_561 : decode cL_law 561 = .ok (.iconst 2, 1) := by decide +kernel
theorem dL_law_562 : decode cL_law 562 = .ok (.iadd, 1) := by decide +kernel
theorem dL_law_563 : decode cL_law 563 = .ok (.iaload, 1) := by decide +kernel
theorem dL_law_564 : decode cL_law 564 = .ok (.invokevirtual 74, 3) := by decide +kernel
theorem dL_law_567 : decode cL_law 567 = .ok (.lcmp, 1) := by decide +kernel
theorem dL_law_568 : decode cL_law 568 = .ok (.ifCond .eq 138, 3) := by decide +kernel
theorem dL_law_571 : decode cL_law 571 = .ok (.iconst 0, 1) := by decide +kernel
theorem dL_law_572 : decode cL_law 572 = .ok (.ireturn, 1) := by decide +kernel
theorem dL_law_573 : decode cL_law 573 = .ok (.aload_n 1, 1) := by decide +kernel
theorem dL_law_574 : decode cL_law 574 = .ok (.aload_n 0, 1) := by decide +kernel
theorem dL_law_575 : decode cL_law 575 = .ok (.iload_n 3, 1) := by decide +kernel
theorem dL_law_576 : decode cL_law 576 = .ok (.iconst 1, 1) := by decide +kernel
theorem dL_law_577 : decode cL_law 577 = .ok (.iadd, 1) := by decide +kernel
theorem dL_law_578 : decode cL_law 578 = .ok (.iaload, 1) := by decide +kernel
theorem dL_law_579 : decode cL_law 579 = .ok (.aload_n 0, 1) := by decide +kernel
theorem dL_law_580 : decode cL_law 580 = .ok (.iload_n 3, 1) := by decide +kernel
theorem dL_law_581 : decode cL_law 581 = .ok (.iconst 2, 1) := by decide +kernel
theorem dL_law_582 : decode cL_law 582 = .ok (.iadd, 1) := by decide +kernel
theorem dL_law_583 : decode cL_law 583 = .ok (.iaload, 1) := by decide +kernel
theorem dL_law_584 : decode cL_law 584 = .ok (.aload_n 0, 1) := by decide +kernel
theorem dL_law_585 : decode cL_law 585 = .ok (.iload_n 3, 1) := by decide +kernel
theorem dL_law_586 : decode cL_law 586 = .ok (.iconst 3, 1) := by decide +kernel
theorem dL_law_587 : decode cL_law 587 = .ok (.iadd, 1) := by decide +kernel
theorem dL_law_588 : decode cL_law 588 = .ok (.iaload, 1) := by decide +kernel
theorem dL_law_589 : decode cL_law 589 = .ok (.invokevirtual 75, 3) := by decide +kernel
theorem dL_law_592 : decode cL_law 592 = .ok (.aload_n 2, 1) := by decide +kernel
theorem dL_law_593 : decode cL_law 593 = .ok (.aload_n 0, 1) := by decide +kernel
theorem dL_law_594 : decode cL_law 594 = .ok (.iload_n 3, 1) := by decide +kernel
theorem dL_law_595 : decode cL_law 595 = .ok (.iconst 1, 1) := by decide +kernel
theorem dL_law_596 : decode cL_law 596 = .ok (.iadd, 1) := by decide +kernel
theorem dL_law_597 : decode cL_law 597 = .ok (.iaload, 1) := by decide +kernel
theorem dL_law_598 : decode cL_law 598 = .ok (.aload_n 0, 1) := by decide +kernel
theorem dL_law_599 : decode cL_law 599 = .ok (.iload_n 3, 1) := by decide +kernel
theorem dL_law_600 : decode cL_law 600 = .ok (.iconst 2, 1) := by decide +kernel
theorem dL_law_601 : decode cL_law 601 = .ok (.iadd, 1) := by decide +kernel
theorem dL_law_602 : decode cL_law 602 = .ok (.iaload, 1) := by decide +kernel
theorem dL_law_603 : decode cL_law 603 = .ok (.aload_n 0, 1) := by decide +kernel
theorem dL_law_604 : decode cL_law 604 = .ok (.iload_n 3, 1) := by decide +kernel
theorem dL_law_605 : decode cL_law 605 = .ok (.iconst 3, 1) := by decide +kernel
theorem dL_law_606 : decode cL_law 606 = .ok (.iadd, 1) := by decide +kernel
theorem dL_law_607 : decode cL_law 607 = .ok (.iaload, 1) := by decide +kernel
theorem dL_law_608 : decode cL_law 608 = .ok (.invokevirtual 79, 3) := by decide +kernel
theorem dL_law_611 : decode cL_law 611 = .ok (.lcmp, 1) := by decide +kernel
theorem dL_law_612 : decode cL_law 612 = .ok (.ifCond .eq 94, 3) := by decide +kernel
theorem dL_law_615 : decode cL_law 615 = .ok (.iconst 0, 1) := by decide +kernel
theorem dL_law_616 : decode cL_law 616 = .ok (.ireturn, 1) := by decide +kernel
theorem dL_law_617 : decode cL_law 617 = .ok (.aload_n 1, 1) := by decide +kernel
theorem dL_law_618 : decode cL_law 618 = .ok (.aload_n 0, 1) := by decide +kernel
theorem dL_law_619 : decode cL_law 619 = .ok (.iload_n 3, 1) := by decide +kernel
theorem dL_law_620 : decode cL_law 620 = .ok (.iconst 1, 1) := by decide +kernel
theorem dL_law_621 : decode cL_law 621 = .ok (.iadd, 1) := by decide +kernel
theorem dL_law_622 : decode cL_law 622 = .ok (.iaload, 1) := by decide +kernel
theorem dL_law_623 : decode cL_law 623 = .ok (.aload_n 0, 1) := by decide +kernel
theorem dL_law_624 : decode cL_law 624 = .ok (.iload_n 3, 1) := by decide +kernel
theorem dL_law_625 : decode cL_law 625 = .ok (.iconst 2, 1) := by decide +kernel
theorem dL_law_626 : decode cL_law 626 = .ok (.iadd, 1) := by decide +kernel
theorem dL_law_627 : decode cL_law 627 = .ok (.iaload, 1) := by decide +kernel
theorem dL_law_628 : decode cL_law 628 = .ok (.invokevirtual 80, 3) := by decide +kernel
theorem dL_law_631 : decode cL_law 631 = .ok (.aload_n 2, 1) := by decide +kernel
theorem dL_law_632 : decode cL_law 632 = .ok (.aload_n 0, 1) := by decide +kernel
theorem dL_law_633 : decode cL_law 633 = .ok (.iload_n 3, 1) := by decide +kernel
theorem dL_law_634 : decode cL_law 634 = .ok (.iconst 1, 1) := by decide +kernel
theorem dL_law_635 : decode cL_law 635 = .ok (.iadd, 1) := by decide +kernel
theorem dL_law_636 : decode cL_law 636 = .ok (.iaload, 1) := by decide +kernel
theorem dL_law_637 : decode cL_law 637 = .ok (.aload_n 0, 1) := by decide +kernel
theorem dL_law_638 : decode cL_law 638 = .ok (.iload_n 3, 1) := by decide +kernel
theorem dL_law_639 : decode cL_law 639 = .ok (.iconst 2, 1) := by decide +kernel
theorem dL_law_640 : decode cL_law 640 = .ok (.iadd, 1) := by decide +kernel
theorem dL_law_641 : decode cL_law 641 = .ok (.iaload, 1) := by decide +kernel
theorem dL_law_642 : decode cL_law 642 = .ok (.invokevirtual 83, 3) := by decide +kernel
theorem dL_law_645 : decode cL_law 645 = .ok (.if_icmp .eq 61, 3) := by decide +kernel
theorem dL_law_648 : decode cL_law 648 = .ok (.iconst 0, 1) := by decide +kernel
theorem dL_law_649 : decode cL_law 649 = .ok (.ireturn, 1) := by decide +kernel
theorem dL_law_650 : decode cL_law 650 = .ok (.aload_n 1, 1) := by decide +kernel
theorem dL_law_651 : decode cL_law 651 = .ok (.aload_n 0, 1) := by decide +kernel
theorem dL_law_652 : decode cL_law 652 = .ok (.iload_n 3, 1) := by decide +kernel
theorem dL_law_653 : decode cL_law 653 = .ok (.iconst 1, 1) := by decide +kernel
theorem dL_law_654 : decode cL_law 654 = .ok (.iadd, 1) := by decide +kernel
theorem dL_law_655 : decode cL_law 655 = .ok (.iaload, 1) := by decide +kernel
theorem dL_law_656 : decode cL_law 656 = .ok (.aload_n 0, 1) := by decide +kernel
theorem dL_law_657 : decode cL_law 657 = .ok (.iload_n 3, 1) := by decide +kernel
theorem dL_law_658 : decode cL_law 658 = .ok (.iconst 2, 1) := by decide +kernel
theorem dL_law_659 : decode cL_law 659 = .ok (.iadd, 1) := by decide +kernel
theorem dL_law_660 : decode cL_law 660 = .ok (.iaload, 1) := by decide +kernel
theorem dL_law_661 : decode cL_law 661 = .ok (.invokevirtual 84, 3) := by decide +kernel
theorem dL_law_664 : decode cL_law 664 = .ok (.aload_n 2, 1) := by decide +kernel
theorem dL_law_665 : decode cL_law 665 = .ok (.aload_n 0, 1) := by decide +kernel
theorem dL_law_666 : decode cL_law 666 = .ok (.iload_n 3, 1) := by decide +kernel
theorem dL_law_667 : decode cL_law 667 = .ok (.iconst 1, 1) := by decide +kernel
theorem dL_law_668 : decode cL_law 668 = .ok (.iadd, 1) := by decide +kernel
theorem dL_law_669 : decode cL_law 669 = .ok (.iaload, 1) := by decide +kernel
theorem dL_law_670 : decode cL_law 670 = .ok (.aload_n 0, 1) := by decide +kernel
theorem dL_law_671 : decode cL_law 671 = .ok (.iload_n 3, 1) := by decide +kernel
theorem dL_law_672 : decode cL_law 672 = .ok (.iconst 2, 1) := by decide +kernel
theorem dL_law_673 : decode cL_law 673 = .ok (.iadd, 1) := by decide +kernel
theorem dL_law_674 : decode cL_law 674 = .ok (.iaload, 1) := by decide +kernel
theorem dL_law_675 : decode cL_law 675 = .ok (.invokevirtual 87, 3) := by decide +kernel
theorem dL_law_678 : decode cL_law 678 = .ok (.if_icmp .eq 28, 3) := by decide +kernel
theorem dL_law_681 : decode cL_law 681 = .ok (.iconst 0, 1) := by decide +kernel
theorem dL_law_682 : decode cL_law 682 = .ok (.ireturn, 1) := by decide +kernel
theorem dL_law_683 : decode cL_law 683 = .ok (.aload_n 1, 1) := by decide +kernel
theorem dL_law_684 : decode cL_law 684 = .ok (.aload_n 0, 1) := by decide +kernel
theorem dL_law_685 : decode cL_law 685 = .ok (.iload_n 3, 1) := by decide +kernel
theorem dL_law_686 : decode cL_law 686 = .ok (.iconst 1, 1) := by decide +kernel
theorem dL_law_687 : decode cL_law 687 = .ok (.iadd, 1) := by decide +kernel
theorem dL_law_688 : decode cL_law 688 = .ok (.iaload, 1) := by decide +kernel
theorem dL_law_689 : decode cL_law 689 = .ok (.invokevirtual 88, 3) := by decide +kernel
theorem dL_law_692 : decode cL_law 692 = .ok (.aload_n 2, 1) := by decide +kernel
theorem dL_law_693 : decode cL_law 693 = .ok (.aload_n 0, 1) := by decide +kernel
theorem dL_law_694 : decode cL_law 694 = .ok (.iload_n 3, 1) := by decide +kernel
theorem dL_law_695 : decode cL_law 695 = .ok (.iconst 1, 1) := by decide +kernel
theorem dL_law_696 : decode cL_law 696 = .ok (.iadd, 1) := by decide +kernel
theorem dL_law_697 : decode cL_law 697 = .ok (.iaload, 1) := by decide +kernel
theorem dL_law_698 : decode cL_law 698 = .ok (.invokevirtual 91, 3) := by decide +kernel
theorem dL_law_701 : decode cL_law 701 = .ok (.if_icmp .eq 5, 3) := by decide +kernel
theorem dL_law_704 : decode cL_law 704 = .ok (.iconst 0, 1) := by decide +kernel
theorem dL_law_705 : decode cL_law 705 = .ok (.ireturn, 1) := by decide +kernel
theorem dL_law_706 : decode cL_law 706 = .ok (.iinc 3 5, 3) := by decide +kernel
theorem dL_law_709 : decode cL_law 709 = .ok (.goto (-691), 3) := by decide +kernel
theorem dL_law_712 : decode cL_law 712 = .ok (.iconst 1, 1) := by decide +kernel
theorem dL_law_713 : decode cL_law 713 = .ok (.ireturn, 1) := by decide +kernel
