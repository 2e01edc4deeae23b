theorem dX3_having_46 : decode cX3_having 46 = .ok (.iload 4, 2) := by decide +kernel
theorem dX3_having_48 : decode cX3_having 48 = .ok (.iaload, 1) := by decide +kernel
theorem dX3_having_49 : decode cX3_having 49 = .ok (.iload_n 1, 1) := by decide +kernel
theorem dX3_having_50 : decode cX3_having 50 = .ok (.iand, 1) := by decide +kernel
theorem dX3_having_51 : decode cX3_having 51 = .ok (.istore 5, 2) := by decide +kernel
theorem dX3_having_53 : decode cX3_having 53 = .ok (.iload_n 2, 1) := by decide +kernel
theorem dX3_having_54 : decode cX3_having 54 = .ok (.ifCond .ne 25, 3) := by decide +kernel
theorem dX3_having_57 : decode cX3_having 57 = .ok (.aload_n 0, 1) := by decide +kernel
theorem dX3_having_58 : decode cX3_having 58 = .ok (.getfield 48, 3) := by decide +kernel
theorem dX3_having_61 : decode cX3_having 61 = .ok (.getfield 135, 3) := by decide +kernel
theorem dX3_having_64 : decode cX3_having 64 = .ok (.iload 4, 2) := by decide +kernel
theorem dX3_having_66 : decode cX3_having 66 = .ok (.iaload, 1) := by decide +kernel
theorem dX3_having_67 : decode cX3_having 67 = .ok (.iload_n 1, 1) := by decide +kernel
theorem dX3_having_68 : decode cX3_having 68 = .ok (.if_icmp .ne 7, 3) := by decide +kernel
theorem dX3_having_71 : decode cX3_having 71 = .ok (.iconst 1, 1) := by decide +kernel
theorem dX3_having_72 : decode cX3_having 72 = .ok (.goto 27, 3) := by decide +kernel
theorem dX3_having_75 : decode cX3_having 75 = .ok (.iconst 0, 1) := by decide +kernel
theorem dX3_having_76 : decode cX3_having 76 = .ok (.goto 23, 3) := by decide +kernel
theorem dX3_having_79 : decode cX3_having 79 = .ok (.iload 5, 2) := by decide +kernel
theorem dX3_having_81 : decode cX3_having 81 = .ok (.iload_n 2, 1) := by decide +kernel
theorem dX3_having_82 : decode cX3_having 82 = .ok (.iconst 1, 1) := by decide +kernel
theorem dX3_having_83 : decode cX3_having 83 = .ok (.if_icmp .ne 7, 3) := by decide +kernel
theorem dX3_having_86 : decode cX3_having 86 = .ok (.iload_n 1, 1) := by decide +kernel
theorem dX3_having_87 : decode cX3_having 87 = .ok (.goto 4, 3) := by decide +kernel
theorem dX3_having_90 : decode cX3_having 90 = .ok (.iconst 0, 1) := by decide +kernel
theorem dX3_having_91 : decode cX3_having 91 = .ok (.if_icmp .ne 7, 3) := by decide +kernel
theorem dX3_having_94 : decode cX3_having 94 = .ok (.iconst 1, 1) := by decide +kernel
theorem dX3_having_95 : decode cX3_having 95 = .ok (.goto 4, 3) := by decide +kernel
theorem dX3_having_98 : decode cX3_having 98 = .ok (.iconst 0, 1) := by decide +kernel
theorem dX3_having_99 : decode cX3_having 99 = .ok (.istore 6, 2) := by decide +kernel
theorem dX3_having_101 : decode cX3_having 101 = .ok (.iload 6, 2) := by decide +kernel
theorem dX3_having_103 : decode cX3_having 103 = .ok (.ifCond .eq 6, 3) := by decide +kernel
theorem dX3_having_106 : decode cX3_having 106 = .ok (.iinc 3 1, 3) := by decide +kernel
theorem dX3_having_109 : decode cX3_having 109 = .ok (.iinc 4 1, 3) := by decide +kernel
theorem dX3_having_112 : decode cX3_having 112 = .ok (.goto (-85), 3) := by decide +kernel
theorem dX3_having_115 : decode cX3_having 115 = .ok (.iload_n 3, 1) := by decide +kernel
theorem dX3_having_116 : decode cX3_having 116 = .ok (.ireturn, 1) := by decide +kernel
theorem dX3_folds_0 : decode cX3_folds 0 = .ok (.iload_n 1, 1) := by decide +kernel
theorem dX3_folds_1 : decode cX3_folds 1 = .ok (.iconst 1, 1) := by decide +kernel
theorem dX3_folds_2 : decode cX3_folds 2 = .ok (.bipush 6, 2) := by decide +kernel
theorem dX3_folds_4 : decode cX3_folds 4 = .ok (.invokestatic 66, 3) := by decide +kernel
theorem dX3_folds_7 : decode cX3_folds 7 = .ok (.ifCond .ne 6, 3) := by decide +kernel
theorem dX3_folds_10 : decode cX3_folds 10 = .ok (.bipush (-2), 2) := by decide +kernel
theorem dX3_folds_12 : decode cX3_folds 12 = .ok (.ireturn, 1) := by decide +kernel
theorem dX3_folds_13 : decode cX3_folds 13 = .ok (.iconst 0, 1) := by decide +kernel
theorem dX3_folds_14 : decode cX3_folds 14 = .ok (.istore_n 2, 1) := by decide +kernel
theorem dX3_folds_15 : decode cX3_folds 15 = .ok (.iconst 0, 1) := by decide +kernel
theorem dX3_folds_16 : decode cX3_folds 16 = .ok (.istore_n 3, 1) := by decide +kernel
theorem dX3_folds_17 : decode cX3_folds 17 = .ok (.iload_n 3, 1) := by decide +kernel
theorem dX3_folds_18 : decode cX3_folds 18 = .ok (.aload_n 0, 1) := by decide +kernel
theorem dX3_folds_19 : decode cX3_folds 19 = .ok (.getfield 48, 3) := by decide +kernel
theorem dX3_folds_22 : decode cX3_folds 22 = .ok (.getfield 116, 3) := by decide +kernel
theorem dX3_folds_25 : decode cX3_folds 25 = .ok (.if_icmp .ge 28, 3) := by decide +kernel
theorem dX3_folds_28 : decode cX3_folds 28 = .ok (.aload_n 0, 1) := by decide +kernel
theorem dX3_folds_29 : decode cX3_folds 29 = .ok (.getfield 48, 3) := by decide +kernel
theorem dX3_folds_32 : decode cX3_folds 32 = .ok (.getfield 135, 3) := by decide +kernel
theorem dX3_folds_35 : decode cX3_folds 35 = .ok (.iload_n 3, 1) := by decide +kernel
theorem dX3_folds_36 : decode cX3_folds 36 = .ok (.iaload, 1) := by decide +kernel
theorem dX3_folds_37 : decode cX3_folds 37 = .ok (.invokestatic 138, 3) := by decide +kernel
theorem dX3_folds_40 : decode cX3_folds 40 = .ok (.iload_n 1, 1) := by decide +kernel
theorem dX3_folds_41 : decode cX3_folds 41 = .ok (.if_icmp .ne 6, 3) := by decide +kernel
theorem dX3_folds_44 : decode cX3_folds 44 = .ok (.iinc 2 1, 3) := by decide +kernel
theorem dX3_folds_47 : decode cX3_folds 47 = .ok (.iinc 3 1, 3) := by decide +kernel
theorem dX3_folds_50 : decode cX3_folds 50 = .ok (.goto (-33), 3) := by decide +kernel
theorem dX3_folds_53 : decode cX3_folds 53 = .ok (.iload_n 2, 1) := by decide +kernel
theorem dX3_folds_54 : decode cX3_folds 54 = .ok (.ireturn, 1) := by decide +kernel
theorem dX3_shifted_0 : decode cX3_shifted 0 = .ok (.iload_n 1, 1) := by decide +kernel
theorem dX3_shifted_1 : decode cX3_shifted 1 = .ok (.iconst 0, 1) := by decide +kernel
theorem dX3_shifted_2 : decode cX3_shifted 2 = .ok (.bipush 63, 2) := by decide +kernel
theorem dX3_shifted_4 : decode cX3_shifted 4 = .ok (.invokestatic 66, 3) := by decide +kernel
theorem dX3_shifted_7 : decode cX3_shifted 7 = .ok (.ifCond .eq 14, 3) := by decide +kernel
theorem dX3_shifted_10 : decode cX3_shifted 10 = .ok (.iload_n 2, 1) := by decide +kernel
theorem dX3_shifted_11 : decode cX3_shifted 11 = .ok (.iconst 0, 1) := by decide +kernel
theorem dX3_shifted_12 : decode cX3_shifted 12 = .ok (.sipush 500, 3) := by decide +kernel
theorem dX3_shifted_15 : decode cX3_shifted 15 = .ok (.invokestatic 66, 3) := by decide +kernel
theorem dX3_shifted_18 : decode cX3_shifted 18 = .ok (.ifCond .ne 6, 3) := by decide +kernel
theorem dX3_shifted_21 : decode cX3_shifted 21 = .ok (.bipush (-2), 2) := by decide +kernel
theorem dX3_shifted_23 : decode cX3_shifted 23 = .ok (.ireturn, 1) := by decide +kernel
theorem dX3_shifted_24 : decode cX3_shifted 24 = .ok (.aload_n 0, 1) := by decide +kernel
theorem dX3_shifted_25 : decode cX3_shifted 25 = .ok (.getfield 98, 3) := by decide +kernel
theorem dX3_shifted_28 : decode cX3_shifted 28 = .ok (.ifCond .ne 6, 3) := by decide +kernel
theorem dX3_shifted_31 : decode cX3_shifted 31 = .ok (.bipush (-3), 2) := by decide +kernel
theorem dX3_shifted_33 : decode cX3_shifted 33 = .ok (.ireturn, 1) := by decide +kernel
theorem dX3_shifted_34 : decode cX3_shifted 34 = .ok (.aload_n 0, 1) := by decide +kernel
theorem dX3_shifted_35 : decode cX3_shifted 35 = .ok (.getfield 42, 3) := by decide +kernel
theorem dX3_shifted_38 : decode cX3_shifted 38 = .ok (.aload_n 0, 1) := by decide +kernel
theorem dX3_shifted_39 : decode cX3_shifted 39 = .ok (.getfield 39, 3) := by decide +kernel
theorem dX3_shifted_42 : decode cX3_shifted 42 = .ok (.aload_n 0, 1) := by decide +kernel
theorem dX3_shifted_43 : decode cX3_shifted 43 = .ok (.getfield 123, 3) := by decide +kernel
theorem dX3_shifted_46 : decode cX3_shifted 46 = .ok (.iload_n 1, 1) := by decide +kernel
theorem dX3_shifted_47 : decode cX3_shifted 47 = .ok (.iload_n 2, 1) := by decide +kernel
theorem dX3_shifted_48 : decode cX3_shifted 48 = .ok (.invokevirtual 156, 3) := by decide +kernel
theorem dX3_shifted_51 : decode cX3_shifted 51 = .ok (.iconst 0, 1) := by decide +kernel
theorem dX3_shifted_52 : decode cX3_shifted 52 = .ok (.istore_n 3, 1) := by decide +kernel
theorem dX3_shifted_53 : decode cX3_shifted 53 = .ok (.iconst 0, 1) := by decide +kernel
theorem dX3_shifted_54 : decode cX3_shifted 54 = .ok (.istore 4, 2) := by decide +kernel
theorem dX3_shifted_56 : decode cX3_shifted 56 = .ok (.iconst 0, 1) := by decide +kernel
theorem dX3_shifted_57 : decode cX3_shifted 57 = .ok (.istore 5, 2) := by decide +kernel
theorem dX3_shifted_59 : decode cX3_shifted 59 = .ok (.iload 5, 2) := by decide +kernel
theorem dX3_shifted_61 : decode cX3_shifted 61 = .ok (.sipush 240, 3) := by decide +kernel
theorem dX3_shifted_64 : decode cX3_shifted 64 = .ok (.if_icmp .ge 70, 3) := by decide +kernel
theorem dX3_shifted_67 : decode cX3_shifted 67 = .ok (.aload_n 0, 1) := by decide +kernel
theorem dX3_shifted_68 : decode cX3_shifted 68 = .ok (.getfield 42, 3) := by decide +kernel
theorem dX3_shifted_71 : decode cX3_shifted 71 = .ok (.iload 4, 2) := by decide +kernel
theorem dX3_shifted_73 : decode cX3_shifted 73 = .ok (.invokevirtual 147, 3) := by decide +kernel
theorem dX3_shifted_76 : decode cX3_shifted 76 = .ok (.ifCond .eq 58, 3) := by decide +kernel
theorem dX3_shifted_79 : decode cX3_shifted 79 = .ok (.aload_n 0, 1) := by decide +kernel
theorem dX3_shifted_80 : decode cX3_shifted 80 = .ok (.getfield 42, 3) := by decide +kernel
theorem dX3_shifted_83 : decode cX3_shifted 83 = .ok (.iload 4, 2) := by decide +kernel
theorem dX3_shifted_85 : decode cX3_shifted 85 = .ok (.aload_n 0, 1) := by decide +kernel
theorem dX3_shifted_86 : decode cX3_shifted 86 = .ok (.getfield 42, 3) := by decide +kernel
theorem dX3_shifted_89 : decode cX3_shifted 89 = .ok (.getfield 74, 3) := by decide +kernel
theorem dX3_shifted_92 : decode cX3_shifted 92 = .ok (.aload_n 0, 1) := by decide +kernel
theorem dX3_shifted_93 : decode cX3_shifted 93 = .ok (.getfield 29, 3) := by decide +kernel
theorem dX3_shifted_96 : decode cX3_shifted 96 = .ok (.iconst 1, 1) := by decide +kernel
theorem dX3_shifted_97 : decode cX3_shifted 97 = .ok (.iaload, 1) := by decide +kernel
theorem dX3_shifted_98 : decode cX3_shifted 98 = .ok (.invokevirtual 160, 3) := by decide +kernel
theorem dX3_shifted_101 : decode cX3_shifted 101 = .ok (.istore 6, 2) := by decide +kernel
theorem dX3_shifted_103 : decode cX3_shifted 103 = .ok (.aload_n 0, 1) := by decide +kernel
theorem dX3_shifted_104 : decode cX3_shifted 104 = .ok (.aload_n 0, 1) := by decide +kernel
theorem dX3_shifted_105 : decode cX3_shifted 105 = .ok (.getfield 42, 3) := by decide +kernel
theorem dX3_shifted_108 : decode cX3_shifted 108 = .ok (.iload 4, 2) := by decide +kernel
theorem dX3_shifted_110 : decode cX3_shifted 110 = .ok (.iload 6, 2) := by decide +kernel
theorem dX3_shifted_112 : decode cX3_shifted 112 = .ok (.invokevirtual 163, 3) := by decide +kernel
theorem dX3_shifted_115 : decode cX3_shifted 115 = .ok (.invokevirtual 166, 3) := by decide +kernel
theorem dX3_shifted_118 : decode cX3_shifted 118 = .ok (.ifCond .eq 6, 3) := by decide +kernel
theorem dX3_shifted_121 : decode cX3_shifted 121 = .ok (.iinc 3 1, 3) := by decide +kernel
theorem dX3_shifted_124 : decode cX3_shifted 124 = .ok (.iload 6, 2) := by decide +kernel
theorem dX3_shifted_126 : decode cX3_shifted 126 = .ok (.istore 4, 2) := by decide +kernel
theorem dX3_shifted_128 : decode cX3_shifted 128 = .ok (.iinc 5 1, 3) := by decide +kernel
theorem dX3_shifted_131 : decode cX3_shifted 131 = .ok (.goto (-72), 3) := by decide +kernel
theorem dX3_shifted_134 : decode cX3_shifted 134 = .ok (.iload_n 3, 1) := by decide +kernel
theorem dX3_shifted_135 : decode cX3_shifted 135 = .ok (.ireturn, 1) := by decide +kernel
theorem dX3_twos_0 : decode cX3_twos 0 = .ok (.iload_n 1, 1) := by decide +kernel
theorem dX3_twos_1 : decode cX3_twos 1 = .ok (.invokestatic 62, 3) := by decide +kernel
theorem dX3_twos_4 : decode cX3_twos 4 = .ok (.ifCond .eq 10, 3) := by decide +kernel
theorem dX3_twos_7 : decode cX3_twos 7 = .ok (.iload_n 2, 1) := by decide +kernel
theorem dX3_twos_8 : decode cX3_twos 8 = .ok (.invokestatic 62, 3) := by decide +kernel
theorem dX3_twos_11 : decode cX3_twos 11 = .ok (.ifCond .ne 5, 3) := by decide +kernel
theorem dX3_twos_14 : decode cX3_twos 14 = .ok (.iconst (-1), 1) := by decide +kernel
theorem dX3_twos_15 : decode cX3_twos 15 = .ok (.ireturn, 1) := by decide +kernel
theorem dX3_twos_16 : decode cX3_twos 16 = .ok (.iload_n 3, 1) := by decide +kernel
theorem dX3_twos_17 : decode cX3_twos 17 = .ok (.sipush (-200), 3) := by decide +kernel
theorem dX3_twos_20 : decode cX3_twos 20 = .ok (.sipush 200, 3) := by decide +kernel
theorem dX3_twos_23 : decode cX3_twos 23 = .ok (.invokestatic 66, 3) := by decide +kernel
theorem dX3_twos_26 : decode cX3_twos 26 = .ok (.ifCond .ne 6, 3) := by decide +kernel
theorem dX3_twos_29 : decode cX3_twos 29 = .ok (.bipush (-2), 2) := by decide +kernel
theorem dX3_twos_31 : decode cX3_twos 31 = .ok (.ireturn, 1) := by decide +kernel
theorem dX3_twos_32 : decode cX3_twos 32 = .ok (.iload_n 1, 1) := by decide +kernel
theorem dX3_twos_33 : decode cX3_twos 33 = .ok (.iload_n 2, 1) := by decide +kernel
theorem dX3_twos_34 : decode cX3_twos 34 = .ok (.if_icmp .ne 6, 3) := by decide +kernel
theorem dX3_twos_37 : decode cX3_twos 37 = .ok (.bipush (-3), 2) := by decide +kernel
theorem dX3_twos_39 : decode cX3_twos 39 = .ok (.ireturn, 1) := by decide +kernel
theorem dX3_twos_40 : decode cX3_twos 40 = .ok (.aload_n 0, 1) := by decide +kernel
theorem dX3_twos_41 : decode cX3_twos 41 = .ok (.getfield 39, 3) := by decide +kernel
theorem dX3_twos_44 : decode cX3_twos 44 = .ok (.iload_n 1, 1) := by decide +kernel
theorem dX3_twos_45 : decode cX3_twos 45 = .ok (.iload_n 2, 1) := by decide +kernel
theorem dX3_twos_46 : decode cX3_twos 46 = .ok (.iload_n 3, 1) := by decide +kernel
theorem dX3_twos_47 : decode cX3_twos 47 = .ok (.aload_n 0, 1) := by decide +kernel
theorem dX3_twos_48 : decode cX3_twos 48 = .ok (.getfield 123, 3) := by decide +kernel
theorem dX3_twos_51 : decode cX3_twos 51 = .ok (.invokevirtual 169, 3) := by decide +kernel
theorem dX3_twos_54 : decode cX3_twos 54 = .ok (.ireturn, 1) := by decide +kernel
theorem dX3_live_0 : decode cX3_live 0 = .ok (.iload_n 1, 1) := by decide +kernel
theorem dX3_live_1 : decode cX3_live 1 = .ok (.invokestatic 62, 3) := by decide +kernel
theorem dX3_live_4 : decode cX3_live 4 = .ok (.ifCond .ne 5, 3) := by decide +kernel
theorem dX3_live_7 : decode cX3_live 7 = .ok (.iconst (-1), 1) := by decide +kernel
theorem dX3_live_8 : decode cX3_live 8 = .ok (.ireturn, 1) := by decide +kernel
theorem dX3_live_9 : decode cX3_live 9 = .ok (.aload_n 0, 1) := by decide +kernel
theorem dX3_live_10 : decode cX3_live 10 = .ok (.getfield 98, 3) := by decide +kernel
theorem dX3_live_13 : decode cX3_live 13 = .ok (.ifCond .ne 6, 3) := by decide +kernel
theorem dX3_live_16 : decode cX3_live 16 = .ok (.bipush (-3), 2) := by decide +kernel
theorem dX3_live_18 : decode cX3_live 18 = .ok (.ireturn, 1) := by decide +kernel
theorem dX3_live_19 : decode cX3_live 19 = .ok (.aload_n 0, 1) := by decide +kernel
theorem dX3_live_20 : decode cX3_live 20 = .ok (.iload_n 1, 1) := by decide +kernel
theorem dX3_live_21 : decode cX3_live 21 = .ok (.invokevirtual 173, 3) := by decide +kernel
theorem dX3_live_24 : decode cX3_live 24 = .ok (.ireturn, 1) := by decide +kernel
theorem dX3_rate_0 : decode cX3_rate 0 = .ok (.iload_n 1, 1) := by decide +kernel
theorem dX3_rate_1 : decode cX3_rate 1 = .ok (.invokestatic 62, 3) := by decide +kernel
theorem dX3_rate_4 : decode cX3_rate 4 = .ok (.ifCond .eq 19, 3) := by decide +kernel
theorem dX3_rate_7 : decode cX3_rate 7 = .ok (.iload_n 2, 1) := by decide +kernel
theorem dX3_rate_8 : decode cX3_rate 8 = .ok (.iconst 0, 1) := by decide +kernel
theorem dX3_rate_9 : decode cX3_rate 9 = .ok (.iconst 1, 1) := by decide +kernel
theorem dX3_rate_10 : decode cX3_rate 10 = .ok (.invokestatic 66, 3) := by decide +kernel
theorem dX3_rate_13 : decode cX3_rate 13 = .ok (.ifCond .eq 10, 3) := by decide +kernel
theorem dX3_rate_16 : decode cX3_rate 16 = .ok (.aload_n 0, 1) := by decide +kernel
theorem dX3_rate_17 : decode cX3_rate 17 = .ok (.getfield 98, 3) := by decide +kernel
theorem dX3_rate_20 : decode cX3_rate 20 = .ok (.ifCond .ne 7, 3) := by decide +kernel
theorem dX3_rate_23 : decode cX3_rate 23 = .ok (.ldc2_w 176, 3) := by decide +kernel
theorem dX3_rate_26 : decode cX3_rate 26 = .ok (.lreturn, 1) := by decide +kernel
theorem dX3_rate_27 : decode cX3_rate 27 = .ok (.aload_n 0, 1) := by decide +kernel
theorem dX3_rate_28 : decode cX3_rate 28 = .ok (.iload_n 1, 1) := by decide +kernel
theorem dX3_rate_29 : decode cX3_rate 29 = .ok (.invokevirtual 82, 3) := by decide +kernel
theorem dX3_rate_32 : decode cX3_rate 32 = .ok (.i2l, 1) := by decide +kernel
theorem dX3_rate_33 : decode cX3_rate 33 = .ok (.aload_n 0, 1) := by decide +kernel
theorem dX3_rate_34 : decode cX3_rate 34 = .ok (.iload_n 1, 1) := by decide +kernel
theorem dX3_rate_35 : decode cX3_rate 35 = .ok (.invokevirtual 173, 3) := by decide +kernel
theorem dX3_rate_38 : decode cX3_rate 38 = .ok (.i2l, 1) := by decide +kernel
theorem dX3_rate_39 : decode cX3_rate 39 = .ok (.iload_n 2, 1) := by decide +kernel
theorem dX3_rate_40 : decode cX3_rate 40 = .ok (.invokestatic 178, 3) := by decide +kernel
theorem dX3_rate_43 : decode cX3_rate 43 = .ok (.lreturn, 1) := by decide +kernel
theorem dX3_expected_0 : decode cX3_expected 0 = .ok (.iload_n 1, 1) := by decide +kernel
theorem dX3_expected_1 : decode cX3_expected 1 = .ok (.invokestatic 62, 3) := by decide +kernel
theorem dX3_expected_4 : decode cX3_expected 4 = .ok (.ifCond .eq 19, 3) := by decide +kernel
theorem dX3_expected_7 : decode cX3_expected 7 = .ok (.iload_n 2, 1) := by decide +kernel
theorem dX3_expected_8 : decode cX3_expected 8 = .ok (.invokestatic 62, 3) := by decide +kernel
theorem dX3_expected_11 : decode cX3_expected 11 = .ok (.ifCond .eq 12, 3) := by decide +kernel
theorem dX3_expected_14 : decode cX3_expected 14 = .ok (.iload_n 3, 1) := by decide +kernel
theorem dX3_expected_15 : decode cX3_expected 15 = .ok (.iconst 0, 1) := by decide +kernel
theorem dX3_expected_16 : decode cX3_expected 16 = .ok (.iconst 1, 1) := by decide +kernel
theorem dX3_expected_17 : decode cX3_expected 17 = .ok (.invokestatic 66, 3) := by decide +kernel
theorem dX3_expected_20 : decode cX3_expected 20 = .ok (.ifCond .ne 7, 3) := by decide +kernel
theorem dX3_expected_23 : decode cX3_expected 23 = .ok (.ldc2_w 176, 3) := by decide +kernel
theorem dX3_expected_26 : decode cX3_expected 26 = .ok (.lreturn, 1) := by decide +kernel
theorem dX3_expected_27 : decode cX3_expected 27 = .ok (.iload_n 1, 1) := by decide +kernel
theorem dX3_expected_28 : decode cX3_expected 28 = .ok (.iload_n 2, 1) := by decide +kernel
theorem dX3_expected_29 : decode cX3_expected 29 = .ok (.if_icmp .eq 10, 3) := by decide +kernel
theorem dX3_expected_32 : decode cX3_expected 32 = .ok (.aload_n 0, 1) := by decide +kernel
theorem dX3_expected_33 : decode cX3_expected 33 = .ok (.getfield 98, 3) := by decide +kernel
theorem dX3_expected_36 : decode cX3_expected 36 = .ok (.ifCond .ne 7, 3) := by decide +kernel
theorem dX3_expected_39 : decode cX3_expected 39 = .ok (.ldc2_w 176, 3) := by decide +kernel
theorem dX3_expected_42 : decode cX3_expected 42 = .ok (.lreturn, 1) := by decide +kernel
theorem dX3_expected_43 : decode cX3_expected 43 = .ok (.aload_n 0, 1) := by decide +kernel
theorem dX3_expected_44 : decode cX3_expected 44 = .ok (.iload_n 1, 1) := by decide +kernel
theorem dX3_expected_45 : decode cX3_expected 45 = .ok (.invokevirtual 82, 3) := by decide +kernel
theorem dX3_expected_48 : decode cX3_expected 48 = .ok (.i2l, 1) := by decide +kernel
theorem dX3_expected_49 : decode cX3_expected 49 = .ok (.aload_n 0, 1) := by decide +kernel
theorem dX3_expected_50 : decode cX3_expected 50 = .ok (.iload_n 2, 1) := by decide +kernel
theorem dX3_expected_51 : decode cX3_expected 51 = .ok (.invokevirtual 82, 3) := by decide +kernel
theorem dX3_expected_54 : decode cX3_expected 54 = .ok (.i2l, 1) := by decide +kernel
theorem dX3_expected_55 : decode cX3_expected 55 = .ok (.lmul, 1) := by decide +kernel
theorem dX3_expected_56 : decode cX3_expected 56 = .ok (.iconst 2, 1) := by decide +kernel
theorem dX3_expected_57 : decode cX3_expected 57 = .ok (.aload_n 0, 1) := by decide +kernel
theorem dX3_expected_58 : decode cX3_expected 58 = .ok (.getfield 29, 3) := by decide +kernel
theorem dX3_expected_61 : decode cX3_expected 61 = .ok (.iconst 1, 1) := by decide +kernel
theorem dX3_expected_62 : decode cX3_expected 62 = .ok (.iaload, 1) := by decide +kernel
theorem dX3_expected_63 : decode cX3_expected 63 = .ok (.imul, 1) := by decide +kernel
theorem dX3_expected_64 : decode cX3_expected 64 = .ok (.iconst 1, 1) := by decide +kernel
theorem dX3_expected_65 : decode cX3_expected 65 = .ok (.iadd, 1) := by decide +kernel
theorem dX3_expected_66 : decode cX3_expected 66 = .ok (.i2l, 1) := by decide +kernel
theorem dX3_expected_67 : decode cX3_expected 67 = .ok (.lmul, 1) := by decide +kernel
theorem dX3_expected_68 : decode cX3_expected 68 = .ok (.lstore 4, 2) := by decide +kernel
theorem dX3_expected_70 : decode cX3_expected 70 = .ok (.lload 4, 2) := by decide +kernel
theorem dX3_expected_72 : decode cX3_expected 72 = .ok (.aload_n 0, 1) := by decide +kernel
theorem dX3_expected_73 : decode cX3_expected 73 = .ok (.invokevirtual 182, 3) := by decide +kernel
theorem dX3_expected_76 : decode cX3_expected 76 = .ok (.i2l, 1) := by decide +kernel
theorem dX3_expected_77 : decode cX3_expected 77 = .ok (.iload_n 3, 1) := by decide +kernel
theorem dX3_expected_78 : decode cX3_expected 78 = .ok (.invokestatic 178, 3) := by decide +kernel
theorem dX3_expected_81 : decode cX3_expected 81 = .ok (.lreturn, 1) := by decide +kernel
theorem dX3_track_0 : decode cX3_track 0 = .ok (.aload_n 0, 1) := by decide +kernel
theorem dX3_track_1 : decode cX3_track 1 = .ok (.iload_n 1, 1) := by decide +kernel
theorem dX3_track_2 : decode cX3_track 2 = .ok (.invokevirtual 126, 3) := by decide +kernel
theorem dX3_track_5 : decode cX3_track 5 = .ok (.ifCond .ne 5, 3) := by decide +kernel
theorem dX3_track_8 : decode cX3_track 8 = .ok (.iconst (-1), 1) := by decide +kernel
theorem dX3_track_9 : decode cX3_track 9 = .ok (.ireturn, 1) := by decide +kernel
theorem dX3_track_10 : decode cX3_track 10 = .ok (.iload_n 2, 1) := by decide +kernel
theorem dX3_track_11 : decode cX3_track 11 = .ok (.iconst 0, 1) := by decide +kernel
theorem dX3_track_12 : decode cX3_track 12 = .ok (.iconst 4, 1) := by decide +kernel
theorem dX3_track_13 : decode cX3_track 13 = .ok (.invokestatic 66, 3) := by decide +kernel
theorem dX3_track_16 : decode cX3_track 16 = .ok (.ifCond .ne 6, 3) := by decide +kernel
theorem dX3_track_19 : decode cX3_track 19 = .ok (.bipush (-2), 2) := by decide +kernel
theorem dX3_track_21 : decode cX3_track 21 = .ok (.ireturn, 1) := by decide +kernel
theorem dX3_track_22 : decode cX3_track 22 = .ok (.aload_n 0, 1) := by decide +kernel
theorem dX3_track_23 : decode cX3_track 23 = .ok (.getfield 48, 3) := by decide +kernel
theorem dX3_track_26 : decode cX3_track 26 = .ok (.iload_n 1, 1) := by decide +kernel
theorem dX3_track_27 : decode cX3_track 27 = .ok (.invokevirtual 185, 3) := by decide +kernel
theorem dX3_track_30 : decode cX3_track 30 = .ok (.ifCond .ne 6, 3) := by decide +kernel
theorem dX3_track_33 : decode cX3_track 33 = .ok (.bipush (-9), 2) := by decide +kernel
theorem dX3_track_35 : decode cX3_track 35 = .ok (.ireturn, 1) := by decide +kernel
theorem dX3_track_36 : decode cX3_track 36 = .ok (.iload_n 2, 1) := by decide +kernel
theorem dX3_track_37 : decode cX3_track 37 = .ok (.tableswitch 77 0 3 #[31, 41, 54, 67], 31) := by decide +kernel
theorem dX3_track_68 : decode cX3_track 68 = .ok (.aload_n 0, 1) := by decide +kernel
theorem dX3_track_69 : decode cX3_track 69 = .ok (.getfield 48, 3) := by decide +kernel
theorem dX3_track_72 : decode cX3_track 72 = .ok (.getfield 188, 3) := by decide +kernel
theorem dX3_track_75 : decode cX3_track 75 = .ok (.iload_n 1, 1) := by decide +kernel
theorem dX3_track_76 : decode cX3_track 76 = .ok (.iaload, 1) := by decide +kernel
theorem dX3_track_77 : decode cX3_track 77 = .ok (.ireturn, 1) := by decide +kernel
theorem dX3_track_78 : decode cX3_track 78 = .ok (.aload_n 0, 1) := by decide +kernel
theorem dX3_track_79 : decode cX3_track 79 = .ok (.getfield 48, 3) := by decide +kernel
theorem dX3_track_82 : decode cX3_track 82 = .ok (.getfield 191, 3) := by decide +kernel
theorem dX3_track_85 : decode cX3_track 85 = .ok (.iload_n 1, 1) := by decide +kernel
theorem dX3_track_86 : decode cX3_track 86 = .ok (.iaload, 1) := by decide +kernel
theorem dX3_track_87 : decode cX3_track 87 = .ok (.bipush 10, 2) := by decide +kernel
theorem dX3_track_89 : decode cX3_track 89 = .ok (.iadd, 1) := by decide +kernel
theorem dX3_track_90 : decode cX3_track 90 = .ok (.ireturn, 1) := by decide +kernel
theorem dX3_track_91 : decode cX3_track 91 = .ok (.aload_n 0, 1) := by decide +kernel
theorem dX3_track_92 : decode cX3_track 92 = .ok (.getfield 48, 3) := by decide +kernel
theorem dX3_track_95 : decode cX3_track 95 = .ok (.getfield 194, 3) := by decide +kernel
theorem dX3_track_98 : decode cX3_track 98 = .ok (.iload_n 1, 1) := by decide +kernel
theorem dX3_track_99 : decode cX3_track 99 = .ok (.iaload, 1) := by decide +kernel
theorem dX3_track_100 : decode cX3_track 100 = .ok (.invokestatic 138, 3) := by decide +kernel
theorem dX3_track_103 : decode cX3_track 103 = .ok (.ireturn, 1) := by decide +kernel
theorem dX3_track_104 : decode cX3_track 104 = .ok (.aload_n 0, 1) := by decide +kernel
theorem dX3_track_105 : decode cX3_track 105 = .ok (.getfield 48, 3) := by decide +kernel
theorem dX3_track_108 : decode cX3_track 108 = .ok (.getfield 194, 3) := by decide +kernel
theorem dX3_track_111 : decode cX3_track 111 = .ok (.iload_n 1, 1) := by decide +kernel
theorem dX3_track_112 : decode cX3_track 112 = .ok (.iaload, 1) := by decide +kernel
theorem dX3_track_113 : decode cX3_track 113 = .ok (.ireturn, 1) := by decide +kernel
theorem dX3_track_114 : decode cX3_track 114 = .ok (.aload_n 0, 1) := by decide +kernel
theorem dX3_track_115 : decode cX3_track 115 = .ok (.getfield 48, 3) := by decide +kernel
theorem dX3_track_118 : decode cX3_track 118 = .ok (.getfield 197, 3) := by decide +kernel
theorem dX3_track_121 : decode cX3_track 121 = .ok (.iload_n 1, 1) := by decide +kernel
theorem dX3_track_122 : decode cX3_track 122 = .ok (.iaload, 1) := by decide +kernel
theorem dX3_track_123 : decode cX3_track 123 = .ok (.ireturn, 1) := by decide +kernel
theorem dX3_through_0 : decode cX3_through 0 = .ok (.iload_n 1, 1) := by decide +kernel
theorem dX3_through_1 : decode cX3_through 1 = .ok (.invokestatic 62, 3) := by decide +kernel
theorem dX3_through_4 : decode cX3_through 4 = .ok (.ifCond .ne 5, 3) := by decide +kernel
theorem dX3_through_7 : decode cX3_through 7 = .ok (.iconst (-1), 1) := by decide +kernel
theorem dX3_through_8 : decode cX3_through 8 = .ok (.ireturn, 1) := by decide +kernel
theorem dX3_through_9 : decode cX3_through 9 = .ok (.iload_n 2, 1) := by decide +kernel
theorem dX3_through_10 : decode cX3_through 10 = .ok (.invokestatic 95, 3) := by decide +kernel
theorem dX3_through_13 : decode cX3_through 13 = .ok (.ifCond .ne 6, 3) := by decide +kernel
theorem dX3_through_16 : decode cX3_through 16 = .ok (.bipush (-2), 2) := by decide +kernel
theorem dX3_through_18 : decode cX3_through 18 = .ok (.ireturn, 1) := by decide +kernel
theorem dX3_through_19 : decode cX3_through 19 = .ok (.iconst 0, 1) := by decide +kernel
theorem dX3_through_20 : decode cX3_through 20 = .ok (.istore_n 3, 1) := by decide +kernel
theorem dX3_through_21 : decode cX3_through 21 = .ok (.iconst 0, 1) := by decide +kernel
theorem dX3_through_22 : decode cX3_through 22 = .ok (.istore 4, 2) := by decide +kernel
theorem dX3_through_24 : decode cX3_through 24 = .ok (.iload 4, 2) := by decide +kernel
theorem dX3_through_26 : decode cX3_through 26 = .ok (.aload_n 0, 1) := by decide +kernel
theorem dX3_through_27 : decode cX3_through 27 = .ok (.getfield 48, 3) := by decide +kernel
theorem dX3_through_30 : decode cX3_through 30 = .ok (.getfield 116, 3) := by decide +kernel
theorem dX3_through_33 : decode cX3_through 33 = .ok (.if_icmp .ge 55, 3) := by decide +kernel
theorem dX3_through_36 : decode cX3_through 36 = .ok (.aload_n 0, 1) := by decide +kernel
theorem dX3_through_37 : decode cX3_through 37 = .ok (.getfield 48, 3) := by decide +kernel
theorem dX3_through_40 : decode cX3_through 40 = .ok (.getfield 188, 3) := by decide +kernel
theorem dX3_through_43 : decode cX3_through 43 = .ok (.iload 4, 2) := by decide +kernel
theorem dX3_through_45 : decode cX3_through 45 = .ok (.iaload, 1) := by decide +kernel
theorem dX3_through_46 : decode cX3_through 46 = .ok (.aload_n 0, 1) := by decide +kernel
theorem dX3_through_47 : decode cX3_through 47 = .ok (.getfield 48, 3) := by decide +kernel
theorem dX3_through_50 : decode cX3_through 50 = .ok (.getfield 191, 3) := by decide +kernel
theorem dX3_through_53 : decode cX3_through 53 = .ok (.iload 4, 2) := by decide +kernel
theorem dX3_through_55 : decode cX3_through 55 = .ok (.iaload, 1) := by decide +kernel
theorem dX3_through_56 : decode cX3_through 56 = .ok (.iload_n 1, 1) := by decide +kernel
theorem dX3_through_57 : decode cX3_through 57 = .ok (.imul, 1) := by decide +kernel
theorem dX3_through_58 : decode cX3_through 58 = .ok (.iadd, 1) := by decide +kernel
theorem dX3_through_59 : decode cX3_through 59 = .ok (.istore 5, 2) := by decide +kernel
theorem dX3_through_61 : decode cX3_through 61 = .ok (.aload_n 0, 1) := by decide +kernel
theorem dX3_through_62 : decode cX3_through 62 = .ok (.getfield 48, 3) := by decide +kernel
theorem dX3_through_65 : decode cX3_through 65 = .ok (.iload 4, 2) := by decide +kernel
theorem dX3_through_67 : decode cX3_through 67 = .ok (.invokevirtual 185, 3) := by decide +kernel
theorem dX3_through_70 : decode cX3_through 70 = .ok (.ifCond .eq 12, 3) := by decide +kernel
theorem dX3_through_73 : decode cX3_through 73 = .ok (.iload 5, 2) := by decide +kernel
theorem dX3_through_75 : decode cX3_through 75 = .ok (.iload_n 2, 1) := by decide +kernel
theorem dX3_through_76 : decode cX3_through 76 = .ok (.if_icmp .ne 6, 3) := by decide +kernel
theorem dX3_through_79 : decode cX3_through 79 = .ok (.iinc 3 1, 3) := by decide +kernel
theorem dX3_through_82 : decode cX3_through 82 = .ok (.iinc 4 1, 3) := by decide +kernel
theorem dX3_through_85 : decode cX3_through 85 = .ok (.goto (-61), 3) := by decide +kernel
theorem dX3_through_88 : decode cX3_through 88 = .ok (.iload_n 3, 1) := by decide +kernel
theorem dX3_through_89 : decode cX3_through 89 = .ok (.ireturn, 1) := by decide +kernel
theorem dX3_many_0 : decode cX3_many 0 = .ok (.iload_n 1, 1) := by decide +kernel
theorem dX3_many_1 : decode cX3_many 1 = .ok (.tableswitch 171 0 12 #[67, 80, 85, 93, 98, 106, 119, 124, 132, 137, 145, 153, 162], 67) := by decide +kernel
theorem dX3_many_68 : decode cX3_many 68 = .ok (.aload_n 0, 1) := by decide +kernel
theorem dX3_many_69 : decode cX3_many 69 = .ok (.getfield 35, 3) := by decide +kernel
theorem dX3_many_72 : decode cX3_many 72 = .ok (.getfield 74, 3) := by decide +kernel
theorem dX3_many_75 : decode cX3_many 75 = .ok (.aload_n 0, 1) := by decide +kernel
theorem dX3_many_76 : decode cX3_many 76 = .ok (.getfield 106, 3) := by decide +kernel
theorem dX3_many_79 : decode cX3_many 79 = .ok (.iadd, 1) := by decide +kernel
theorem dX3_many_80 : decode cX3_many 80 = .ok (.ireturn, 1) := by decide +kernel
theorem dX3_many_81 : decode cX3_many 81 = .ok (.aload_n 0, 1) := by decide +kernel
theorem dX3_many_82 : decode cX3_many 82 = .ok (.getfield 106, 3) := by decide +kernel
theorem dX3_many_85 : decode cX3_many 85 = .ok (.ireturn, 1) := by decide +kernel
theorem dX3_many_86 : decode cX3_many 86 = .ok (.aload_n 0, 1) := by decide +kernel
theorem dX3_many_87 : decode cX3_many 87 = .ok (.getfield 35, 3) := by decide +kernel
theorem dX3_many_90 : decode cX3_many 90 = .ok (.getfield 74, 3) := by decide +kernel
theorem dX3_many_93 : decode cX3_many 93 = .ok (.ireturn, 1) := by decide +kernel
theorem dX3_many_94 : decode cX3_many 94 = .ok (.aload_n 0, 1) := by decide +kernel
theorem dX3_many_95 : decode cX3_many 95 = .ok (.getfield 86, 3) := by decide +kernel
theorem dX3_many_98 : decode cX3_many 98 = .ok (.ireturn, 1) := by decide +kernel
theorem dX3_many_99 : decode cX3_many 99 = .ok (.aload_n 0, 1) := by decide +kernel
theorem dX3_many_100 : decode cX3_many 100 = .ok (.getfield 39, 3) := by decide +kernel
theorem dX3_many_103 : decode cX3_many 103 = .ok (.getfield 74, 3) := by decide +kernel
theorem dX3_many_106 : decode cX3_many 106 = .ok (.ireturn, 1) := by decide +kernel
theorem dX3_many_107 : decode cX3_many 107 = .ok (.aload_n 0, 1) := by decide +kernel
theorem dX3_many_108 : decode cX3_many 108 = .ok (.getfield 86, 3) := by decide +kernel
theorem dX3_many_111 : decode cX3_many 111 = .ok (.aload_n 0, 1) := by decide +kernel
theorem dX3_many_112 : decode cX3_many 112 = .ok (.getfield 39, 3) := by decide +kernel
theorem dX3_many_115 : decode cX3_many 115 = .ok (.getfield 74, 3) := by decide +kernel
theorem dX3_many_118 : decode cX3_many 118 = .ok (.isub, 1) := by decide +kernel
theorem dX3_many_119 : decode cX3_many 119 = .ok (.ireturn, 1) := by decide +kernel
theorem dX3_many_120 : decode cX3_many 120 = .ok (.aload_n 0, 1) := by decide +kernel
theorem dX3_many_121 : decode cX3_many 121 = .ok (.getfield 123, 3) := by decide +kernel
theorem dX3_many_124 : decode cX3_many 124 = .ok (.ireturn, 1) := by decide +kernel
theorem dX3_many_125 : decode cX3_many 125 = .ok (.aload_n 0, 1) := by decide +kernel
theorem dX3_many_126 : decode cX3_many 126 = .ok (.getfield 48, 3) := by decide +kernel
theorem dX3_many_129 : decode cX3_many 129 = .ok (.getfield 116, 3) := by decide +kernel
theorem dX3_many_132 : decode cX3_many 132 = .ok (.ireturn, 1) := by decide +kernel
theorem dX3_many_133 : decode cX3_many 133 = .ok (.aload_n 0, 1) := by decide +kernel
theorem dX3_many_134 : decode cX3_many 134 = .ok (.invokevirtual 200, 3) := by decide +kernel
theorem dX3_many_137 : decode cX3_many 137 = .ok (.ireturn, 1) := by decide +kernel
theorem dX3_many_138 : decode cX3_many 138 = .ok (.aload_n 0, 1) := by decide +kernel
theorem dX3_many_139 : decode cX3_many 139 = .ok (.getfield 48, 3) := by decide +kernel
theorem dX3_many_142 : decode cX3_many 142 = .ok (.invokevirtual 203, 3) := by decide +kernel
theorem dX3_many_145 : decode cX3_many 145 = .ok (.ireturn, 1) := by decide +kernel
theorem dX3_many_146 : decode cX3_many 146 = .ok (.aload_n 0, 1) := by decide +kernel
theorem dX3_many_147 : decode cX3_many 147 = .ok (.getfield 48, 3) := by decide +kernel
theorem dX3_many_150 : decode cX3_many 150 = .ok (.invokevirtual 206, 3) := by decide +kernel
theorem dX3_many_153 : decode cX3_many 153 = .ok (.ireturn, 1) := by decide +kernel
theorem dX3_many_154 : decode cX3_many 154 = .ok (.aload_n 0, 1) := by decide +kernel
theorem dX3_many_155 : decode cX3_many 155 = .ok (.invokevirtual 102, 3) := by decide +kernel
theorem dX3_many_158 : decode cX3_many 158 = .ok (.sipush 2000, 3) := by decide +kernel
theorem dX3_many_161 : decode cX3_many 161 = .ok (.iadd, 1) := by decide +kernel
theorem dX3_many_162 : decode cX3_many 162 = .ok (.ireturn, 1) := by decide +kernel
theorem dX3_many_163 : decode cX3_many 163 = .ok (.aload_n 0, 1) := by decide +kernel
theorem dX3_many_164 : decode cX3_many 164 = .ok (.invokevirtual 209, 3) := by decide +kernel
theorem dX3_many_167 : decode cX3_many 167 = .ok (.sipush 2000, 3) := by decide +kernel
theorem dX3_many_170 : decode cX3_many 170 = .ok (.iadd, 1) := by decide +kernel
theorem dX3_many_171 : decode cX3_many 171 = .ok (.ireturn, 1) := by decide +kernel
theorem dX3_many_172 : decode cX3_many 172 = .ok (.bipush (-2), 2) := by decide +kernel
theorem dX3_many_174 : decode cX3_many 174 = .ok (.ireturn, 1) := by decide +kernel
theorem dX3_isWithin_0 : decode cX3_isWithin 0 = .ok (.iload_n 0, 1) := by decide +kernel
theorem dX3_isWithin_1 : decode cX3_isWithin 1 = .ok (.iload_n 1, 1) := by decide +kernel
theorem dX3_isWithin_2 : decode cX3_isWithin 2 = .ok (.if_icmp .lt 12, 3) := by decide +kernel
theorem dX3_isWithin_5 : decode cX3_isWithin 5 = .ok (.iload_n 0, 1) := by decide +kernel
theorem dX3_isWithin_6 : decode cX3_isWithin 6 = .ok (.iload_n 2, 1) := by decide +kernel
theorem dX3_isWithin_7 : decode cX3_isWithin 7 = .ok (.if_icmp .gt 7, 3) := by decide +kernel
theorem dX3_isWithin_10 : decode cX3_isWithin 10 = .ok (.iconst 1, 1) := by decide +kernel
theorem dX3_isWithin_11 : decode cX3_isWithin 11 = .ok (.goto 4, 3) := by decide +kernel
theorem dX3_isWithin_14 : decode cX3_isWithin 14 = .ok (.iconst 0, 1) := by decide +kernel
theorem dX3_isWithin_15 : decode cX3_isWithin 15 = .ok (.ireturn, 1) := by decide +kernel
theorem dX3_isPlane_0 : decode cX3_isPlane 0 = .ok (.iload_n 0, 1) := by decide +kernel
theorem dX3_isPlane_1 : decode cX3_isPlane 1 = .ok (.iconst 0, 1) := by decide +kernel
theorem dX3_isPlane_2 : decode cX3_isPlane 2 = .ok (.iconst 5, 1) := by decide +kernel
theorem dX3_isPlane_3 : decode cX3_isPlane 3 = .ok (.invokestatic 66, 3) := by decide +kernel
theorem dX3_isPlane_6 : decode cX3_isPlane 6 = .ok (.ireturn, 1) := by decide +kernel
theorem dX3_isStrip_0 : decode cX3_isStrip 0 = .ok (.iload_n 0, 1) := by decide +kernel
theorem dX3_isStrip_1 : decode cX3_isStrip 1 = .ok (.iconst 0, 1) := by decide +kernel
theorem dX3_isStrip_2 : decode cX3_isStrip 2 = .ok (.bipush 15, 2) := by decide +kernel
theorem dX3_isStrip_4 : decode cX3_isStrip 4 = .ok (.invokestatic 66, 3) := by decide +kernel
theorem dX3_isStrip_7 : decode cX3_isStrip 7 = .ok (.ireturn, 1) := by decide +kernel
theorem dX3_isGroup_0 : decode cX3_isGroup 0 = .ok (.iload_n 1, 1) := by decide +kernel
theorem dX3_isGroup_1 : decode cX3_isGroup 1 = .ok (.iconst 0, 1) := by decide +kernel
theorem dX3_isGroup_2 : decode cX3_isGroup 2 = .ok (.aload_n 0, 1) := by decide +kernel
theorem dX3_isGroup_3 : decode cX3_isGroup 3 = .ok (.getfield 48, 3) := by decide +kernel
theorem dX3_isGroup_6 : decode cX3_isGroup 6 = .ok (.getfield 116, 3) := by decide +kernel
theorem dX3_isGroup_9 : decode cX3_isGroup 9 = .ok (.iconst 1, 1) := by decide +kernel
theorem dX3_isGroup_10 : decode cX3_isGroup 10 = .ok (.isub, 1) := by decide +kernel
theorem dX3_isGroup_11 : decode cX3_isGroup 11 = .ok (.invokestatic 66, 3) := by decide +kernel
theorem dX3_isGroup_14 : decode cX3_isGroup 14 = .ok (.ireturn, 1) := by decide +kernel
theorem dX3_hasBegun_0 : decode cX3_hasBegun 0 = .ok (.aload_n 0, 1) := by decide +kernel
theorem dX3_hasBegun_1 : decode cX3_hasBegun 1 = .ok (.getfield 35, 3) := by decide +kernel
theorem dX3_hasBegun_4 : decode cX3_hasBegun 4 = .ok (.getfield 74, 3) := by decide +kernel
theorem dX3_hasBegun_7 : decode cX3_hasBegun 7 = .ok (.ifCond .gt 10, 3) := by decide +kernel
theorem dX3_hasBegun_10 : decode cX3_hasBegun 10 = .ok (.aload_n 0, 1) := by decide +kernel
theorem dX3_hasBegun_11 : decode cX3_hasBegun 11 = .ok (.getfield 98, 3) := by decide +kernel
theorem dX3_hasBegun_14 : decode cX3_hasBegun 14 = .ok (.ifCond .eq 7, 3) := by decide +kernel
theorem dX3_hasBegun_17 : decode cX3_hasBegun 17 = .ok (.iconst 1, 1) := by decide +kernel
theorem dX3_hasBegun_18 : decode cX3_hasBegun 18 = .ok (.goto 4, 3) := by decide +kernel
theorem dX3_hasBegun_21 : decode cX3_hasBegun 21 = .ok (.iconst 0, 1) := by decide +kernel
theorem dX3_hasBegun_22 : decode cX3_hasBegun 22 = .ok (.ireturn, 1) := by decide +kernel
theorem dX3_horizon_0 : decode cX3_horizon 0 = .ok (.aload_n 0, 1) := by decide +kernel
theorem dX3_horizon_1 : decode cX3_horizon 1 = .ok (.getfield 98, 3) := by decide +kernel
theorem dX3_horizon_4 : decode cX3_horizon 4 = .ok (.ifCond .eq 7, 3) := by decide +kernel
theorem dX3_horizon_7 : decode cX3_horizon 7 = .ok (.sipush 20000, 3) := by decide +kernel
theorem dX3_horizon_10 : decode cX3_horizon 10 = .ok (.ireturn, 1) := by decide +kernel
theorem dX3_horizon_11 : decode cX3_horizon 11 = .ok (.aload_n 0, 1) := by decide +kernel
theorem dX3_horizon_12 : decode cX3_horizon 12 = .ok (.getfield 35, 3) := by decide +kernel
theorem dX3_horizon_15 : decode cX3_horizon 15 = .ok (.getfield 74, 3) := by decide +kernel
theorem dX3_horizon_18 : decode cX3_horizon 18 = .ok (.ifCond .ne 7, 3) := by decide +kernel
theorem dX3_horizon_21 : decode cX3_horizon 21 = .ok (.sipush (-1000), 3) := by decide +kernel
theorem dX3_horizon_24 : decode cX3_horizon 24 = .ok (.ireturn, 1) := by decide +kernel
theorem dX3_horizon_25 : decode cX3_horizon 25 = .ok (.aload_n 0, 1) := by decide +kernel
theorem dX3_horizon_26 : decode cX3_horizon 26 = .ok (.invokevirtual 212, 3) := by decide +kernel
theorem dX3_horizon_29 : decode cX3_horizon 29 = .ok (.aload_n 0, 1) := by decide +kernel
theorem dX3_horizon_30 : decode cX3_horizon 30 = .ok (.getfield 29, 3) := by decide +kernel
theorem dX3_horizon_33 : decode cX3_horizon 33 = .ok (.iconst 0, 1) := by decide +kernel
theorem dX3_horizon_34 : decode cX3_horizon 34 = .ok (.iaload, 1) := by decide +kernel
theorem dX3_horizon_35 : decode cX3_horizon 35 = .ok (.isub, 1) := by decide +kernel
theorem dX3_horizon_36 : decode cX3_horizon 36 = .ok (.ireturn, 1) := by decide +kernel
theorem dX3_latest_0 : decode cX3_latest 0 = .ok (.aload_n 0, 1) := by decide +kernel
theorem dX3_latest_1 : decode cX3_latest 1 = .ok (.getfield 35, 3) := by decide +kernel
theorem dX3_latest_4 : decode cX3_latest 4 = .ok (.getfield 74, 3) := by decide +kernel
theorem dX3_latest_7 : decode cX3_latest 7 = .ok (.iconst 1, 1) := by decide +kernel
theorem dX3_latest_8 : decode cX3_latest 8 = .ok (.isub, 1) := by decide +kernel
theorem dX3_latest_9 : decode cX3_latest 9 = .ok (.istore_n 1, 1) := by decide +kernel
theorem dX3_latest_10 : decode cX3_latest 10 = .ok (.aload_n 0, 1) := by decide +kernel
theorem dX3_latest_11 : decode cX3_latest 11 = .ok (.getfield 35, 3) := by decide +kernel
theorem dX3_latest_14 : decode cX3_latest 14 = .ok (.iload_n 1, 1) := by decide +kernel
theorem dX3_latest_15 : decode cX3_latest 15 = .ok (.invokevirtual 147, 3) := by decide +kernel
theorem dX3_latest_18 : decode cX3_latest 18 = .ok (.ifCond .eq 15, 3) := by decide +kernel
theorem dX3_latest_21 : decode cX3_latest 21 = .ok (.aload_n 0, 1) := by decide +kernel
theorem dX3_latest_22 : decode cX3_latest 22 = .ok (.getfield 35, 3) := by decide +kernel
theorem dX3_latest_25 : decode cX3_latest 25 = .ok (.getfield 150, 3) := by decide +kernel
theorem dX3_latest_28 : decode cX3_latest 28 = .ok (.iload_n 1, 1) := by decide +kernel
theorem dX3_latest_29 : decode cX3_latest 29 = .ok (.iaload, 1) := by decide +kernel
theorem dX3_latest_30 : decode cX3_latest 30 = .ok (.goto 4, 3) := by decide +kernel
theorem dX3_latest_33 : decode cX3_latest 33 = .ok (.iconst (-1), 1) := by decide +kernel
theorem dX3_latest_34 : decode cX3_latest 34 = .ok (.ireturn, 1) := by decide +kernel
theorem dX3_span_0 : decode cX3_span 0 = .ok (.aload_n 0, 1) := by decide +kernel
theorem dX3_span_1 : decode cX3_span 1 = .ok (.invokevirtual 212, 3) := by decide +kernel
theorem dX3_span_4 : decode cX3_span 4 = .ok (.iconst 1, 1) := by decide +kernel
theorem dX3_span_5 : decode cX3_span 5 = .ok (.iadd, 1) := by decide +kernel
theorem dX3_span_6 : decode cX3_span 6 = .ok (.ireturn, 1) := by decide +kernel
theorem dX3_edge_0 : decode cX3_edge 0 = .ok (.iconst 0, 1) := by decide +kernel
theorem dX3_edge_1 : decode cX3_edge 1 = .ok (.istore_n 1, 1) := by decide +kernel
theorem dX3_edge_2 : decode cX3_edge 2 = .ok (.iconst 0, 1) := by decide +kernel
theorem dX3_edge_3 : decode cX3_edge 3 = .ok (.istore_n 2, 1) := by decide +kernel
theorem dX3_edge_4 : decode cX3_edge 4 = .ok (.iload_n 2, 1) := by decide +kernel
theorem dX3_edge_5 : decode cX3_edge 5 = .ok (.bipush 6, 2) := by decide +kernel
theorem dX3_edge_7 : decode cX3_edge 7 = .ok (.if_icmp .ge 20, 3) := by decide +kernel
theorem dX3_edge_10 : decode cX3_edge 10 = .ok (.iload_n 1, 1) := by decide +kernel
theorem dX3_edge_11 : decode cX3_edge 11 = .ok (.aload_n 0, 1) := by decide +kernel
theorem dX3_edge_12 : decode cX3_edge 12 = .ok (.getfield 11, 3) := by decide +kernel
theorem dX3_edge_15 : decode cX3_edge 15 = .ok (.iload_n 2, 1) := by decide +kernel
theorem dX3_edge_16 : decode cX3_edge 16 = .ok (.iaload, 1) := by decide +kernel
theorem dX3_edge_17 : decode cX3_edge 17 = .ok (.invokestatic 215, 3) := by decide +kernel
theorem dX3_edge_20 : decode cX3_edge 20 = .ok (.istore_n 1, 1) := by decide +kernel
theorem dX3_edge_21 : decode cX3_edge 21 = .ok (.iinc 2 1, 3) := by decide +kernel
theorem dX3_edge_24 : decode cX3_edge 24 = .ok (.goto (-20), 3) := by decide +kernel
theorem dX3_edge_27 : decode cX3_edge 27 = .ok (.aload_n 0, 1) := by decide +kernel
theorem dX3_edge_28 : decode cX3_edge 28 = .ok (.invokevirtual 102, 3) := by decide +kernel
theorem dX3_edge_31 : decode cX3_edge 31 = .ok (.iload_n 1, 1) := by decide +kernel
theorem dX3_edge_32 : decode cX3_edge 32 = .ok (.isub, 1) := by decide +kernel
theorem dX3_edge_33 : decode cX3_edge 33 = .ok (.ireturn, 1) := by decide +kernel
theorem dX3_follow_0 : decode cX3_follow 0 = .ok (.aload_n 0, 1) := by decide +kernel
theorem dX3_follow_1 : decode cX3_follow 1 = .ok (.aload_n 0, 1) := by decide +kernel
theorem dX3_follow_2 : decode cX3_follow 2 = .ok (.invokevirtual 102, 3) := by decide +kernel
theorem dX3_follow_5 : decode cX3_follow 5 = .ok (.invokevirtual 220, 3) := by decide +kernel
theorem dX3_follow_8 : decode cX3_follow 8 = .ok (.aload_n 0, 1) := by decide +kernel
theorem dX3_follow_9 : decode cX3_follow 9 = .ok (.invokevirtual 209, 3) := by decide +kernel
theorem dX3_follow_12 : decode cX3_follow 12 = .ok (.istore_n 1, 1) := by decide +kernel
theorem dX3_follow_13 : decode cX3_follow 13 = .ok (.aload_n 0, 1) := by decide +kernel
theorem dX3_follow_14 : decode cX3_follow 14 = .ok (.getfield 123, 3) := by decide +kernel
theorem dX3_follow_17 : decode cX3_follow 17 = .ok (.aload_n 0, 1) := by decide +kernel
theorem dX3_follow_18 : decode cX3_follow 18 = .ok (.getfield 39, 3) := by decide +kernel
theorem dX3_follow_21 : decode cX3_follow 21 = .ok (.getfield 74, 3) := by decide +kernel
theorem dX3_follow_24 : decode cX3_follow 24 = .ok (.if_icmp .ge 32, 3) := by decide +kernel
theorem dX3_follow_27 : decode cX3_follow 27 = .ok (.aload_n 0, 1) := by decide +kernel
theorem dX3_follow_28 : decode cX3_follow 28 = .ok (.getfield 39, 3) := by decide +kernel
theorem dX3_follow_31 : decode cX3_follow 31 = .ok (.getfield 150, 3) := by decide +kernel
theorem dX3_follow_34 : decode cX3_follow 34 = .ok (.aload_n 0, 1) := by decide +kernel
theorem dX3_follow_35 : decode cX3_follow 35 = .ok (.getfield 123, 3) := by decide +kernel
theorem dX3_follow_38 : decode cX3_follow 38 = .ok (.iaload, 1) := by decide +kernel
theorem dX3_follow_39 : decode cX3_follow 39 = .ok (.iload_n 1, 1) := by decide +kernel
theorem dX3_follow_40 : decode cX3_follow 40 = .ok (.if_icmp .ge 16, 3) := by decide +kernel
theorem dX3_follow_43 : decode cX3_follow 43 = .ok (.aload_n 0, 1) := by decide +kernel
theorem dX3_follow_44 : decode cX3_follow 44 = .ok (.dup, 1) := by decide +kernel
theorem dX3_follow_45 : decode cX3_follow 45 = .ok (.getfield 123, 3) := by decide +kernel
theorem dX3_follow_48 : decode cX3_follow 48 = .ok (.iconst 1, 1) := by decide +kernel
theorem dX3_follow_49 : decode cX3_follow 49 = .ok (.iadd, 1) := by decide +kernel
theorem dX3_follow_50 : decode cX3_follow 50 = .ok (.putfield 123, 3) := by decide +kernel
theorem dX3_follow_53 : decode cX3_follow 53 = .ok (.goto (-40), 3) := by decide +kernel
theorem dX3_follow_56 : decode cX3_follow 56 = .ok (.iconst 0, 1) := by decide +kernel
theorem dX3_follow_57 : decode cX3_follow 57 = .ok (.istore_n 2, 1) := by decide +kernel
theorem dX3_follow_58 : decode cX3_follow 58 = .ok (.iload_n 2, 1) := by decide +kernel
theorem dX3_follow_59 : decode cX3_follow 59 = .ok (.sipush 240, 3) := by decide +kernel
theorem dX3_follow_62 : decode cX3_follow 62 = .ok (.if_icmp .ge 21, 3) := by decide +kernel
theorem dX3_follow_65 : decode cX3_follow 65 = .ok (.aload_n 0, 1) := by decide +kernel
theorem dX3_follow_66 : decode cX3_follow 66 = .ok (.iload_n 1, 1) := by decide +kernel
theorem dX3_follow_67 : decode cX3_follow 67 = .ok (.invokevirtual 224, 3) := by decide +kernel
theorem dX3_follow_70 : decode cX3_follow 70 = .ok (.ifCond .eq 13, 3) := by decide +kernel
theorem dX3_follow_73 : decode cX3_follow 73 = .ok (.aload_n 0, 1) := by decide +kernel
theorem dX3_follow_74 : decode cX3_follow 74 = .ok (.invokevirtual 227, 3) := by decide +kernel
theorem dX3_follow_77 : decode cX3_follow 77 = .ok (.iinc 2 1, 3) := by decide +kernel
theorem dX3_follow_80 : decode cX3_follow 80 = .ok (.goto (-22), 3) := by decide +kernel
theorem dX3_follow_83 : decode cX3_follow 83 = .ok (.return_, 1) := by decide +kernel
theorem dX3_settleBelow_0 : decode cX3_settleBelow 0 = .ok (.aload_n 0, 1) := by decide +kernel
theorem dX3_settleBelow_1 : decode cX3_settleBelow 1 = .ok (.getfield 86, 3) := by decide +kernel
theorem dX3_settleBelow_4 : decode cX3_settleBelow 4 = .ok (.aload_n 0, 1) := by decide +kernel
theorem dX3_settleBelow_5 : decode cX3_settleBelow 5 = .ok (.getfield 35, 3) := by decide +kernel
theorem dX3_settleBelow_8 : decode cX3_settleBelow 8 = .ok (.getfield 74, 3) := by decide +kernel
theorem dX3_settleBelow_11 : decode cX3_settleBelow 11 = .ok (.if_icmp .ge 72, 3) := by decide +kernel
theorem dX3_settleBelow_14 : decode cX3_settleBelow 14 = .ok (.aload_n 0, 1) := by decide +kernel
theorem dX3_settleBelow_15 : decode cX3_settleBelow 15 = .ok (.getfield 35, 3) := by decide +kernel
theorem dX3_settleBelow_18 : decode cX3_settleBelow 18 = .ok (.getfield 150, 3) := by decide +kernel
theorem dX3_settleBelow_21 : decode cX3_settleBelow 21 = .ok (.aload_n 0, 1) := by decide +kernel
theorem dX3_settleBelow_22 : decode cX3_settleBelow 22 = .ok (.getfield 86, 3) := by decide +kernel
theorem dX3_settleBelow_25 : decode cX3_settleBelow 25 = .ok (.iaload, 1) := by decide +kernel
theorem dX3_settleBelow_26 : decode cX3_settleBelow 26 = .ok (.iload_n 1, 1) := by decide +kernel
theorem dX3_settleBelow_27 : decode cX3_settleBelow 27 = .ok (.if_icmp .ge 56, 3) := by decide +kernel
theorem dX3_settleBelow_30 : decode cX3_settleBelow 30 = .ok (.aload_n 0, 1) := by decide +kernel
theorem dX3_settleBelow_31 : decode cX3_settleBelow 31 = .ok (.aload_n 0, 1) := by decide +kernel
theorem dX3_settleBelow_32 : decode cX3_settleBelow 32 = .ok (.getfield 35, 3) := by decide +kernel
theorem dX3_settleBelow_35 : decode cX3_settleBelow 35 = .ok (.getfield 150, 3) := by decide +kernel
theorem dX3_settleBelow_38 : decode cX3_settleBelow 38 = .ok (.aload_n 0, 1) := by decide +kernel
theorem dX3_settleBelow_39 : decode cX3_settleBelow 39 = .ok (.getfield 86, 3) := by decide +kernel
theorem dX3_settleBelow_42 : decode cX3_settleBelow 42 = .ok (.iaload, 1) := by decide +kernel
theorem dX3_settleBelow_43 : decode cX3_settleBelow 43 = .ok (.aload_n 0, 1) := by decide +kernel
theorem dX3_settleBelow_44 : decode cX3_settleBelow 44 = .ok (.getfield 35, 3) := by decide +kernel
theorem dX3_settleBelow_47 : decode cX3_settleBelow 47 = .ok (.getfield 230, 3) := by decide +kernel
theorem dX3_settleBelow_50 : decode cX3_settleBelow 50 = .ok (.aload_n 0, 1) := by decide +kernel
theorem dX3_settleBelow_51 : decode cX3_settleBelow 51 = .ok (.getfield 86, 3) := by decide +kernel
theorem dX3_settleBelow_54 : decode cX3_settleBelow 54 = .ok (.iaload, 1) := by decide +kernel
theorem dX3_settleBelow_55 : decode cX3_settleBelow 55 = .ok (.aload_n 0, 1) := by decide +kernel
theorem dX3_settleBelow_56 : decode cX3_settleBelow 56 = .ok (.getfield 35, 3) := by decide +kernel
theorem dX3_settleBelow_59 : decode cX3_settleBelow 59 = .ok (.getfield 153, 3) := by decide +kernel
theorem dX3_settleBelow_62 : decode cX3_settleBelow 62 = .ok (.aload_n 0, 1) := by decide +kernel
theorem dX3_settleBelow_63 : decode cX3_settleBelow 63 = .ok (.getfield 86, 3) := by decide +kernel
theorem dX3_settleBelow_66 : decode cX3_settleBelow 66 = .ok (.iaload, 1) := by decide +kernel
theorem dX3_settleBelow_67 : decode cX3_settleBelow 67 = .ok (.invokevirtual 233, 3) := by decide +kernel
theorem dX3_settleBelow_70 : decode cX3_settleBelow 70 = .ok (.aload_n 0, 1) := by decide +kernel
theorem dX3_settleBelow_71 : decode cX3_settleBelow 71 = .ok (.dup, 1) := by decide +kernel
theorem dX3_settleBelow_72 : decode cX3_settleBelow 72 = .ok (.getfield 86, 3) := by decide +kernel
theorem dX3_settleBelow_75 : decode cX3_settleBelow 75 = .ok (.iconst 1, 1) := by decide +kernel
theorem dX3_settleBelow_76 : decode cX3_settleBelow 76 = .ok (.iadd, 1) := by decide +kernel
theorem dX3_settleBelow_77 : decode cX3_settleBelow 77 = .ok (.putfield 86, 3) := by decide +kernel
theorem dX3_settleBelow_80 : decode cX3_settleBelow 80 = .ok (.goto (-80), 3) := by decide +kernel
theorem dX3_settleBelow_83 : decode cX3_settleBelow 83 = .ok (.return_, 1) := by decide +kernel
theorem dX3_settle_0 : decode cX3_settle 0 = .ok (.iload_n 2, 1) := by decide +kernel
theorem dX3_settle_1 : decode cX3_settle 1 = .ok (.invokestatic 62, 3) := by decide +kernel
theorem dX3_settle_4 : decode cX3_settle 4 = .ok (.ifCond .ne 4, 3) := by decide +kernel
theorem dX3_settle_7 : decode cX3_settle 7 = .ok (.return_, 1) := by decide +kernel
theorem dX3_settle_8 : decode cX3_settle 8 = .ok (.iload_n 1, 1) := by decide +kernel
theorem dX3_settle_9 : decode cX3_settle 9 = .ok (.aload_n 0, 1) := by decide +kernel
theorem dX3_settle_10 : decode cX3_settle 10 = .ok (.getfield 59, 3) := by decide +kernel
theorem dX3_settle_13 : decode cX3_settle 13 = .ok (.iload_n 2, 1) := by decide +kernel
theorem dX3_settle_14 : decode cX3_settle 14 = .ok (.iaload, 1) := by decide +kernel
theorem dX3_settle_15 : decode cX3_settle 15 = .ok (.if_icmp .lt 7, 3) := by decide +kernel
theorem dX3_settle_18 : decode cX3_settle 18 = .ok (.iconst 1, 1) := by decide +kernel
theorem dX3_settle_19 : decode cX3_settle 19 = .ok (.goto 4, 3) := by decide +kernel
theorem dX3_settle_22 : decode cX3_settle 22 = .ok (.iconst 0, 1) := by decide +kernel
theorem dX3_settle_23 : decode cX3_settle 23 = .ok (.istore 4, 2) := by decide +kernel
theorem dX3_settle_25 : decode cX3_settle 25 = .ok (.iload 4, 2) := by decide +kernel
theorem dX3_settle_27 : decode cX3_settle 27 = .ok (.ifCond .eq 20, 3) := by decide +kernel
theorem dX3_settle_30 : decode cX3_settle 30 = .ok (.aload_n 0, 1) := by decide +kernel
theorem dX3_settle_31 : decode cX3_settle 31 = .ok (.getfield 39, 3) := by decide +kernel
theorem dX3_settle_34 : decode cX3_settle 34 = .ok (.iload_n 1, 1) := by decide +kernel
theorem dX3_settle_35 : decode cX3_settle 35 = .ok (.aload_n 0, 1) := by decide +kernel
theorem dX3_settle_36 : decode cX3_settle 36 = .ok (.getfield 11, 3) := by decide +kernel
theorem dX3_settle_39 : decode cX3_settle 39 = .ok (.iload_n 2, 1) := by decide +kernel
theorem dX3_settle_40 : decode cX3_settle 40 = .ok (.iaload, 1) := by decide +kernel
theorem dX3_settle_41 : decode cX3_settle 41 = .ok (.isub, 1) := by decide +kernel
theorem dX3_settle_42 : decode cX3_settle 42 = .ok (.iload_n 2, 1) := by decide +kernel
theorem dX3_settle_43 : decode cX3_settle 43 = .ok (.iload_n 3, 1) := by decide +kernel
theorem dX3_settle_44 : decode cX3_settle 44 = .ok (.invokevirtual 109, 3) := by decide +kernel
theorem dX3_settle_47 : decode cX3_settle 47 = .ok (.iload 4, 2) := by decide +kernel
theorem dX3_settle_49 : decode cX3_settle 49 = .ok (.ifCond .ne 13, 3) := by decide +kernel
theorem dX3_settle_52 : decode cX3_settle 52 = .ok (.aload_n 0, 1) := by decide +kernel
theorem dX3_settle_53 : decode cX3_settle 53 = .ok (.getfield 18, 3) := by decide +kernel
theorem dX3_settle_56 : decode cX3_settle 56 = .ok (.iload_n 2, 1) := by decide +kernel
theorem dX3_settle_57 : decode cX3_settle 57 = .ok (.iaload, 1) := by decide +kernel
theorem dX3_settle_58 : decode cX3_settle 58 = .ok (.iconst 1, 1) := by decide +kernel
theorem dX3_settle_59 : decode cX3_settle 59 = .ok (.if_icmp .ne 17, 3) := by decide +kernel
theorem dX3_settle_62 : decode cX3_settle 62 = .ok (.aload_n 0, 1) := by decide +kernel
theorem dX3_settle_63 : decode cX3_settle 63 = .ok (.getfield 59, 3) := by decide +kernel
theorem dX3_settle_66 : decode cX3_settle 66 = .ok (.iload_n 2, 1) := by decide +kernel
theorem dX3_settle_67 : decode cX3_settle 67 = .ok (.iload_n 1, 1) := by decide +kernel
theorem dX3_settle_68 : decode cX3_settle 68 = .ok (.aload_n 0, 1) := by decide +kernel
theorem dX3_settle_69 : decode cX3_settle 69 = .ok (.getfield 15, 3) := by decide +kernel
theorem dX3_settle_72 : decode cX3_settle 72 = .ok (.iload_n 2, 1) := by decide +kernel
theorem dX3_settle_73 : decode cX3_settle 73 = .ok (.iaload, 1) := by decide +kernel
theorem dX3_settle_74 : decode cX3_settle 74 = .ok (.iadd, 1) := by decide +kernel
theorem dX3_settle_75 : decode cX3_settle 75 = .ok (.iastore, 1) := by decide +kernel
theorem dX3_settle_76 : decode cX3_settle 76 = .ok (.return_, 1) := by decide +kernel
theorem dX3_nextGroupIsShut_0 : decode cX3_nextGroupIsShut 0 = .ok (.aload_n 0, 1) := by decide +kernel
theorem dX3_nextGroupIsShut_1 : decode cX3_nextGroupIsShut 1 = .ok (.getfield 48, 3) := by decide +kernel
theorem dX3_nextGroupIsShut_4 : decode cX3_nextGroupIsShut 4 = .ok (.invokevirtual 203, 3) := by decide +kernel
theorem dX3_nextGroupIsShut_7 : decode cX3_nextGroupIsShut 7 = .ok (.istore_n 2, 1) := by decide +kernel
theorem dX3_nextGroupIsShut_8 : decode cX3_nextGroupIsShut 8 = .ok (.iload_n 2, 1) := by decide +kernel
theorem dX3_nextGroupIsShut_9 : decode cX3_nextGroupIsShut 9 = .ok (.aload_n 0, 1) := by decide +kernel
theorem dX3_nextGroupIsShut_10 : decode cX3_nextGroupIsShut 10 = .ok (.getfield 123, 3) := by decide +kernel
theorem dX3_nextGroupIsShut_13 : decode cX3_nextGroupIsShut 13 = .ok (.if_icmp .ge 26, 3) := by decide +kernel
theorem dX3_nextGroupIsShut_16 : decode cX3_nextGroupIsShut 16 = .ok (.aload_n 0, 1) := by decide +kernel
theorem dX3_nextGroupIsShut_17 : decode cX3_nextGroupIsShut 17 = .ok (.getfield 39, 3) := by decide +kernel
theorem dX3_nextGroupIsShut_20 : decode cX3_nextGroupIsShut 20 = .ok (.iload_n 2, 1) := by decide +kernel
theorem dX3_nextGroupIsShut_21 : decode cX3_nextGroupIsShut 21 = .ok (.invokevirtual 132, 3) := by decide +kernel
theorem dX3_nextGroupIsShut_24 : decode cX3_nextGroupIsShut 24 = .ok (.aload_n 0, 1) := by decide +kernel
theorem dX3_nextGroupIsShut_25 : decode cX3_nextGroupIsShut 25 = .ok (.getfield 29, 3) := by decide +kernel
theorem dX3_nextGroupIsShut_28 : decode cX3_nextGroupIsShut 28 = .ok (.iconst 1, 1) := by decide +kernel
theorem dX3_nextGroupIsShut_29 : decode cX3_nextGroupIsShut 29 = .ok (.iaload, 1) := by decide +kernel
theorem dX3_nextGroupIsShut_30 : decode cX3_nextGroupIsShut 30 = .ok (.iadd, 1) := by decide +kernel
theorem dX3_nextGroupIsShut_31 : decode cX3_nextGroupIsShut 31 = .ok (.iload_n 1, 1) := by decide +kernel
theorem dX3_nextGroupIsShut_32 : decode cX3_nextGroupIsShut 32 = .ok (.if_icmp .ge 7, 3) := by decide +kernel
theorem dX3_nextGroupIsShut_35 : decode cX3_nextGroupIsShut 35 = .ok (.iconst 1, 1) := by decide +kernel
theorem dX3_nextGroupIsShut_36 : decode cX3_nextGroupIsShut 36 = .ok (.goto 4, 3) := by decide +kernel
theorem dX3_nextGroupIsShut_39 : decode cX3_nextGroupIsShut 39 = .ok (.iconst 0, 1) := by decide +kernel
theorem dX3_nextGroupIsShut_40 : decode cX3_nextGroupIsShut 40 = .ok (.ireturn, 1) := by decide +kernel
theorem dX3_shutGroup_0 : decode cX3_shutGroup 0 = .ok (.aload_n 0, 1) := by decide +kernel
theorem dX3_shutGroup_1 : decode cX3_shutGroup 1 = .ok (.getfield 48, 3) := by decide +kernel
theorem dX3_shutGroup_4 : decode cX3_shutGroup 4 = .ok (.invokevirtual 203, 3) := by decide +kernel
theorem dX3_shutGroup_7 : decode cX3_shutGroup 7 = .ok (.istore_n 1, 1) := by decide +kernel
theorem dX3_shutGroup_8 : decode cX3_shutGroup 8 = .ok (.aload_n 0, 1) := by decide +kernel
theorem dX3_shutGroup_9 : decode cX3_shutGroup 9 = .ok (.getfield 39, 3) := by decide +kernel
theorem dX3_shutGroup_12 : decode cX3_shutGroup 12 = .ok (.iload_n 1, 1) := by decide +kernel
theorem dX3_shutGroup_13 : decode cX3_shutGroup 13 = .ok (.aload_n 0, 1) := by decide +kernel
theorem dX3_shutGroup_14 : decode cX3_shutGroup 14 = .ok (.getfield 123, 3) := by decide +kernel
theorem dX3_shutGroup_17 : decode cX3_shutGroup 17 = .ok (.aload_n 0, 1) := by decide +kernel
theorem dX3_shutGroup_18 : decode cX3_shutGroup 18 = .ok (.getfield 29, 3) := by decide +kernel
theorem dX3_shutGroup_21 : decode cX3_shutGroup 21 = .ok (.iconst 1, 1) := by decide +kernel
theorem dX3_shutGroup_22 : decode cX3_shutGroup 22 = .ok (.iaload, 1) := by decide +kernel
theorem dX3_shutGroup_23 : decode cX3_shutGroup 23 = .ok (.invokevirtual 160, 3) := by decide +kernel
theorem dX3_shutGroup_26 : decode cX3_shutGroup 26 = .ok (.istore_n 2, 1) := by decide +kernel
theorem dX3_shutGroup_27 : decode cX3_shutGroup 27 = .ok (.aload_n 0, 1) := by decide +kernel
theorem dX3_shutGroup_28 : decode cX3_shutGroup 28 = .ok (.getfield 39, 3) := by decide +kernel
theorem dX3_shutGroup_31 : decode cX3_shutGroup 31 = .ok (.iload_n 1, 1) := by decide +kernel
theorem dX3_shutGroup_32 : decode cX3_shutGroup 32 = .ok (.iload_n 2, 1) := by decide +kernel
theorem dX3_shutGroup_33 : decode cX3_shutGroup 33 = .ok (.aload_n 0, 1) := by decide +kernel
theorem dX3_shutGroup_34 : decode cX3_shutGroup 34 = .ok (.getfield 55, 3) := by decide +kernel
theorem dX3_shutGroup_37 : decode cX3_shutGroup 37 = .ok (.getfield 236, 3) := by decide +kernel
theorem dX3_shutGroup_40 : decode cX3_shutGroup 40 = .ok (.invokevirtual 239, 3) := by decide +kernel
theorem dX3_shutGroup_43 : decode cX3_shutGroup 43 = .ok (.aload_n 0, 1) := by decide +kernel
theorem dX3_shutGroup_44 : decode cX3_shutGroup 44 = .ok (.getfield 55, 3) := by decide +kernel
theorem dX3_shutGroup_47 : decode cX3_shutGroup 47 = .ok (.aload_n 0, 1) := by decide +kernel
theorem dX3_shutGroup_48 : decode cX3_shutGroup 48 = .ok (.getfield 29, 3) := by decide +kernel
theorem dX3_shutGroup_51 : decode cX3_shutGroup 51 = .ok (.iconst 3, 1) := by decide +kernel
theorem dX3_shutGroup_52 : decode cX3_shutGroup 52 = .ok (.iaload, 1) := by decide +kernel
theorem dX3_shutGroup_53 : decode cX3_shutGroup 53 = .ok (.aload_n 0, 1) := by decide +kernel
theorem dX3_shutGroup_54 : decode cX3_shutGroup 54 = .ok (.getfield 29, 3) := by decide +kernel
theorem dX3_shutGroup_57 : decode cX3_shutGroup 57 = .ok (.iconst 2, 1) := by decide +kernel
theorem dX3_shutGroup_58 : decode cX3_shutGroup 58 = .ok (.iaload, 1) := by decide +kernel
theorem dX3_shutGroup_59 : decode cX3_shutGroup 59 = .ok (.invokevirtual 243, 3) := by decide +kernel
theorem dX3_shutGroup_62 : decode cX3_shutGroup 62 = .ok (.aload_n 0, 1) := by decide +kernel
theorem dX3_shutGroup_63 : decode cX3_shutGroup 63 = .ok (.getfield 48, 3) := by decide +kernel
theorem dX3_shutGroup_66 : decode cX3_shutGroup 66 = .ok (.iload_n 2, 1) := by decide +kernel
theorem dX3_shutGroup_67 : decode cX3_shutGroup 67 = .ok (.aload_n 0, 1) := by decide +kernel
theorem dX3_shutGroup_68 : decode cX3_shutGroup 68 = .ok (.getfield 39, 3) := by decide +kernel
theorem dX3_shutGroup_71 : decode cX3_shutGroup 71 = .ok (.iload_n 1, 1) := by decide +kernel
theorem dX3_shutGroup_72 : decode cX3_shutGroup 72 = .ok (.iload_n 2, 1) := by decide +kernel
theorem dX3_shutGroup_73 : decode cX3_shutGroup 73 = .ok (.invokevirtual 163, 3) := by decide +kernel
theorem dX3_shutGroup_76 : decode cX3_shutGroup 76 = .ok (.aload_n 0, 1) := by decide +kernel
theorem dX3_shutGroup_77 : decode cX3_shutGroup 77 = .ok (.getfield 55, 3) := by decide +kernel
theorem dX3_shutGroup_80 : decode cX3_shutGroup 80 = .ok (.invokevirtual 247, 3) := by decide +kernel
theorem dX3_shutGroup_83 : decode cX3_shutGroup 83 = .ok (.return_, 1) := by decide +kernel
theorem dX3_liveOf_0 : decode cX3_liveOf 0 = .ok (.aload_n 0, 1) := by decide +kernel
theorem dX3_liveOf_1 : decode cX3_liveOf 1 = .ok (.getfield 39, 3) := by decide +kernel
theorem dX3_liveOf_4 : decode cX3_liveOf 4 = .ok (.iload_n 1, 1) := by decide +kernel
theorem dX3_liveOf_5 : decode cX3_liveOf 5 = .ok (.aload_n 0, 1) := by decide +kernel
theorem dX3_liveOf_6 : decode cX3_liveOf 6 = .ok (.getfield 39, 3) := by decide +kernel
theorem dX3_liveOf_9 : decode cX3_liveOf 9 = .ok (.getfield 74, 3) := by decide +kernel
theorem dX3_liveOf_12 : decode cX3_liveOf 12 = .ok (.invokevirtual 78, 3) := by decide +kernel
theorem dX3_liveOf_15 : decode cX3_liveOf 15 = .ok (.ireturn, 1) := by decide +kernel
theorem dX3_isCoincidence_0 : decode cX3_isCoincidence 0 = .ok (.iload_n 1, 1) := by decide +kernel
theorem dX3_isCoincidence_1 : decode cX3_isCoincidence 1 = .ok (.invokestatic 138, 3) := by decide +kernel
theorem dX3_isCoincidence_4 : decode cX3_isCoincidence 4 = .ok (.aload_n 0, 1) := by decide +kernel
theorem dX3_isCoincidence_5 : decode cX3_isCoincidence 5 = .ok (.getfield 29, 3) := by decide +kernel
theorem dX3_isCoincidence_8 : decode cX3_isCoincidence 8 = .ok (.iconst 2, 1) := by decide +kernel
theorem dX3_isCoincidence_9 : decode cX3_isCoincidence 9 = .ok (.iaload, 1) := by decide +kernel
theorem dX3_isCoincidence_10 : decode cX3_isCoincidence 10 = .ok (.if_icmp .lt 7, 3) := by decide +kernel
theorem dX3_isCoincidence_13 : decode cX3_isCoincidence 13 = .ok (.iconst 1, 1) := by decide +kernel
theorem dX3_isCoincidence_14 : decode cX3_isCoincidence 14 = .ok (.goto 4, 3) := by decide +kernel
theorem dX3_isCoincidence_17 : decode cX3_isCoincidence 17 = .ok (.iconst 0, 1) := by decide +kernel
theorem dX3_isCoincidence_18 : decode cX3_isCoincidence 18 = .ok (.ireturn, 1) := by decide +kernel
theorem dX3_coincidences_0 : decode cX3_coincidences 0 = .ok (.iconst 0, 1) := by decide +kernel
theorem dX3_coincidences_1 : decode cX3_coincidences 1 = .ok (.istore_n 1, 1) := by decide +kernel
theorem dX3_coincidences_2 : decode cX3_coincidences 2 = .ok (.iconst 0, 1) := by decide +kernel
theorem dX3_coincidences_3 : decode cX3_coincidences 3 = .ok (.istore_n 2, 1) := by decide +kernel
theorem dX3_coincidences_4 : decode cX3_coincidences 4 = .ok (.iload_n 2, 1) := by decide +kernel
theorem dX3_coincidences_5 : decode cX3_coincidences 5 = .ok (.aload_n 0, 1) := by decide +kernel
theorem dX3_coincidences_6 : decode cX3_coincidences 6 = .ok (.getfield 48, 3) := by decide +kernel
theorem dX3_coincidences_9 : decode cX3_coincidences 9 = .ok (.getfield 116, 3) := by decide +kernel
theorem dX3_coincidences_12 : decode cX3_coincidences 12 = .ok (.if_icmp .ge 28, 3) := by decide +kernel
theorem dX3_coincidences_15 : decode cX3_coincidences 15 = .ok (.aload_n 0, 1) := by decide +kernel
theorem dX3_coincidences_16 : decode cX3_coincidences 16 = .ok (.aload_n 0, 1) := by decide +kernel
theorem dX3_coincidences_17 : decode cX3_coincidences 17 = .ok (.getfield 48, 3) := by decide +kernel
theorem dX3_coincidences_20 : decode cX3_coincidences 20 = .ok (.getfield 135, 3) := by decide +kernel
theorem dX3_coincidences_23 : decode cX3_coincidences 23 = .ok (.iload_n 2, 1) := by decide +kernel
theorem dX3_coincidences_24 : decode cX3_coincidences 24 = .ok (.iaload, 1) := by decide +kernel
theorem dX3_coincidences_25 : decode cX3_coincidences 25 = .ok (.invokevirtual 166, 3) := by decide +kernel
theorem dX3_coincidences_28 : decode cX3_coincidences 28 = .ok (.ifCond .eq 6, 3) := by decide +kernel
theorem dX3_coincidences_31 : decode cX3_coincidences 31 = .ok (.iinc 1 1, 3) := by decide +kernel
theorem dX3_coincidences_34 : decode cX3_coincidences 34 = .ok (.iinc 2 1, 3) := by decide +kernel
theorem dX3_coincidences_37 : decode cX3_coincidences 37 = .ok (.goto (-33), 3) := by decide +kernel
theorem dX3_coincidences_40 : decode cX3_coincidences 40 = .ok (.iload_n 1, 1) := by decide +kernel
theorem dX3_coincidences_41 : decode cX3_coincidences 41 = .ok (.ireturn, 1) := by decide +kernel
theorem dX3_liveTime_0 : decode cX3_liveTime 0 = .ok (.aload_n 0, 1) := by decide +kernel
theorem dX3_liveTime_1 : decode cX3_liveTime 1 = .ok (.getfield 18, 3) := by decide +kernel
theorem dX3_liveTime_4 : decode cX3_liveTime 4 = .ok (.iload_n 1, 1) := by decide +kernel
theorem dX3_liveTime_5 : decode cX3_liveTime 5 = .ok (.iaload, 1) := by decide +kernel
theorem dX3_liveTime_6 : decode cX3_liveTime 6 = .ok (.ifCond .ne 7, 3) := by decide +kernel
theorem dX3_liveTime_9 : decode cX3_liveTime 9 = .ok (.iconst 1, 1) := by decide +kernel
theorem dX3_liveTime_10 : decode cX3_liveTime 10 = .ok (.goto 4, 3) := by decide +kernel
theorem dX3_liveTime_13 : decode cX3_liveTime 13 = .ok (.iconst 0, 1) := by decide +kernel
theorem dX3_liveTime_14 : decode cX3_liveTime 14 = .ok (.istore_n 2, 1) := by decide +kernel
theorem dX3_liveTime_15 : decode cX3_liveTime 15 = .ok (.iload_n 2, 1) := by decide +kernel
theorem dX3_liveTime_16 : decode cX3_liveTime 16 = .ok (.ifCond .eq 10, 3) := by decide +kernel
theorem dX3_liveTime_19 : decode cX3_liveTime 19 = .ok (.aload_n 0, 1) := by decide +kernel
theorem dX3_liveTime_20 : decode cX3_liveTime 20 = .ok (.getfield 39, 3) := by decide +kernel
theorem dX3_liveTime_23 : decode cX3_liveTime 23 = .ok (.goto 7, 3) := by decide +kernel
theorem dX3_liveTime_26 : decode cX3_liveTime 26 = .ok (.aload_n 0, 1) := by decide +kernel
theorem dX3_liveTime_27 : decode cX3_liveTime 27 = .ok (.getfield 35, 3) := by decide +kernel
theorem dX3_liveTime_30 : decode cX3_liveTime 30 = .ok (.astore_n 3, 1) := by decide +kernel
theorem dX3_liveTime_31 : decode cX3_liveTime 31 = .ok (.iload_n 2, 1) := by decide +kernel
theorem dX3_liveTime_32 : decode cX3_liveTime 32 = .ok (.ifCond .eq 12, 3) := by decide +kernel
theorem dX3_liveTime_35 : decode cX3_liveTime 35 = .ok (.aload_n 0, 1) := by decide +kernel
theorem dX3_liveTime_36 : decode cX3_liveTime 36 = .ok (.getfield 11, 3) := by decide +kernel
theorem dX3_liveTime_39 : decode cX3_liveTime 39 = .ok (.iload_n 1, 1) := by decide +kernel
theorem dX3_liveTime_40 : decode cX3_liveTime 40 = .ok (.iaload, 1) := by decide +kernel
theorem dX3_liveTime_41 : decode cX3_liveTime 41 = .ok (.goto 4, 3) := by decide +kernel
theorem dX3_liveTime_44 : decode cX3_liveTime 44 = .ok (.iconst 0, 1) := by decide +kernel
theorem dX3_liveTime_45 : decode cX3_liveTime 45 = .ok (.istore 4, 2) := by decide +kernel
theorem dX3_liveTime_47 : decode cX3_liveTime 47 = .ok (.iconst 0, 1) := by decide +kernel
theorem dX3_liveTime_48 : decode cX3_liveTime 48 = .ok (.istore 5, 2) := by decide +kernel
theorem dX3_liveTime_50 : decode cX3_liveTime 50 = .ok (.iconst 0, 1) := by decide +kernel
theorem dX3_liveTime_51 : decode cX3_liveTime 51 = .ok (.istore 6, 2) := by decide +kernel
theorem dX3_liveTime_53 : decode cX3_liveTime 53 = .ok (.iconst 0, 1) := by decide +kernel
theorem dX3_liveTime_54 : decode cX3_liveTime 54 = .ok (.istore 7, 2) := by decide +kernel
theorem dX3_liveTime_56 : decode cX3_liveTime 56 = .ok (.iload 7, 2) := by decide +kernel
theorem dX3_liveTime_58 : decode cX3_liveTime 58 = .ok (.aload_n 3, 1) := by decide +kernel
theorem dX3_liveTime_59 : decode cX3_liveTime 59 = .ok (.getfield 74, 3) := by decide +kernel
theorem dX3_liveTime_62 : decode cX3_liveTime 62 = .ok (.if_icmp .ge 60, 3) := by decide +kernel
theorem dX3_liveTime_65 : decode cX3_liveTime 65 = .ok (.aload_n 3, 1) := by decide +kernel
theorem dX3_liveTime_66 : decode cX3_liveTime 66 = .ok (.getfield 230, 3) := by decide +kernel
theorem dX3_liveTime_69 : decode cX3_liveTime 69 = .ok (.iload 7, 2) := by decide +kernel
theorem dX3_liveTime_71 : decode cX3_liveTime 71 = .ok (.iaload, 1) := by decide +kernel
theorem dX3_liveTime_72 : decode cX3_liveTime 72 = .ok (.iload_n 1, 1) := by decide +kernel
theorem dX3_liveTime_73 : decode cX3_liveTime 73 = .ok (.if_icmp .eq 6, 3) := by decide +kernel
theorem dX3_liveTime_76 : decode cX3_liveTime 76 = .ok (.goto 40, 3) := by decide +kernel
theorem dX3_liveTime_79 : decode cX3_liveTime 79 = .ok (.aload_n 3, 1) := by decide +kernel
theorem dX3_liveTime_80 : decode cX3_liveTime 80 = .ok (.getfield 150, 3) := by decide +kernel
theorem dX3_liveTime_83 : decode cX3_liveTime 83 = .ok (.iload 7, 2) := by decide +kernel
theorem dX3_liveTime_85 : decode cX3_liveTime 85 = .ok (.iaload, 1) := by decide +kernel
theorem dX3_liveTime_86 : decode cX3_liveTime 86 = .ok (.iload 4, 2) := by decide +kernel
theorem dX3_liveTime_88 : decode cX3_liveTime 88 = .ok (.iadd, 1) := by decide +kernel
theorem dX3_liveTime_89 : decode cX3_liveTime 89 = .ok (.istore 8, 2) := by decide +kernel
theorem dX3_liveTime_91 : decode cX3_liveTime 91 = .ok (.iload 5, 2) := by decide +kernel
theorem dX3_liveTime_93 : decode cX3_liveTime 93 = .ok (.iconst 0, 1) := by decide +kernel
theorem dX3_liveTime_94 : decode cX3_liveTime 94 = .ok (.iload 8, 2) := by decide +kernel
theorem dX3_liveTime_96 : decode cX3_liveTime 96 = .ok (.iload 6, 2) := by decide +kernel
theorem dX3_liveTime_98 : decode cX3_liveTime 98 = .ok (.isub, 1) := by decide +kernel
theorem dX3_liveTime_99 : decode cX3_liveTime 99 = .ok (.invokestatic 215, 3) := by decide +kernel
theorem dX3_liveTime_102 : decode cX3_liveTime 102 = .ok (.iadd, 1) := by decide +kernel
theorem dX3_liveTime_103 : decode cX3_liveTime 103 = .ok (.istore 5, 2) := by decide +kernel
theorem dX3_liveTime_105 : decode cX3_liveTime 105 = .ok (.iload 8, 2) := by decide +kernel
theorem dX3_liveTime_107 : decode cX3_liveTime 107 = .ok (.aload_n 0, 1) := by decide +kernel
theorem dX3_liveTime_108 : decode cX3_liveTime 108 = .ok (.getfield 15, 3) := by decide +kernel
theorem dX3_liveTime_111 : decode cX3_liveTime 111 = .ok (.iload_n 1, 1) := by decide +kernel
theorem dX3_liveTime_112 : decode cX3_liveTime 112 = .ok (.iaload, 1) := by decide +kernel
theorem dX3_liveTime_113 : decode cX3_liveTime 113 = .ok (.iadd, 1) := by decide +kernel
theorem dX3_liveTime_114 : decode cX3_liveTime 114 = .ok (.istore 6, 2) := by decide +kernel
theorem dX3_liveTime_116 : decode cX3_liveTime 116 = .ok (.iinc 7 1, 3) := by decide +kernel
theorem dX3_liveTime_119 : decode cX3_liveTime 119 = .ok (.goto (-63), 3) := by decide +kernel
theorem dX3_liveTime_122 : decode cX3_liveTime 122 = .ok (.iload 5, 2) := by decide +kernel
theorem dX3_liveTime_124 : decode cX3_liveTime 124 = .ok (.iconst 0, 1) := by decide +kernel
theorem dX3_liveTime_125 : decode cX3_liveTime 125 = .ok (.aload_n 0, 1) := by decide +kernel
theorem dX3_liveTime_126 : decode cX3_liveTime 126 = .ok (.invokevirtual 182, 3) := by decide +kernel
theorem dX3_liveTime_129 : decode cX3_liveTime 129 = .ok (.iload 6, 2) := by decide +kernel
theorem dX3_liveTime_131 : decode cX3_liveTime 131 = .ok (.isub, 1) := by decide +kernel
theorem dX3_liveTime_132 : decode cX3_liveTime 132 = .ok (.invokestatic 215, 3) := by decide +kernel
theorem dX3_liveTime_135 : decode cX3_liveTime 135 = .ok (.iadd, 1) := by decide +kernel
theorem dX3_liveTime_136 : decode cX3_liveTime 136 = .ok (.ireturn, 1) := by decide +kernel
theorem dX3_inLeastTerms_0 : decode cX3_inLeastTerms 0 = .ok (.lload_n 0, 1) := by decide +kernel
theorem dX3_inLeastTerms_1 : decode cX3_inLeastTerms 1 = .ok (.lload_n 2, 1) := by decide +kernel
theorem dX3_inLeastTerms_2 : decode cX3_inLeastTerms 2 = .ok (.invokestatic 251, 3) := by decide +kernel
theorem dX3_inLeastTerms_5 : decode cX3_inLeastTerms 5 = .ok (.lstore 5, 2) := by decide +kernel
theorem dX3_inLeastTerms_7 : decode cX3_inLeastTerms 7 = .ok (.lload_n 2, 1) := by decide +kernel
theorem dX3_inLeastTerms_8 : decode cX3_inLeastTerms 8 = .ok (.lconst 0, 1) := by decide +kernel
theorem dX3_inLeastTerms_9 : decode cX3_inLeastTerms 9 = .ok (.lcmp, 1) := by decide +kernel
theorem dX3_inLeastTerms_10 : decode cX3_inLeastTerms 10 = .ok (.ifCond .le 10, 3) := by decide +kernel
theorem dX3_inLeastTerms_13 : decode cX3_inLeastTerms 13 = .ok (.lload 5, 2) := by decide +kernel
theorem dX3_inLeastTerms_15 : decode cX3_inLeastTerms 15 = .ok (.lconst 0, 1) := by decide +kernel
theorem dX3_inLeastTerms_16 : decode cX3_inLeastTerms 16 = .ok (.lcmp, 1) := by decide +kernel
theorem dX3_inLeastTerms_17 : decode cX3_inLeastTerms 17 = .ok (.ifCond .gt 7, 3) := by decide +kernel
theorem dX3_inLeastTerms_20 : decode cX3_inLeastTerms 20 = .ok (.ldc2_w 176, 3) := by decide +kernel
theorem dX3_inLeastTerms_23 : decode cX3_inLeastTerms 23 = .ok (.lreturn, 1) := by decide +kernel
theorem dX3_inLeastTerms_24 : decode cX3_inLeastTerms 24 = .ok (.iload 4, 2) := by decide +kernel
theorem dX3_inLeastTerms_26 : decode cX3_inLeastTerms 26 = .ok (.ifCond .ne 7, 3) := by decide +kernel
theorem dX3_inLeastTerms_29 : decode cX3_inLeastTerms 29 = .ok (.lload_n 0, 1) := by decide +kernel
theorem dX3_inLeastTerms_30 : decode cX3_inLeastTerms 30 = .ok (.goto 4, 3) := by decide +kernel
theorem dX3_inLeastTerms_33 : decode cX3_inLeastTerms 33 = .ok (.lload_n 2, 1) := by decide +kernel
theorem dX3_inLeastTerms_34 : decode cX3_inLeastTerms 34 = .ok (.lload 5, 2) := by decide +kernel
theorem dX3_inLeastTerms_36 : decode cX3_inLeastTerms 36 = .ok (.ldiv, 1) := by decide +kernel
theorem dX3_inLeastTerms_37 : decode cX3_inLeastTerms 37 = .ok (.lreturn, 1) := by decide +kernel
theorem dX3_greatestDivisor_0 : decode cX3_greatestDivisor 0 = .ok (.iconst 0, 1) := by decide +kernel
theorem dX3_greatestDivisor_1 : decode cX3_greatestDivisor 1 = .ok (.istore 4, 2) := by decide +kernel
theorem dX3_greatestDivisor_3 : decode cX3_greatestDivisor 3 = .ok (.iload 4, 2) := by decide +kernel
theorem dX3_greatestDivisor_5 : decode cX3_greatestDivisor 5 = .ok (.bipush 100, 2) := by decide +kernel
theorem dX3_greatestDivisor_7 : decode cX3_greatestDivisor 7 = .ok (.if_icmp .ge 25, 3) := by decide +kernel
theorem dX3_greatestDivisor_10 : decode cX3_greatestDivisor 10 = .ok (.lload_n 2, 1) := by decide +kernel
theorem dX3_greatestDivisor_11 : decode cX3_greatestDivisor 11 = .ok (.lconst 0, 1) := by decide +kernel
theorem dX3_greatestDivisor_12 : decode cX3_greatestDivisor 12 = .ok (.lcmp, 1) := by decide +kernel
theorem dX3_greatestDivisor_13 : decode cX3_greatestDivisor 13 = .ok (.ifCond .le 19, 3) := by decide +kernel
theorem dX3_greatestDivisor_16 : decode cX3_greatestDivisor 16 = .ok (.lload_n 0, 1) := by decide +kernel
theorem dX3_greatestDivisor_17 : decode cX3_greatestDivisor 17 = .ok (.lload_n 2, 1) := by decide +kernel
theorem dX3_greatestDivisor_18 : decode cX3_greatestDivisor 18 = .ok (.lrem, 1) := by decide +kernel
theorem dX3_greatestDivisor_19 : decode cX3_greatestDivisor 19 = .ok (.lstore 5, 2) := by decide +kernel
theorem dX3_greatestDivisor_21 : decode cX3_greatestDivisor 21 = .ok (.lload_n 2, 1) := by decide +kernel
theorem dX3_greatestDivisor_22 : decode cX3_greatestDivisor 22 = .ok (.lstore_n 0, 1) := by decide +kernel
theorem dX3_greatestDivisor_23 : decode cX3_greatestDivisor 23 = .ok (.lload 5, 2) := by decide +kernel
theorem dX3_greatestDivisor_25 : decode cX3_greatestDivisor 25 = .ok (.lstore_n 2, 1) := by decide +kernel
theorem dX3_greatestDivisor_26 : decode cX3_greatestDivisor 26 = .ok (.iinc 4 1, 3) := by decide +kernel
theorem dX3_greatestDivisor_29 : decode cX3_greatestDivisor 29 = .ok (.goto (-26), 3) := by decide +kernel
theorem dX3_greatestDivisor_32 : decode cX3_greatestDivisor 32 = .ok (.lload_n 0, 1) := by decide +kernel
theorem dX3_greatestDivisor_33 : decode cX3_greatestDivisor 33 = .ok (.lreturn, 1) := by decide +kernel
theorem dJ6_bitCount_0f7a4_0 : decode cJ6_bitCount_0f7a4 0 = .ok (.iload_n 0, 1) := by decide +kernel
theorem dJ6_bitCount_0f7a4_1 : decode cJ6_bitCount_0f7a4 1 = .ok (.iload_n 0, 1) := by decide +kernel
theorem dJ6_bitCount_0f7a4_2 : decode cJ6_bitCount_0f7a4 2 = .ok (.iconst 1, 1) := by decide +kernel
theorem dJ6_bitCount_0f7a4_3 : decode cJ6_bitCount_0f7a4 3 = .ok (.iushr, 1) := by decide +kernel
theorem dJ6_bitCount_0f7a4_4 : decode cJ6_bitCount_0f7a4 4 = .ok (.ldc_w 265, 3) := by decide +kernel
theorem dJ6_bitCount_0f7a4_7 : decode cJ6_bitCount_0f7a4 7 = .ok (.iand, 1) := by decide +kernel
theorem dJ6_bitCount_0f7a4_8 : decode cJ6_bitCount_0f7a4 8 = .ok (.isub, 1) := by decide +kernel
theorem dJ6_bitCount_0f7a4_9 : decode cJ6_bitCount_0f7a4 9 = .ok (.istore_n 0, 1) := by decide +kernel
theorem dJ6_bitCount_0f7a4_10 : decode cJ6_bitCount_0f7a4 10 = .ok (.iload_n 0, 1) := by decide +kernel
theorem dJ6_bitCount_0f7a4_11 : decode cJ6_bitCount_0f7a4 11 = .ok (.ldc_w 266, 3) := by decide +kernel
theorem dJ6_bitCount_0f7a4_14 : decode cJ6_bitCount_0f7a4 14 = .ok (.iand, 1) := by decide +kernel
theorem dJ6_bitCount_0f7a4_15 : decode cJ6_bitCount_0f7a4 15 = .ok (.iload_n 0, 1) := by decide +kernel
theorem dJ6_bitCount_0f7a4_16 : decode cJ6_bitCount_0f7a4 16 = .ok (.iconst 2, 1) := by decide +kernel
theorem dJ6_bitCount_0f7a4_17 : decode cJ6_bitCount_0f7a4 17 = .ok (.iushr, 1) := by decide +kernel
theorem dJ6_bitCount_0f7a4_18 : decode cJ6_bitCount_0f7a4 18 = .ok (.ldc_w 266, 3) := by decide +kernel
theorem dJ6_bitCount_0f7a4_21 : decode cJ6_bitCount_0f7a4 21 = .ok (.iand, 1) := by decide +kernel
theorem dJ6_bitCount_0f7a4_22 : decode cJ6_bitCount_0f7a4 22 = .ok (.iadd, 1) := by decide +kernel
theorem dJ6_bitCount_0f7a4_23 : decode cJ6_bitCount_0f7a4 23 = .ok (.istore_n 0, 1) := by decide +kernel
theorem dJ6_bitCount_0f7a4_24 : decode cJ6_bitCount_0f7a4 24 = .ok (.iload_n 0, 1) := by decide +kernel
theorem dJ6_bitCount_0f7a4_25 : decode cJ6_bitCount_0f7a4 25 = .ok (.iload_n 0, 1) := by decide +kernel
theorem dJ6_bitCount_0f7a4_26 : decode cJ6_bitCount_0f7a4 26 = .ok (.iconst 4, 1) := by decide +kernel
theorem dJ6_bitCount_0f7a4_27 : decode cJ6_bitCount_0f7a4 27 = .ok (.iushr, 1) := by decide +kernel
theorem dJ6_bitCount_0f7a4_28 : decode cJ6_bitCount_0f7a4 28 = .ok (.iadd, 1) := by decide +kernel
theorem dJ6_bitCount_0f7a4_29 : decode cJ6_bitCount_0f7a4 29 = .ok (.ldc_w 267, 3) := by decide +kernel
theorem dJ6_bitCount_0f7a4_32 : decode cJ6_bitCount_0f7a4 32 = .ok (.iand, 1) := by decide +kernel
theorem dJ6_bitCount_0f7a4_33 : decode cJ6_bitCount_0f7a4 33 = .ok (.istore_n 0, 1) := by decide +kernel
theorem dJ6_bitCount_0f7a4_34 : decode cJ6_bitCount_0f7a4 34 = .ok (.iload_n 0, 1) := by decide +kernel
theorem dJ6_bitCount_0f7a4_35 : decode cJ6_bitCount_0f7a4 35 = .ok (.iload_n 0, 1) := by decide +kernel
theorem dJ6_bitCount_0f7a4_36 : decode cJ6_bitCount_0f7a4 36 = .ok (.bipush 8, 2) := by decide +kernel
theorem dJ6_bitCount_0f7a4_38 : decode cJ6_bitCount_0f7a4 38 = .ok (.iushr, 1) := by decide +kernel
theorem dJ6_bitCount_0f7a4_39 : decode cJ6_bitCount_0f7a4 39 = .ok (.iadd, 1) := by decide +kernel
theorem dJ6_bitCount_0f7a4_40 : decode cJ6_bitCount_0f7a4 40 = .ok (.istore_n 0, 1) := by decide +kernel
theorem dJ6_bitCount_0f7a4_41 : decode cJ6_bitCount_0f7a4 41 = .ok (.iload_n 0, 1) := by decide +kernel
theorem dJ6_bitCount_0f7a4_42 : decode cJ6_bitCount_0f7a4 42 = .ok (.iload_n 0, 1) := by decide +kernel
theorem dJ6_bitCount_0f7a4_43 : decode cJ6_bitCount_0f7a4 43 = .ok (.bipush 16, 2) := by decide +kernel
theorem dJ6_bitCount_0f7a4_45 : decode cJ6_bitCount_0f7a4 45 = .ok (.iushr, 1) := by decide +kernel
theorem dJ6_bitCount_0f7a4_46 : decode cJ6_bitCount_0f7a4 46 = .ok (.iadd, 1) := by decide +kernel
theorem dJ6_bitCount_0f7a4_47 : decode cJ6_bitCount_0f7a4 47 = .ok (.istore_n 0, 1) := by decide +kernel
theorem dJ6_bitCount_0f7a4_48 : decode cJ6_bitCount_0f7a4 48 = .ok (.iload_n 0, 1) := by decide +kernel
theorem dJ6_bitCount_0f7a4_49 : decode cJ6_bitCount_0f7a4 49 = .ok (.bipush 63, 2) := by decide +kernel
theorem dJ6_bitCount_0f7a4_51 : decode cJ6_bitCount_0f7a4 51 = .ok (.iand, 1) := by decide +kernel
theorem dJ6_bitCount_0f7a4_52 : decode cJ6_bitCount_0f7a4 52 = .ok (.ireturn, 1) := by decide +kernel
theorem dJ9_abs_0f7a4_0 : decode cJ9_abs_0f7a4 0 = .ok (.iload_n 0, 1) := by decide +kernel
theorem dJ9_abs_0f7a4_1 : decode cJ9_abs_0f7a4 1 = .ok (.ifCond .ge 8, 3) := by decide +kernel
theorem dJ9_abs_0f7a4_4 : decode cJ9_abs_0f7a4 4 = .ok (.iload_n 0, 1) := by decide +kernel
theorem dJ9_abs_0f7a4_5 : decode cJ9_abs_0f7a4 5 = .ok (.ineg, 1) := by decide +kernel
theorem dJ9_abs_0f7a4_6 : decode cJ9_abs_0f7a4 6 = .ok (.goto 4, 3) := by decide +kernel
theorem dJ9_abs_0f7a4_9 : decode cJ9_abs_0f7a4 9 = .ok (.iload_n 0, 1) := by decide +kernel
theorem dJ9_abs_0f7a4_10 : decode cJ9_abs_0f7a4 10 = .ok (.ireturn, 1) := by decide +kernel
theorem dJ9_max_7cf53_0 : decode cJ9_max_7cf53 0 = .ok (.iload_n 0, 1) := by decide +kernel
theorem dJ9_max_7cf53_1 : decode cJ9_max_7cf53 1 = .ok (.iload_n 1, 1) := by decide +kernel
theorem dJ9_max_7cf53_2 : decode cJ9_max_7cf53 2 = .ok (.if_icmp .lt 7, 3) := by decide +kernel
theorem dJ9_max_7cf53_5 : decode cJ9_max_7cf53 5 = .ok (.iload_n 0, 1) := by decide +kernel
theorem dJ9_max_7cf53_6 : decode cJ9_max_7cf53 6 = .ok (.goto 4, 3) := by decide +kernel
theorem dJ9_max_7cf53_9 : decode cJ9_max_7cf53 9 = .ok (.iload_n 1, 1) := by decide +kernel
theorem dJ9_max_7cf53_10 : decode cJ9_max_7cf53 10 = .ok (.ireturn, 1) := by decide +kernel
theorem dJ9_min_7cf53_0 : decode cJ9_min_7cf53 0 = .ok (.iload_n 0, 1) := by decide +kernel
theorem dJ9_min_7cf53_1 : decode cJ9_min_7cf53 1 = .ok (.iload_n 1, 1) := by decide +kernel
theorem dJ9_min_7cf53_2 : decode cJ9_min_7cf53 2 = .ok (.if_icmp .gt 7, 3) := by decide +kernel
theorem dJ9_min_7cf53_5 : decode cJ9_min_7cf53 5 = .ok (.iload_n 0, 1) := by decide +kernel
theorem dJ9_min_7cf53_6 : decode cJ9_min_7cf53 6 = .ok (.goto 4, 3) := by decide +kernel
theorem dJ9_min_7cf53_9 : decode cJ9_min_7cf53 9 = .ok (.iload_n 1, 1) := by decide +kernel
theorem dJ9_min_7cf53_10 : decode cJ9_min_7cf53 10 = .ok (.ireturn, 1) := by decide +kernel
theorem dJ7_fill_53178_0 : decode cJ7_fill_53178 0 = .ok (.iconst 0, 1) := by decide +kernel
theorem dJ7_fill_53178_1 : decode cJ7_fill_53178 1 = .ok (.istore_n 2, 1) := by decide +kernel
theorem dJ7_fill_53178_2 : decode cJ7_fill_53178 2 = .ok (.aload_n 0, 1) := by decide +kernel
theorem dJ7_fill_53178_3 : decode cJ7_fill_53178 3 = .ok (.arraylength, 1) := by decide +kernel
theorem dJ7_fill_53178_4 : decode cJ7_fill_53178 4 = .ok (.istore_n 3, 1) := by decide +kernel
theorem dJ7_fill_53178_5 : decode cJ7_fill_53178 5 = .ok (.iload_n 2, 1) := by decide +kernel
theorem dJ7_fill_53178_6 : decode cJ7_fill_53178 6 = .ok (.iload_n 3, 1) := by decide +kernel
theorem dJ7_fill_53178_7 : decode cJ7_fill_53178 7 = .ok (.if_icmp .ge 13, 3) := by decide +kernel
theorem dJ7_fill_53178_10 : decode cJ7_fill_53178 10 = .ok (.aload_n 0, 1) := by decide +kernel
theorem dJ7_fill_53178_11 : decode cJ7_fill_53178 11 = .ok (.iload_n 2, 1) := by decide +kernel
theorem dJ7_fill_53178_12 : decode cJ7_fill_53178 12 = .ok (.iload_n 1, 1) := by decide +kernel
theorem dJ7_fill_53178_13 : decode cJ7_fill_53178 13 = .ok (.iastore, 1) := by decide +kernel
theorem dJ7_fill_53178_14 : decode cJ7_fill_53178 14 = .ok (.iinc 2 1, 3) := by decide +kernel
theorem dJ7_fill_53178_17 : decode cJ7_fill_53178 17 = .ok (.goto (-12), 3) := by decide +kernel
theorem dJ7_fill_53178_20 : decode cJ7_fill_53178 20 = .ok (.return_, 1) := by decide +kernel
theorem dL_cell_0 : decode cL_cell 0 = .ok (.iload_n 1, 1) := by decide +kernel
theorem dL_cell_1 : decode cL_cell 1 = .ok (.aload_n 0, 1) := by decide +kernel
theorem dL_cell_2 : decode cL_cell 2 = .ok (.arraylength, 1) := by decide +kernel
theorem dL_cell_3 : decode cL_cell 3 = .ok (.if_icmp .ge 9, 3) := by decide +kernel
theorem dL_cell_6 : decode cL_cell 6 = .ok (.aload_n 0, 1) := by decide +kernel
theorem dL_cell_7 : decode cL_cell 7 = .ok (.iload_n 1, 1) := by decide +kernel
theorem dL_cell_8 : decode cL_cell 8 = .ok (.iaload, 1) := by decide +kernel
theorem dL_cell_9 : decode cL_cell 9 = .ok (.goto 10, 3) := by decide +kernel
theorem dL_cell_12 : decode cL_cell 12 = .ok (.ldc 7, 2) := by decide +kernel
theorem dL_cell_14 : decode cL_cell 14 = .ok (.iload_n 1, 1) := by decide +kernel
theorem dL_cell_15 : decode cL_cell 15 = .ok (.imul, 1) := by decide +kernel
theorem dL_cell_16 : decode cL_cell 16 = .ok (.bipush 37, 2) := by decide +kernel
theorem dL_cell_18 : decode cL_cell 18 = .ok (.iadd, 1) := by decide +kernel
theorem dL_cell_19 : decode cL_cell 19 = .ok (.ireturn, 1) := by decide +kernel
theorem dL_low_0 : decode cL_low 0 = .ok (.iload_n 0, 1) := by decide +kernel
theorem dL_low_1 : decode cL_low 1 = .ok (.ldc 8, 2) := by decide +kernel
theorem dL_low_3 : decode cL_low 3 = .ok (.iand, 1) := by decide +kernel
theorem dL_low_4 : decode cL_low 4 = .ok (.iload_n 1, 1) := by decide +kernel
theorem dL_low_5 : decode cL_low 5 = .ok (.irem, 1) := by decide +kernel
theorem dL_low_6 : decode cL_low 6 = .ok (.ireturn, 1) := by decide +kernel
theorem dL_sets_0 : decode cL_sets 0 = .ok (.iconst 0, 1) := by decide +kernel
theorem dL_sets_1 : decode cL_sets 1 = .ok (.istore 5, 2) := by decide +kernel
theorem dL_sets_3 : decode cL_sets 3 = .ok (.iload 5, 2) := by decide +kernel
theorem dL_sets_5 : decode cL_sets 5 = .ok (.bipush 6, 2) := by decide +kernel
theorem dL_sets_7 : decode cL_sets 7 = .ok (.if_icmp .ge 108, 3) := by decide +kernel
theorem dL_sets_10 : decode cL_sets 10 = .ok (.aload_n 2, 1) := by decide +kernel
theorem dL_sets_11 : decode cL_sets 11 = .ok (.iload_n 3, 1) := by decide +kernel
theorem dL_sets_12 : decode cL_sets 12 = .ok (.iload 5, 2) := by decide +kernel
theorem dL_sets_14 : decode cL_sets 14 = .ok (.iadd, 1) := by decide +kernel
theorem dL_sets_15 : decode cL_sets 15 = .ok (.invokestatic 9, 3) := by decide +kernel
theorem dL_sets_18 : decode cL_sets 18 = .ok (.istore 6, 2) := by decide +kernel
theorem dL_sets_20 : decode cL_sets 20 = .ok (.iload 6, 2) := by decide +kernel
theorem dL_sets_22 : decode cL_sets 22 = .ok (.iconst 3, 1) := by decide +kernel
theorem dL_sets_23 : decode cL_sets 23 = .ok (.iand, 1) := by decide +kernel
theorem dL_sets_24 : decode cL_sets 24 = .ok (.ifCond .ne 7, 3) := by decide +kernel
theorem dL_sets_27 : decode cL_sets 27 = .ok (.iconst 0, 1) := by decide +kernel
theorem dL_sets_28 : decode cL_sets 28 = .ok (.goto 10, 3) := by decide +kernel
theorem dL_sets_31 : decode cL_sets 31 = .ok (.iload 6, 2) := by decide +kernel
theorem dL_sets_33 : decode cL_sets 33 = .ok (.iconst 2, 1) := by decide +kernel
theorem dL_sets_34 : decode cL_sets 34 = .ok (.ishr, 1) := by decide +kernel
theorem dL_sets_35 : decode cL_sets 35 = .ok (.bipush 15, 2) := by decide +kernel
theorem dL_sets_37 : decode cL_sets 37 = .ok (.iand, 1) := by decide +kernel
theorem dL_sets_38 : decode cL_sets 38 = .ok (.istore 7, 2) := by decide +kernel
theorem dL_sets_40 : decode cL_sets 40 = .ok (.iload 6, 2) := by decide +kernel
theorem dL_sets_42 : decode cL_sets 42 = .ok (.bipush 6, 2) := by decide +kernel
theorem dL_sets_44 : decode cL_sets 44 = .ok (.ishr, 1) := by decide +kernel
theorem dL_sets_45 : decode cL_sets 45 = .ok (.iconst 1, 1) := by decide +kernel
theorem dL_sets_46 : decode cL_sets 46 = .ok (.iand, 1) := by decide +kernel
theorem dL_sets_47 : decode cL_sets 47 = .ok (.ifCond .ne 7, 3) := by decide +kernel
theorem dL_sets_50 : decode cL_sets 50 = .ok (.iconst 0, 1) := by decide +kernel
theorem dL_sets_51 : decode cL_sets 51 = .ok (.goto 13, 3) := by decide +kernel
theorem dL_sets_54 : decode cL_sets 54 = .ok (.iload 6, 2) := by decide +kernel
theorem dL_sets_56 : decode cL_sets 56 = .ok (.bipush 7, 2) := by decide +kernel
theorem dL_sets_58 : decode cL_sets 58 = .ok (.ishr, 1) := by decide +kernel
theorem dL_sets_59 : decode cL_sets 59 = .ok (.bipush 30, 2) := by decide +kernel
theorem dL_sets_61 : decode cL_sets 61 = .ok (.invokestatic 15, 3) := by decide +kernel
theorem dL_sets_64 : decode cL_sets 64 = .ok (.istore 8, 2) := by decide +kernel
theorem dL_sets_66 : decode cL_sets 66 = .ok (.iload 6, 2) := by decide +kernel
theorem dL_sets_68 : decode cL_sets 68 = .ok (.bipush 12, 2) := by decide +kernel
theorem dL_sets_70 : decode cL_sets 70 = .ok (.ishr, 1) := by decide +kernel
theorem dL_sets_71 : decode cL_sets 71 = .ok (.iconst 1, 1) := by decide +kernel
theorem dL_sets_72 : decode cL_sets 72 = .ok (.iand, 1) := by decide +kernel
theorem dL_sets_73 : decode cL_sets 73 = .ok (.istore 9, 2) := by decide +kernel
theorem dL_sets_75 : decode cL_sets 75 = .ok (.aload_n 0, 1) := by decide +kernel
theorem dL_sets_76 : decode cL_sets 76 = .ok (.iload 5, 2) := by decide +kernel
theorem dL_sets_78 : decode cL_sets 78 = .ok (.iload 7, 2) := by decide +kernel
theorem dL_sets_80 : decode cL_sets 80 = .ok (.iload 8, 2) := by decide +kernel
theorem dL_sets_82 : decode cL_sets 82 = .ok (.iload 9, 2) := by decide +kernel
theorem dL_sets_84 : decode cL_sets 84 = .ok (.invokevirtual 19, 3) := by decide +kernel
theorem dL_sets_87 : decode cL_sets 87 = .ok (.iconst 1, 1) := by decide +kernel
theorem dL_sets_88 : decode cL_sets 88 = .ok (.if_icmp .ne 19, 3) := by decide +kernel
theorem dL_sets_91 : decode cL_sets 91 = .ok (.aload_n 1, 1) := by decide +kernel
theorem dL_sets_92 : decode cL_sets 92 = .ok (.iload 5, 2) := by decide +kernel
theorem dL_sets_94 : decode cL_sets 94 = .ok (.iload 7, 2) := by decide +kernel
theorem dL_sets_96 : decode cL_sets 96 = .ok (.iload 8, 2) := by decide +kernel
theorem dL_sets_98 : decode cL_sets 98 = .ok (.iload 9, 2) := by decide +kernel
theorem dL_sets_100 : decode cL_sets 100 = .ok (.invokevirtual 19, 3) := by decide +kernel
theorem dL_sets_103 : decode cL_sets 103 = .ok (.iconst 1, 1) := by decide +kernel
theorem dL_sets_104 : decode cL_sets 104 = .ok (.if_icmp .eq 5, 3) := by decide +kernel
theorem dL_sets_107 : decode cL_sets 107 = .ok (.iconst 0, 1) := by decide +kernel
theorem dL_sets_108 : decode cL_sets 108 = .ok (.ireturn, 1) := by decide +kernel
theorem dL_sets_109 : decode cL_sets 109 = .ok (.iinc 5 1, 3) := by decide +kernel
theorem dL_sets_112 : decode cL_sets 112 = .ok (.goto (-109), 3) := by decide +kernel
theorem dL_sets_115 : decode cL_sets 115 = .ok (.aload_n 2, 1) := by decide +kernel
theorem dL_sets_116 : decode cL_sets 116 = .ok (.iload_n 3, 1) := by decide +kernel
theorem dL_sets_117 : decode cL_sets 117 = .ok (.bipush 6, 2) := by decide +kernel
theorem dL_sets_119 : decode cL_sets 119 = .ok (.iadd, 1) := by decide +kernel
theorem dL_sets_120 : decode cL_sets 120 = .ok (.invokestatic 9, 3) := by decide +kernel
theorem dL_sets_123 : decode cL_sets 123 = .ok (.istore 5, 2) := by decide +kernel
theorem dL_sets_125 : decode cL_sets 125 = .ok (.iload 5, 2) := by decide +kernel
theorem dL_sets_127 : decode cL_sets 127 = .ok (.bipush 15, 2) := by decide +kernel
theorem dL_sets_129 : decode cL_sets 129 = .ok (.iand, 1) := by decide +kernel
theorem dL_sets_130 : decode cL_sets 130 = .ok (.istore 6, 2) := by decide +kernel
theorem dL_sets_132 : decode cL_sets 132 = .ok (.iconst 2, 1) := by decide +kernel
theorem dL_sets_133 : decode cL_sets 133 = .ok (.iload 5, 2) := by decide +kernel
theorem dL_sets_135 : decode cL_sets 135 = .ok (.iconst 4, 1) := by decide +kernel
theorem dL_sets_136 : decode cL_sets 136 = .ok (.ishr, 1) := by decide +kernel
theorem dL_sets_137 : decode cL_sets 137 = .ok (.iconst 3, 1) := by decide +kernel
theorem dL_sets_138 : decode cL_sets 138 = .ok (.invokestatic 15, 3) := by decide +kernel
theorem dL_sets_141 : decode cL_sets 141 = .ok (.iadd, 1) := by decide +kernel
theorem dL_sets_142 : decode cL_sets 142 = .ok (.istore 7, 2) := by decide +kernel
theorem dL_sets_144 : decode cL_sets 144 = .ok (.iload 5, 2) := by decide +kernel
theorem dL_sets_146 : decode cL_sets 146 = .ok (.bipush 8, 2) := by decide +kernel
theorem dL_sets_148 : decode cL_sets 148 = .ok (.ishr, 1) := by decide +kernel
theorem dL_sets_149 : decode cL_sets 149 = .ok (.iconst 3, 1) := by decide +kernel
theorem dL_sets_150 : decode cL_sets 150 = .ok (.iand, 1) := by decide +kernel
theorem dL_sets_151 : decode cL_sets 151 = .ok (.istore 8, 2) := by decide +kernel
theorem dL_sets_153 : decode cL_sets 153 = .ok (.aload_n 0, 1) := by decide +kernel
theorem dL_sets_154 : decode cL_sets 154 = .ok (.iconst 0, 1) := by decide +kernel
theorem dL_sets_155 : decode cL_sets 155 = .ok (.iload 4, 2) := by decide +kernel
theorem dL_sets_157 : decode cL_sets 157 = .ok (.invokevirtual 25, 3) := by decide +kernel
theorem dL_sets_160 : decode cL_sets 160 = .ok (.ifCond .lt 79, 3) := by decide +kernel
theorem dL_sets_163 : decode cL_sets 163 = .ok (.aload_n 1, 1) := by decide +kernel
theorem dL_sets_164 : decode cL_sets 164 = .ok (.iconst 0, 1) := by decide +kernel
theorem dL_sets_165 : decode cL_sets 165 = .ok (.iload 4, 2) := by decide +kernel
theorem dL_sets_167 : decode cL_sets 167 = .ok (.invokevirtual 25, 3) := by decide +kernel
theorem dL_sets_170 : decode cL_sets 170 = .ok (.ifCond .lt 69, 3) := by decide +kernel
theorem dL_sets_173 : decode cL_sets 173 = .ok (.aload_n 0, 1) := by decide +kernel
theorem dL_sets_174 : decode cL_sets 174 = .ok (.iconst 1, 1) := by decide +kernel
theorem dL_sets_175 : decode cL_sets 175 = .ok (.iload 6, 2) := by decide +kernel
theorem dL_sets_177 : decode cL_sets 177 = .ok (.invokevirtual 25, 3) := by decide +kernel
theorem dL_sets_180 : decode cL_sets 180 = .ok (.ifCond .lt 59, 3) := by decide +kernel
theorem dL_sets_183 : decode cL_sets 183 = .ok (.aload_n 1, 1) := by decide +kernel
theorem dL_sets_184 : decode cL_sets 184 = .ok (.iconst 1, 1) := by decide +kernel
theorem dL_sets_185 : decode cL_sets 185 = .ok (.iload 6, 2) := by decide +kernel
theorem dL_sets_187 : decode cL_sets 187 = .ok (.invokevirtual 25, 3) := by decide +kernel
theorem dL_sets_190 : decode cL_sets 190 = .ok (.ifCond .lt 49, 3) := by decide +kernel
theorem dL_sets_193 : decode cL_sets 193 = .ok (.aload_n 0, 1) := by decide +kernel
theorem dL_sets_194 : decode cL_sets 194 = .ok (.iconst 2, 1) := by decide +kernel
theorem dL_sets_195 : decode cL_sets 195 = .ok (.iload 7, 2) := by decide +kernel
theorem dL_sets_197 : decode cL_sets 197 = .ok (.invokevirtual 25, 3) := by decide +kernel
theorem dL_sets_200 : decode cL_sets 200 = .ok (.iconst 2, 1) := by decide +kernel
theorem dL_sets_201 : decode cL_sets 201 = .ok (.if_icmp .lt 38, 3) := by decide +kernel
theorem dL_sets_204 : decode cL_sets 204 = .ok (.aload_n 1, 1) := by decide +kernel
theorem dL_sets_205 : decode cL_sets 205 = .ok (.iconst 2, 1) := by decide +kernel
theorem dL_sets_206 : decode cL_sets 206 = .ok (.iload 7, 2) := by decide +kernel
theorem dL_sets_208 : decode cL_sets 208 = .ok (.invokevirtual 25, 3) := by decide +kernel
theorem dL_sets_211 : decode cL_sets 211 = .ok (.iconst 2, 1) := by decide +kernel
theorem dL_sets_212 : decode cL_sets 212 = .ok (.if_icmp .lt 27, 3) := by decide +kernel
theorem dL_sets_215 : decode cL_sets 215 = .ok (.aload_n 0, 1) := by decide +kernel
theorem dL_sets_216 : decode cL_sets 216 = .ok (.iconst 3, 1) := by decide +kernel
theorem dL_sets_217 : decode cL_sets 217 = .ok (.iload 8, 2) := by decide +kernel
theorem dL_sets_219 : decode cL_sets 219 = .ok (.invokevirtual 25, 3) := by decide +kernel
theorem dL_sets_222 : decode cL_sets 222 = .ok (.ifCond .lt 17, 3) := by decide +kernel
theorem dL_sets_225 : decode cL_sets 225 = .ok (.aload_n 1, 1) := by decide +kernel
theorem dL_sets_226 : decode cL_sets 226 = .ok (.iconst 3, 1) := by decide +kernel
theorem dL_sets_227 : decode cL_sets 227 = .ok (.iload 8, 2) := by decide +kernel
theorem dL_sets_229 : decode cL_sets 229 = .ok (.invokevirtual 25, 3) := by decide +kernel
theorem dL_sets_232 : decode cL_sets 232 = .ok (.ifCond .lt 7, 3) := by decide +kernel
theorem dL_sets_235 : decode cL_sets 235 = .ok (.iconst 1, 1) := by decide +kernel
theorem dL_sets_236 : decode cL_sets 236 = .ok (.goto 4, 3) := by decide +kernel
theorem dL_sets_239 : decode cL_sets 239 = .ok (.iconst 0, 1) := by decide +kernel
theorem dL_sets_240 : decode cL_sets 240 = .ok (.ireturn, 1) := by decide +kernel
theorem dL_sameGroup_0 : decode cL_sameGroup 0 = .ok (.iconst 0, 1) := by decide +kernel
theorem dL_sameGroup_1 : decode cL_sameGroup 1 = .ok (.istore_n 3, 1) := by decide +kernel
theorem dL_sameGroup_2 : decode cL_sameGroup 2 = .ok (.iload_n 3, 1) := by decide +kernel
theorem dL_sameGroup_3 : decode cL_sameGroup 3 = .ok (.iconst 5, 1) := by decide +kernel
theorem dL_sameGroup_4 : decode cL_sameGroup 4 = .ok (.if_icmp .ge 41, 3) := by decide +kernel
theorem dL_sameGroup_7 : decode cL_sameGroup 7 = .ok (.aload_n 0, 1) := by decide +kernel
theorem dL_sameGroup_8 : decode cL_sameGroup 8 = .ok (.iload_n 2, 1) := by decide +kernel
theorem dL_sameGroup_9 : decode cL_sameGroup 9 = .ok (.iload_n 3, 1) := by decide +kernel
theorem dL_sameGroup_10 : decode cL_sameGroup 10 = .ok (.invokevirtual 28, 3) := by decide +kernel
theorem dL_sameGroup_13 : decode cL_sameGroup 13 = .ok (.aload_n 1, 1) := by decide +kernel
theorem dL_sameGroup_14 : decode cL_sameGroup 14 = .ok (.iload_n 2, 1) := by decide +kernel
theorem dL_sameGroup_15 : decode cL_sameGroup 15 = .ok (.iload_n 3, 1) := by decide +kernel
theorem dL_sameGroup_16 : decode cL_sameGroup 16 = .ok (.invokevirtual 28, 3) := by decide +kernel
theorem dL_sameGroup_19 : decode cL_sameGroup 19 = .ok (.if_icmp .ne 18, 3) := by decide +kernel
theorem dL_sameGroup_22 : decode cL_sameGroup 22 = .ok (.aload_n 0, 1) := by decide +kernel
theorem dL_sameGroup_23 : decode cL_sameGroup 23 = .ok (.iload_n 2, 1) := by decide +kernel
theorem dL_sameGroup_24 : decode cL_sameGroup 24 = .ok (.iload_n 3, 1) := by decide +kernel
theorem dL_sameGroup_25 : decode cL_sameGroup 25 = .ok (.invokevirtual 31, 3) := by decide +kernel
theorem dL_sameGroup_28 : decode cL_sameGroup 28 = .ok (.aload_n 1, 1) := by decide +kernel
theorem dL_sameGroup_29 : decode cL_sameGroup 29 = .ok (.iload_n 2, 1) := by decide +kernel
theorem dL_sameGroup_30 : decode cL_sameGroup 30 = .ok (.iload_n 3, 1) := by decide +kernel
theorem dL_sameGroup_31 : decode cL_sameGroup 31 = .ok (.invokevirtual 31, 3) := by decide +kernel
theorem dL_sameGroup_34 : decode cL_sameGroup 34 = .ok (.if_icmp .eq 5, 3) := by decide +kernel
theorem dL_sameGroup_37 : decode cL_sameGroup 37 = .ok (.iconst 0, 1) := by decide +kernel
theorem dL_sameGroup_38 : decode cL_sameGroup 38 = .ok (.ireturn, 1) := by decide +kernel
theorem dL_sameGroup_39 : decode cL_sameGroup 39 = .ok (.iinc 3 1, 3) := by decide +kernel
theorem dL_sameGroup_42 : decode cL_sameGroup 42 = .ok (.goto (-40), 3) := by decide +kernel
theorem dL_sameGroup_45 : decode cL_sameGroup 45 = .ok (.iconst 0, 1) := by decide +kernel
theorem dL_sameGroup_46 : decode cL_sameGroup 46 = .ok (.istore_n 3, 1) := by decide +kernel
theorem dL_sameGroup_47 : decode cL_sameGroup 47 = .ok (.iload_n 3, 1) := by decide +kernel
theorem dL_sameGroup_48 : decode cL_sameGroup 48 = .ok (.bipush 6, 2) := by decide +kernel
theorem dL_sameGroup_50 : decode cL_sameGroup 50 = .ok (.if_icmp .ge 45, 3) := by decide +kernel
theorem dL_sameGroup_53 : decode cL_sameGroup 53 = .ok (.aload_n 0, 1) := by decide +kernel
theorem dL_sameGroup_54 : decode cL_sameGroup 54 = .ok (.iload_n 2, 1) := by decide +kernel
theorem dL_sameGroup_55 : decode cL_sameGroup 55 = .ok (.iload_n 3, 1) := by decide +kernel
theorem dL_sameGroup_56 : decode cL_sameGroup 56 = .ok (.iconst 0, 1) := by decide +kernel
theorem dL_sameGroup_57 : decode cL_sameGroup 57 = .ok (.invokevirtual 34, 3) := by decide +kernel
theorem dL_sameGroup_60 : decode cL_sameGroup 60 = .ok (.aload_n 1, 1) := by decide +kernel
theorem dL_sameGroup_61 : decode cL_sameGroup 61 = .ok (.iload_n 2, 1) := by decide +kernel
theorem dL_sameGroup_62 : decode cL_sameGroup 62 = .ok (.iload_n 3, 1) := by decide +kernel
theorem dL_sameGroup_63 : decode cL_sameGroup 63 = .ok (.iconst 0, 1) := by decide +kernel
theorem dL_sameGroup_64 : decode cL_sameGroup 64 = .ok (.invokevirtual 34, 3) := by decide +kernel
theorem dL_sameGroup_67 : decode cL_sameGroup 67 = .ok (.if_icmp .ne 20, 3) := by decide +kernel
theorem dL_sameGroup_70 : decode cL_sameGroup 70 = .ok (.aload_n 0, 1) := by decide +kernel
theorem dL_sameGroup_71 : decode cL_sameGroup 71 = .ok (.iload_n 2, 1) := by decide +kernel
theorem dL_sameGroup_72 : decode cL_sameGroup 72 = .ok (.iload_n 3, 1) := by decide +kernel
theorem dL_sameGroup_73 : decode cL_sameGroup 73 = .ok (.iconst 1, 1) := by decide +kernel
