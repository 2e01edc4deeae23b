theorem dX3_having_46 : decode cX3_having 46 = .ok (.iload 4, 2) := by decide +kernel
theorem dX3_having_48 : decode cX3_having 48 = .ok (.iaload, 1) := by decide +kernel
theorem dX3_having_49 : decode cX3_having 49 = .ok (.iload_n 1, 1) := by decide +kernel
theorem dX3_having_50 : decode cX3_having 50 = .ok (.iand, 1) := by decide +kernel
theorem dX3_having_51 : decode cX3_having 51 = .ok (.istore 5, 2) := by decide +kernel
theorem dX3_having_53 : decode cX3_having 53 = .ok (.iload_n 2, 1) := by decide +kernel
theorem dX3_having_54 : decode cX3_having 54 = .ok (.ifCond .ne 25, 3) := by decide +kernel
theorem dX3_having_57 : decode cX3_having 57 = .ok (.aload_n 0, 1) := by decide +kernel
theorem dX3_having_58 : decode cX3_having 58 = .ok (.getfield 48, 3) := by decide +kernel
theorem dX3_having_61 : decode cX3_having 61 = .ok (.getfield 135, 3) := by decide +kernel
theorem dX3_having_64 : decode cX3_having 64 = .ok (.iload 4, 2) := by decide +kernel
theorem dX3_having_66 : decode cX3_having 66 = .ok (.iaload, 1) := by decide +kernel
theorem dX3_having_67 : decode cX3_having 67 = .ok (.iload_n 1, 1) := by decide +kernel
theorem dX3_having_68 : decode cX3_having 68 = .ok (.if_icmp .ne 7, 3) := by decide +kernel
theorem dX3_having_71 : decode cX3_having 71 = .ok (.iconst 1, 1) := by decide +kernel
theorem dX3_having_72 : decode cX3_having 72 = .ok (.goto 27, 3) := by decide +kernel
theorem dX3_having_75 : decode cX3_having 75 = .ok (.iconst 0, 1) := by decide +kernel
theorem dX3_having_76 : decode cX3_having 76 = .ok (.goto 23, 3) := by decide +kernel
theorem dX3_having_79 : decode cX3_having 79 = .ok (.iload 5, 2) := by decide +kernel
theorem dX3_having_81 : decode cX3_having 81 = .ok (.iload_n 2, 1) := by decide +kernel
theorem dX3_having_82 : decode cX3_having 82 = .ok (.iconst 1, 1) := by decide +kernel
theorem dX3_having_83 : decode cX3_having 83 = .ok (.if_icmp .ne 7, 3) := by decide +kernel
theorem dX3_having_86 : decode cX3_having 86 = .ok (.iload_n 1, 1) := by decide +kernel
theorem dX3_having_87 : decode cX3_having 87 = .ok (.goto 4, 3) := by decide +kernel
theorem dX3_having_90 : decode cX3_having 90 = .ok (.iconst 0, 1) := by decide +kernel
theorem dX3_having_91 : decode cX3_having 91 = .ok (.if_icmp .ne 7, 3) := by decide +kernel
theorem dX3_having_94 : decode cX3_having 94 = .ok (.iconst 1, 1) := by decide +kernel
theorem dX3_having_95 : decode cX3_having 95 = .ok (.goto 4, 3) := by decide +kernel
theorem dX3_having_98 : decode cX3_having 98 = .ok (.iconst 0, 1) := by decide +kernel
theorem dX3_having_99 : decode cX3_having 99 = .ok (.istore 6, 2) := by decide +kernel
theorem dX3_having_101 : decode cX3_having 101 = .ok (.iload 6, 2) := by decide +kernel
theorem dX3_having_103 : decode cX3_having 103 = .ok (.ifCond .eq 6, 3) := by decide +kernel
theorem dX3_having_106 : decode cX3_having 106 = .ok (.iinc 3 1, 3) := by decide +kernel
theorem dX3_having_109 : decode cX3_having 109 = .ok (.iinc 4 1, 3) := by decide +kernel
theorem dX3_having_112 : decode cX3_having 112 = .ok (.goto (-85), 3) := by decide +kernel
theorem dX3_having_115 : decode cX3_having 115 = .ok (.iload_n 3, 1) := by decide +kernel
theorem dX3_having_116 : decode cX3_having 116 = .ok (.ireturn, 1) := by decide +kernel
theorem dX3_folds_0 : decode cX3_folds 0 = .ok (.iload_n 1, 1) := by decide +kernel
theorem dX3_folds_1 : decode cX3_folds 1 = .ok (.iconst 1, 1) := by decide +kernel
theorem dX3_folds_2 : decode cX3_folds 2 = .ok (.bipush 6, 2) := by decide +kernel
theorem dX3_folds_4 : decode cX3_folds 4 = .ok (.invokestatic 66, 3) := by decide +kernel
theorem dX3_folds_7 : decode cX3_folds 7 = .ok (.ifCond .ne 6, 3) := by decide +kernel
theorem dX3_folds_10 : decode cX3_folds 10 = .ok (.bipush (-2), 2) := by decide +kernel
theorem dX3_folds_12 : decode cX3_folds 12 = .ok (.ireturn, 1) := by decide +kernel
theorem dX3_folds_13 : decode cX3_folds 13 = .ok (.iconst 0, 1) := by decide +kernel
theorem dX3_folds_14 : decode cX3_folds 14 = .ok (.istore_n 2, 1) := by decide +kernel
theorem dX3_folds_15 : decode cX3_folds 15 = .ok (.iconst 0, 1) := by decide +kernel
theorem dX3_folds_16 : decode cX3_folds 16 = .ok (.istore_n 3, 1) := by decide +kernel
theorem dX3_folds_17 : decode cX3_folds 17 = .ok (.iload_n 3, 1) := by decide +kernel
theorem dX3_folds_18 : decode cX3_folds 18 = .ok (.aload_n 0, 1) := by decide +kernel
theorem dX3_folds_19 : decode cX3_folds 19 = .ok (.getfield 48, 3) := by decide +kernel
theorem dX3_folds_22 : decode cX3_folds 22 = .ok (.getfield 116, 3) := by decide +kernel
theorem dX3_folds_25 : decode cX3_folds 25 = .ok (.if_icmp .ge 28, 3) := by decide +kernel
theorem dX3_folds_28 : decode cX3_folds 28 = .ok (.aload_n 0, 1) := by decide +kernel
theorem dX3_folds_29 : decode cX3_folds 29 = .ok (.getfield 48, 3) := by decide +kernel
theorem dX3_folds_32 : decode cX3_folds 32 = .ok (.getfield 135, 3) := by decide +kernel
theorem dX3_folds_35 : decode cX3_folds 35 = .ok (.iload_n 3, 1) := by decide +kernel
theorem dX3_folds_36 : decode cX3_folds 36 = .ok (.iaload, 1) := by decide +kernel
theorem dX3_folds_37 : decode cX3_folds 37 = .ok (.invokestatic 138, 3) := by decide +kernel
theorem dX3_folds_40 : decode cX3_folds 40 = .ok (.iload_n 1, 1) := by decide +kernel
theorem dX3_folds_41 : decode cX3_folds 41 = .ok (.if_icmp .ne 6, 3) := by decide +kernel
theorem dX3_folds_44 : decode cX3_folds 44 = .ok (.iinc 2 1, 3) := by decide +kernel
theorem dX3_folds_47 : decode cX3_folds 47 = .ok (.iinc 3 1, 3) := by decide +kernel
theorem dX3_folds_50 : decode cX3_folds 50 = .ok (.goto (-33), 3) := by decide +kernel
theorem dX3_folds_53 : decode cX3_folds 53 = .ok (.iload_n 2, 1) := by decide +kernel
theorem dX3_folds_54 : decode cX3_folds 54 = .ok (.ireturn, 1) := by decide +kernel
theorem dX3_shifted_0 : decode cX3_shifted 0 = .ok (.iload_n 1, 1) := by decide +kernel
theorem dX3_shifted_1 : decode cX3_shifted 1 = .ok (.iconst 0, 1) := by decide +kernel
theorem dX3_shifted_2 : decode cX3_shifted 2 = .ok (.bipush 63, 2) := by decide +kernel
theorem dX3_shifted_4 : decode cX3_shifted 4 = .ok (.invokestatic 66, 3) := by decide +kernel
theorem dX3_shifted_7 : decode cX3_shifted 7 = .ok (.ifCond .eq 14, 3) := by decide +kernel
theorem dX3_shifted_10 : decode cX3_shifted 10 = .ok (.iload_n 2, 1) := by decide +kernel
theorem dX3_shifted_11 : decode cX3_shifted 11 = .ok (.iconst 0, 1) := by decide +kernel
theorem dX3_shifted_12 : decode cX3_shifted 12 = .ok (.sipush 500, 3) := by decide +kernel
theorem dX3_shifted_15 : decode cX3_shifted 15 = .ok (.invokestatic 66, 3) := by decide +kernel
theorem dX3_shifted_18 : decode cX3_shifted 18 = .ok (.ifCond .ne 6, 3) := by decide +kernel
theorem dX3_shifted_21 : decode cX3_shifted 21 = .ok (.bipush (-2), 2) := by decide +kernel
theorem dX3_shifted_23 : decode cX3_shifted 23 = .ok (.ireturn, 1) := by decide +kernel
theorem dX3_shifted_24 : decode cX3_shifted 24 = .ok (.aload_n 0, 1) := by decide +kernel
theorem dX3_shifted_25 : decode cX3_shifted 25 = .ok (.getfield 98, 3) := by decide +kernel
theorem dX3_shifted_28 : decode cX3_shifted 28 = .ok (.ifCond .ne 6, 3) := by decide +kernel
theorem dX3_shifted_31 : decode cX3_shifted 31 = .ok (.bipush (-3), 2) := by decide +kernel
theorem dX3_shifted_33 : decode cX3_shifted 33 = .ok (.ireturn, 1) := by decide +kernel
theorem dX3_shifted_34 : decode cX3_shifted 34 = .ok (.aload_n 0, 1) := by decide +kernel
theorem dX3_shifted_35 : decode cX3_shifted 35 = .ok (.getfield 42, 3) := by decide +kernel
theorem dX3_shifted_38 : decode cX3_shifted 38 = .ok (.aload_n 0, 1) := by decide +kernel
theorem dX3_shifted_39 : decode cX3_shifted 39 = .ok (.getfield 39, 3) := by decide +kernel
theorem dX3_shifted_42 : decode cX3_shifted 42 = .ok (.aload_n 0, 1) := by decide +kernel
theorem dX3_shifted_43 : decode cX3_shifted 43 = .ok (.getfield 123, 3) := by decide +kernel
theorem dX3_shifted_46 : decode cX3_shifted 46 = .ok (.iload_n 1, 1) := by decide +kernel
theorem dX3_shifted_47 : decode cX3_shifted 47 = .ok (.iload_n 2, 1) := by decide +kernel
theorem dX3_shifted_48 : decode cX3_shifted 48 = .ok (.invokevirtual 156, 3) := by decide +kernel
theorem dX3_shifted_51 : decode cX3_shifted 51 = .ok (.iconst 0, 1) := by decide +kernel
theorem dX3_shifted_52 : decode cX3_shifted 52 = .ok (.istore_n 3, 1) := by decide +kernel
theorem dX3_shifted_53 : decode cX3_shifted 53 = .ok (.iconst 0, 1) := by decide +kernel
theorem dX3_shifted_54 : decode cX3_shifted 54 = .ok (.istore 4, 2) := by decide +kernel
theorem dX3_shifted_56 : decode cX3_shifted 56 = .ok (.iconst 0, 1) := by decide +kernel
theorem dX3_shifted_57 : decode cX3_shifted 57 = .ok (.istore 5, 2) := by decide +kernel
theorem dX3_shifted_59 : decode cX3_shifted 59 = .ok (.iload 5, 2) := by decide +kernel
theorem dX3_shifted_61 : decode cX3_shifted 61 = .ok (.sipush 240, 3) := by decide +kernel
theorem dX3_shifted_64 : decode cX3_shifted 64 = .ok (.if_icmp .ge 70, 3) := by decide +kernel
theorem dX3_shifted_67 : decode cX3_shifted 67 = .ok (.aload_n 0, 1) := by decide +kernel
theorem dX3_shifted_68 : decode cX3_shifted 68 = .ok (.getfield 42, 3) := by decide +kernel
theorem dX3_shifted_71 : decode cX3_shifted 71 = .ok (.iload 4, 2) := by decide +kernel
theorem dX3_shifted_73 : decode cX3_shifted 73 = .ok (.invokevirtual 147, 3) := by decide +kernel
theorem dX3_shifted_76 : decode cX3_shifted 76 = .ok (.ifCond .eq 58, 3) := by decide +kernel
theorem dX3_shifted_79 : decode cX3_shifted 79 = .ok (.aload_n 0, 1) := by decide +kernel
theorem dX3_shifted_80 : decode cX3_shifted 80 = .ok (.getfield 42, 3) := by decide +kernel
theorem dX3_shifted_83 : decode cX3_shifted 83 = .ok (.iload 4, 2) := by decide +kernel
theorem dX3_shifted_85 : decode cX3_shifted 85 = .ok (.aload_n 0, 1) := by decide +kernel
theorem dX3_shifted_86 : decode cX3_shifted 86 = .ok (.getfield 42, 3) := by decide +kernel
theorem dX3_shifted_89 : decode cX3_shifted 89 = .ok (.getfield 74, 3) := by decide +kernel
theorem dX3_shifted_92 : decode cX3_shifted 92 = .ok (.aload_n 0, 1) := by decide +kernel
theorem dX3_shifted_93 : decode cX3_shifted 93 = .ok (.getfield 29, 3) := by decide +kernel
theorem dX3_shifted_96 : decode cX3_shifted 96 = .ok (.iconst 1, 1) := by decide +kernel
theorem dX3_shifted_97 : decode cX3_shifted 97 = .ok (.iaload, 1) := by decide +kernel
theorem dX3_shifted_98 : decode cX3_shifted 98 = .ok (.invokevirtual 160, 3) := by decide +kernel
theorem dX3_shifted_101 : decode cX3_shifted 101 = .ok (.istore 6, 2) := by decide +kernel
theorem dX3_shifted_103 : decode cX3_shifted 103 = .ok (.aload_n 0, 1) := by decide +kernel
theorem dX3_shifted_104 : decode cX3_shifted 104 = .ok (.aload_n 0, 1) := by decide +kernel
theorem dX3_shifted_105 : decode cX3_shifted 105 = .ok (.getfield 42, 3) := by decide +kernel
theorem dX3_shifted_108 : decode cX3_shifted 108 = .ok (.iload 4, 2) := by decide +kernel
theorem dX3_shifted_110 : decode cX3_shifted 110 = .ok (.iload 6, 2) := by decide +kernel
theorem dX3_shifted_112 : decode cX3_shifted 112 = .ok (.invokevirtual 163, 3) := by decide +kernel
theorem dX3_shifted_115 : decode cX3_shifted 115 = .ok (.invokevirtual 166, 3) := by decide +kernel
theorem dX3_shifted_118 : decode cX3_shifted 118 = .ok (.ifCond .eq 6, 3) := by decide +kernel
theorem dX3_shifted_121 : decode cX3_shifted 121 = .ok (.iinc 3 1, 3) := by decide +kernel
theorem dX3_shifted_124 : decode cX3_shifted 124 = .ok (.iload 6, 2) := by decide +kernel
theorem dX3_shifted_126 : decode cX3_shifted 126 = .ok (.istore 4, 2) := by decide +kernel
theorem dX3_shifted_128 : decode cX3_shifted 128 = .ok (.iinc 5 1, 3) := by decide +kernel
theorem dX3_shifted_131 : decode cX3_shifted 131 = .ok (.goto (-72), 3) := by decide +kernel
theorem dX3_shifted_134 : decode cX3_shifted 134 = .ok (.iload_n 3, 1) := by decide +kernel
theorem dX3_shifted_135 : decode cX3_shifted 135 = .ok (.ireturn, 1) := by decide +kernel
theorem dX3_twos_0 : decode cX3_twos 0 = .ok (.iload_n 1, 1) := by decide +kernel
theorem dX3_twos_1 : decode cX3_twos 1 = .ok (.invokestatic 62, 3) := by decide +kernel
theorem dX3_twos_4 : decode cX3_twos 4 = .ok (.ifCond .eq 10, 3) := by decide +kernel
theorem dX3_twos_7 : decode cX3_twos 7 = .ok (.iload_n 2, 1) := by decide +kernel
theorem dX3_twos_8 : decode cX3_twos 8 = .ok (.invokestatic 62, 3) := by decide +kernel
theorem dX3_twos_11 : decode cX3_twos 11 = .ok (.ifCond .ne 5, 3) := by decide +kernel
theorem dX3_twos_14 : decode cX3_twos 14 = .ok (.iconst (-1), 1) := by decide +kernel
theorem dX3_twos_15 : decode cX3_twos 15 = .ok (.ireturn, 1) := by decide +kernel
theorem dX3_twos_16 : decode cX3_twos 16 = .ok (.iload_n 3, 1) := by decide +kernel
theorem dX3_twos_17 : decode cX3_twos 17 = .ok (.sipush (-200), 3) := by decide +kernel
theorem dX3_twos_20 : decode cX3_twos 20 = .ok (.sipush 200, 3) := by decide +kernel
theorem dX3_twos_23 : decode cX3_twos 23 = .ok (.invokestatic 66, 3) := by decide +kernel
theorem dX3_twos_26 : decode cX3_twos 26 = .ok (.ifCond .ne 6, 3) := by decide +kernel
theorem dX3_twos_29 : decode cX3_twos 29 = .ok (.bipush (-2), 2) := by decide +kernel
theorem dX3_twos_31 : decode cX3_twos 31 = .ok (.ireturn, 1) := by decide +kernel
theorem dX3_twos_32 : decode cX3_twos 32 = .ok (.iload_n 1, 1) := by decide +kernel
theorem dX3_twos_33 : decode cX3_twos 33 = .ok (.iload_n 2, 1) := by decide +kernel
theorem dX3_twos_34 : decode cX3_twos 34 = .ok (.if_icmp .ne 6, 3) := by decide +kernel
theorem dX3_twos_37 : decode cX3_twos 37 = .ok (.bipush (-3), 2) := by decide +kernel
theorem dX3_twos_39 : decode cX3_twos 39 = .ok (.ireturn, 1) := by decide +kernel
theorem dX3_twos_40 : decode cX3_twos 40 = .ok (.aload_n 0, 1) := by decide +kernel
theorem dX3_twos_41 : decode cX3_twos 41 = .ok (.getfield 39, 3) := by decide +kernel
theorem dX3_twos_44 : decode cX3_twos 44 = .ok (.iload_n 1, 1) := by decide +kernel
theorem dX3_twos_45 : decode cX3_twos 45 = .ok (.iload_n 2, 1) := by decide +kernel
theorem dX3_twos_46 : decode cX3_twos 46 = .ok (.iload_n 3, 1) := by decide +kernel
theorem dX3_twos_47 : decode cX3_twos 47 = .ok (.aload_n 0, 1) := by decide +kernel
theorem dX3_twos_48 : decode cX3_twos 48 = .ok (.getfield 123, 3) := by decide +kernel
theorem dX3_twos_51 : decode cX3_twos 51 = .ok (.invokevirtual 169, 3) := by decide +kernel
theorem dX3_twos_54 : decode cX3_twos 54 = .ok (.ireturn, 1) := by decide +kernel
theorem dX3_live_0 : decode cX3_live 0 = .ok (.iload_n 1, 1) := by decide +kernel
theorem dX3_live_1 : decode cX3_live 1 = .ok (.invokestatic 62, 3) := by decide +kernel
theorem dX3_live_4 : decode cX3_live 4 = .ok (.ifCond .ne 5, 3) := by decide +kernel
theorem dX3_live_7 : decode cX3_live 7 = .ok (.iconst (-1), 1) := by decide +kernel
theorem dX3_live_8 : decode cX3_live 8 = .ok (.ireturn, 1) := by decide +kernel
theorem dX3_live_9 : decode cX3_live 9 = .ok (.aload_n 0, 1) := by decide +kernel
theorem dX3_live_10 : decode cX3_live 10 = .ok (.getfield 98, 3) := by decide +kernel
theorem dX3_live_13 : decode cX3_live 13 = .ok (.ifCond .ne 6, 3) := by decide +kernel
theorem dX3_live_16 : decode cX3_live 16 = .ok (.bipush (-3), 2) := by decide +kernel
theorem dX3_live_18 : decode cX3_live 18 = .ok (.ireturn, 1) := by decide +kernel
theorem dX3_live_19 : decode cX3_live 19 = .ok (.aload_n 0, 1) := by decide +kernel
theorem dX3_live_20 : decode cX3_live 20 = .ok (.iload_n 1, 1) := by decide +kernel
theorem dX3_live_21 : decode cX3_live 21 = .ok (.invokevirtual 173, 3) := by decide +kernel
theorem dX3_live_24 : decode cX3_live 24 = .ok (.ireturn, 1) := by decide +kernel
theorem dX3_rate_0 : decode cX3_rate 0 = .ok (.iload_n 1, 1) := by decide +kernel
theorem dX3_rate_1 : decode cX3_rate 1 = .ok (.invokestatic 62, 3) := by decide +kernel
theorem dX3_rate_4 : decode cX3_rate 4 = .ok (.ifCond .eq 19, 3) := by decide +kernel
theorem dX3_rate_7 : decode cX3_rate 7 = .ok (.iload_n 2, 1) := by decide +kernel
theorem dX3_rate_8 : decode cX3_rate 8 = .ok (.iconst 0, 1) := by decide +kernel
theorem dX3_rate_9 : decode cX3_rate 9 = .ok (.iconst 1, 1) := by decide +kernel
theorem dX3_rate_10 : decode cX3_rate 10 = .ok (.invokestatic 66, 3) := by decide +kernel
theorem dX3_rate_13 : decode cX3_rate 13 = .ok (.ifCond .eq 10, 3) := by decide +kernel
theorem dX3_rate_16 : decode cX3_rate 16 = .ok (.aload_n 0, 1) := by decide +kernel
theorem dX3_rate_17 : decode cX3_rate 17 = .ok (.getfield 98, 3) := by decide +kernel
theorem dX3_rate_20 : decode cX3_rate 20 = .ok (.ifCond .ne 7, 3) := by decide +kernel
theorem dX3_rate_23 : decode cX3_rate 23 = .ok (.ldc2_w 176, 3) := by decide +kernel
theorem dX3_rate_26 : decode cX3_rate 26 = .ok (.lreturn, 1) := by decide +kernel
theorem dX3_rate_27 : decode cX3_rate 27 = .ok (.aload_n 0, 1) := by decide +kernel
theorem dX3_rate_28 : decode cX3_rate 28 = .ok (.iload_n 1, 1) := by decide +kernel
theorem dX3_rate_29 : decode cX3_rate 29 = .ok (.invokevirtual 82, 3) := by decide +kernel
theorem dX3_rate_32 : decode cX3_rate 32 = .ok (.i2l, 1) := by decide +kernel
theorem dX3_rate_33 : decode cX3_rate 33 = .ok (.aload_n 0, 1) := by decide +kernel
theorem dX3_rate_34 : decode cX3_rate 34 = .ok (.iload_n 1, 1) := by decide +kernel
theorem dX3_rate_35 : decode cX3_rate 35 = .ok (.invokevirtual 173, 3) := by decide +kernel
theorem dX3_rate_38 : decode cX3_rate 38 = .ok (.i2l, 1) := by decide +kernel
theorem dX3_rate_39 : decode cX3_rate 39 = .ok (.iload_n 2, 1) := by decide +kernel
theorem dX3_rate_40 : decode cX3_rate 40 = .ok (.invokestatic 178, 3) := by decide +kernel
theorem dX3_rate_43 : decode cX3_rate 43 = .ok (.lreturn, 1) := by decide +kernel
theorem dX3_expected_0 : decode cX3_expected 0 = .ok (.iload_n 1, 1) := by decide +kernel
theorem dX3_expected_1 : decode cX3_expected 1 = .ok (.invokestatic 62, 3) := by decide +kernel
theorem dX3_expected_4 : decode cX3_expected 4 = .ok (.ifCond .eq 19, 3) := by decide +kernel
theorem dX3_expected_7 : decode cX3_expected 7 = .ok (.iload_n 2, 1) := by decide +kernel
theorem dX3_expected_8 : decode cX3_expected 8 = .ok (.invokestatic 62, 3) := by decide +kernel
theorem dX3_expected_11 : decode cX3_expected 11 = .ok (.ifCond .eq 12, 3) := by decide +kernel
theorem dX3_expected_14 : decode cX3_expected 14 = .ok (.iload_n 3, 1) := by decide +kernel
theorem dX3_expected_15 : decode cX3_expected 15 = .ok (.iconst 0, 1) := by decide +kernel
theorem dX3_expected_16 : decode cX3_expected 16 = .ok (.iconst 1, 1) := by decide +kernel
theorem dX3_expected_17 : decode cX3_expected 17 = .ok (.invokestatic 66, 3) := by decide +kernel
theorem dX3_expected_20 : decode cX3_expected 20 = .ok (.ifCond .ne 7, 3) := by decide +kernel
theorem dX3_expected_23 : decode cX3_expected 23 = .ok (.ldc2_w 176, 3) := by decide +kernel
theorem dX3_expected_26 : decode cX3_expected 26 = .ok (.lreturn, 1) := by decide +kernel
theorem dX3_expected_27 : decode cX3_expected 27 = .ok (.iload_n 1, 1) := by decide +kernel
theorem dX3_expected_28 : decode cX3_expected 28 = .ok (.iload_n 2, 1) := by decide +kernel
theorem dX3_expected_29 : decode cX3_expected 29 = .ok (.if_icmp .eq 10, 3) := by decide +kernel
theorem dX3_expected_32 : decode cX3_expected 32 = .ok (.aload_n 0, 1) := by decide +kernel
theorem dX3_expected_33 : decode cX3_expected 33 = .ok (.getfield 98, 3) := by decide +kernel
theorem dX3_expected_36 : decode cX3_expected 36 = .ok (.ifCond .ne 7, 3) := by decide +kernel
theorem dX3_expected_39 : decode cX3_expected 39 = .ok (.ldc2_w 176, 3) := by decide +kernel
theorem dX3_expected_42 : decode cX3_expected 42 = .ok (.lreturn, 1) := by decide +kernel
theorem dX3_expected_43 : decode cX3_expected 43 = .ok (.aload_n 0, 1) := by decide +kernel
theorem dX3_expected_44 : decode cX3_expected 44 = .ok (.iload_n 1, 1) := by decide +kernel
theorem dX3_expected_45 : decode cX3_expected 45 = .ok (.invokevirtual 82, 3) := by decide +kernel
theorem dX3_expected_48 : decode cX3_expected 48 = .ok (.i2l, 1) := by decide +kernel
theorem dX3_expected_49 : decode cX3_expected 49 = .ok (.aload_n 0, 1) := by decide +kernel
theorem dX3_expected_50 : decode cX3_expected 50 = .ok (.iload_n 2, 1) := by decide +kernel
theorem dX3_expected_51 : decode cX3_expected 51 = .ok (.invokevirtual 82, 3) := by decide +kernel
theorem dX3_expected_54 : decode cX3_expected 54 = .ok (.i2l, 1) := by decide +kernel
theorem dX3_expected_55 : decode cX3_expected 55 = .ok (.lmul, 1) := by decide +kernel
theorem dX3_expected_56 : decode cX3_expected 56 = .ok (.iconst 2, 1) := by decide +kernel
theorem dX3_expected_57 : decode cX3_expected 57 = .ok (.aload_n 0, 1) := by decide +kernel
theorem dX3_expected_58 : decode cX3_expected 58 = .ok (.getfield 29, 3) := by decide +kernel
theorem dX3_expected_61 : decode cX3_expected 61 = .ok (.iconst 1, 1) := by decide +kernel
theorem dX3_expected_62 : decode cX3_expected 62 = .ok (.iaload, 1) := by decide +kernel
theorem dX3_expected_63 : decode cX3_expected 63 = .ok (.imul, 1) := by decide +kernel
theorem dX3_expected_64 : decode cX3_expected 64 = .ok (.iconst 1, 1) := by decide +kernel
theorem dX3_expected_65 : decode cX3_expected 65 = .ok (.iadd, 1) := by decide +kernel
theorem dX3_expected_66 : decode cX3_expected 66 = .ok (.i2l, 1) := by decide +kernel
theorem dX3_expected_67 : decode cX3_expected 67 = .ok (.lmul, 1) := by decide +kernel
theorem dX3_expected_68 : decode cX3_expected 68 = .ok (.lstore 4, 2) := by decide +kernel
theorem dX3_expected_70 : decode cX3_expected 70 = .ok (.lload 4, 2) := by decide +kernel
theorem dX3_expected_72 : decode cX3_expected 72 = .ok (.aload_n 0, 1) := by decide +kernel
theorem dX3_expected_73 : decode cX3_expected 73 = .ok (.invokevirtual 182, 3) := by decide +kernel
theorem dX3_expected_76 : decode cX3_expected 76 = .ok (.i2l, 1) := by decide +kernel
theorem dX3_expected_77 : decode cX3_expected 77 = .ok (.iload_n 3, 1) := by decide +kernel
theorem dX3_expected_78 : decode cX3_expected 78 = .ok (.invokestatic 178, 3) := by decide +kernel
theorem dX3_expected_81 : decode cX3_expected 81 = .ok (.lreturn, 1) := by decide +kernel
theorem dX3_track_0 : decode cX3_track 0 = .ok (.aload_n 0, 1) := by decide +kernel
theorem dX3_track_1 : decode cX3_track 1 = .ok (.iload_n 1, 1) := by decide +kernel
theorem dX3_track_2 : decode cX3_track 2 = .ok (.invokevirtual 126, 3) := by decide +kernel
theorem dX3_track_5 : decode cX3_track 5 = .ok (.ifCond .ne 5, 3) := by decide +kernel
theorem dX3_track_8 : decode cX3_track 8 = .ok (.iconst (-1), 1) := by decide +kernel
theorem dX3_track_9 : decode cX3_track 9 = .ok (.ireturn, 1) := by decide +kernel
theorem dX3_track_10 : decode cX3_track 10 = .ok (.iload_n 2, 1) := by decide +kernel
theorem dX3_track_11 : decode cX3_track 11 = .ok (.iconst 0, 1) := by decide +kernel
theorem dX3_track_12 : decode cX3_track 12 = .ok (.iconst 4, 1) := by decide +kernel
theorem dX3_track_13 : decode cX3_track 13 = .ok (.invokestatic 66, 3) := by decide +kernel
theorem dX3_track_16 : decode cX3_track 16 = .ok (.ifCond .ne 6, 3) := by decide +kernel
theorem dX3_track_19 : decode cX3_track 19 = .ok (.bipush (-2), 2) := by decide +kernel
theorem dX3_track_21 : decode cX3_track 21 = .ok (.ireturn, 1) := by decide +kernel
theorem dX3_track_22 : decode cX3_track 22 = .ok (.aload_n 0, 1) := by decide +kernel
theorem dX3_track_23 : decode cX3_track 23 = .ok (.getfield 48, 3) := by decide +kernel
theorem dX3_track_26 : decode cX3_track 26 = .ok (.iload_n 1, 1) := by decide +kernel
theorem dX3_track_27 : decode cX3_track 27 = .ok (.invokevirtual 185, 3) := by decide +kernel
theorem dX3_track_30 : decode cX3_track 30 = .ok (.ifCond .ne 6, 3) := by decide +kernel
theorem dX3_track_33 : decode cX3_track 33 = .ok (.bipush (-9), 2) := by decide +kernel
theorem dX3_track_35 : decode cX3_track 35 = .ok (.ireturn, 1) := by decide +kernel
theorem dX3_track_36 : decode cX3_track 36 = .ok (.iload_n 2, 1) := by decide +kernel
theorem dX3_track_37 : decode cX3_track 37 = .ok (.tableswitch 77 0 3 #[31, 41, 54, 67], 31) := by decide +kernel
theorem dX3_track_68 : decode cX3_track 68 = .ok (.aload_n 0, 1) := by decide +kernel
theorem dX3_track_69 : decode cX3_track 69 = .ok (.getfield 48, 3) := by decide +kernel
theorem dX3_track_72 : decode cX3_track 72 = .ok (.getfield 188, 3) := by decide +kernel
theorem dX3_track_75 : decode cX3_track 75 = .ok (.iload_n 1, 1) := by decide +kernel
theorem dX3_track_76 : decode cX3_track 76 = .ok (.iaload, 1) := by decide +kernel
theorem dX3_track_77 : decode cX3_track 77 = .ok (.ireturn, 1) := by decide +kernel
theorem dX3_track_78 : decode cX3_track 78 = .ok (.aload_n 0, 1) := by decide +kernel
theorem dX3_track_79 : decode cX3_track 79 = .ok (.getfield 48, 3) := by decide +kernel
theorem dX3_track_82 : decode cX3_track 82 = .ok (.getfield 191, 3) := by decide +kernel
theorem dX3_track_85 : decode cX3_track 85 = .ok (.iload_n 1, 1) := by decide +kernel
theorem dX3_track_86 : decode cX3_track 86 = .ok (.iaload, 1) := by decide +kernel
theorem dX3_track_87 : decode cX3_track 87 = .ok (.bipush 10, 2) := by decide +kernel
theorem dX3_track_89 : decode cX3_track 89 = .ok (.iadd, 1) := by decide +kernel
theorem dX3_track_90 : decode cX3_track 90 = .ok (.ireturn, 1) := by decide +kernel
theorem dX3_track_91 : decode cX3_track 91 = .ok (.aload_n 0, 1) := by decide +kernel
theorem dX3_track_92 : decode cX3_track 92 = .ok (.getfield 48, 3) := by decide +kernel
theorem dX3_track_95 : decode cX3_track 95 = .ok (.getfield 194, 3) := by decide +kernel
theorem dX3_track_98 : decode cX3_track 98 = .ok (.iload_n 1, 1) := by decide +kernel
theorem dX3_track_99 : decode cX3_track 99 = .ok (.iaload, 1) := by decide +kernel
theorem dX3_track_100 : decode cX3_track 100 = .ok (.invokestatic 138, 3) := by decide +kernel
theorem dX3_track_103 : decode cX3_track 103 = .ok (.ireturn, 1) := by decide +kernel
theorem dX3_track_104 : decode cX3_track 104 = .ok (.aload_n 0, 1) := by decide +kernel
theorem dX3_track_105 : decode cX3_track 105 = .ok (.getfield 48, 3) := by decide +kernel
theorem dX3_track_108 : decode cX3_track 108 = .ok (.getfield 194, 3) := by decide +kernel
theorem dX3_track_111 : decode cX3_track 111 = .ok (.iload_n 1, 1) := by decide +kernel
theorem dX3_track_112 : decode cX3_track 112 = .ok (.iaload, 1) := by decide +kernel
theorem dX3_track_113 : decode cX3_track 113 = .ok (.ireturn, 1) := by decide +kernel
theorem dX3_track_114 : decode cX3_track 114 = .ok (.aload_n 0, 1) := by decide +kernel
theorem dX3_track_115 : decode cX3_track 115 = .ok (.getfield 48, 3) := by decide +kernel
theorem dX3_track_118 : decode cX3_track 118 = .ok (.getfield 197, 3) := by decide +kernel
theorem dX3_track_121 : decode cX3_track 121 = .ok (.iload_n 1, 1) := by decide +kernel
theorem dX3_track_122 : decode cX3_track 122 = .ok (.iaload, 1) := by decide +kernel
theorem dX3_track_123 : decode cX3_track 123 = .ok (.ireturn, 1) := by decide +kernel
theorem dX3_through_0 : decode cX3_through 0 = .ok (.iload_n 1, 1) := by decide +kernel
theorem dX3_through_1 : decode cX3_through 1 = .ok (.invokestatic 62, 3) := by decide +kernel
theorem dX3_through_4 : decode cX3_through 4 = .ok (.ifCond .ne 5, 3) := by decide +kernel
theorem dX3_through_7 : decode cX3_through 7 = .ok (.iconst (-1), 1) := by decide +kernel
theorem dX3_through_8 : decode cX3_through 8 = .ok (.ireturn, 1) := by decide +kernel
theorem dX3_through_9 : decode cX3_through 9 = .ok (.iload_n 2, 1) := by decide +kernel
theorem dX3_through_10 : decode cX3_through 10 = .ok (.invokestatic 95, 3) := by decide +kernel
theorem dX3_through_13 : decode cX3_through 13 = .ok (.ifCond .ne 6, 3) := by decide +kernel
theorem dX3_through_16 : decode cX3_through 16 = .ok (.bipush (-2), 2) := by decide +kernel
theorem dX3_through_18 : decode cX3_through 18 = .ok (.ireturn, 1) := by decide +kernel
theorem dX3_through_19 : decode cX3_through 19 = .ok (.iconst 0, 1) := by decide +kernel
theorem dX3_through_20 : decode cX3_through 20 = .ok (.istore_n 3, 1) := by decide +kernel
theorem dX3_through_21 : decode cX3_through 21 = .ok (.iconst 0, 1) := by decide +kernel
theorem dX3_through_22 : decode cX3_through 22 = .ok (.istore 4, 2) := by decide +kernel
theorem dX3_through_24 : decode cX3_through 24 = .ok (.iload 4, 2) := by decide +kernel
theorem dX3_through_26 : decode cX3_through 26 = .ok (.aload_n 0, 1) := by decide +kernel
theorem dX3_through_27 : decode cX3_through 27 = .ok (.getfield 48, 3) := by decide +kernel
theorem dX3_through_30 : decode cX3_through 30 = .ok (.getfield 116, 3) := by decide +kernel
theorem dX3_through_33 : decode cX3_through 33 = .ok (.if_icmp .ge 55, 3) := by decide +kernel
theorem dX3_through_36 : decode cX3_through 36 = .ok (.aload_n 0, 1) := by decide +kernel
theorem dX3_through_37 : decode cX3_through 37 = .ok (.getfield 48, 3) := by decide +kernel
theorem dX3_through_40 : decode cX3_through 40 = .ok (.getfield 188, 3) := by decide +kernel
theorem dX3_through_43 : decode cX3_through 43 = .ok (.iload 4, 2) := by decide +kernel
theorem dX3_through_45 : decode cX3_through 45 = .ok (.iaload, 1) := by decide +kernel
theorem dX3_through_46 : decode cX3_through 46 = .ok (.aload_n 0, 1) := by decide +kernel
theorem dX3_through_47 : decode cX3_through 47 = .ok (.getfield 48, 3) := by decide +kernel
theorem dX3_through_50 : decode cX3_through 50 = .ok (.getfield 191, 3) := by decide +kernel
theorem dX3_through_53 : decode cX3_through 53 = .ok (.iload 4, 2) := by decide +kernel
theorem dX3_through_55 : decode cX3_through 55 = .ok (.iaload, 1) := by decide +kernel
theorem dX3_through_56 : decode cX3_through 56 = .ok (.iload_n 1, 1) := by decide +kernel
theorem dX3_through_57 : decode cX3_through 57 = .ok (.imul, 1) := by decide +kernel
theorem dX3_through_58 : decode cX3_through 58 = .ok (.iadd, 1) := by decide +kernel
theorem dX3_through_59 : decode cX3_through 59 = .ok (.istore 5, 2) := by decide +kernel
theorem dX3_through_61 : decode cX3_through 61 = .ok (.aload_n 0, 1) := by decide +kernel
theorem dX3_through_62 : decode cX3_through 62 = .ok (.getfield 48, 3) := by decide +kernel
theorem dX3_through_65 : decode cX3_through 65 = .ok (.iload 4, 2) := by decide +kernel
theorem dX3_through_67 : decode cX3_through 67 = .ok (.invokevirtual 185, 3) := by decide +kernel
theorem dX3_through_70 : decode cX3_through 70 = .ok (.ifCond .eq 12, 3) := by decide +kernel
theorem dX3_through_73 : decode cX3_through 73 = .ok (.iload 5, 2) := by decide +kernel
theorem dX3_through_75 : decode cX3_through 75 = .ok (.iload_n 2, 1) := by decide +kernel
theorem dX3_through_76 : decode cX3_through 76 = .ok (.if_icmp .ne 6, 3) := by decide +kernel
theorem dX3_through_79 : decode cX3_through 79 = .ok (.iinc 3 1, 3) := by decide +kernel
theorem dX3_through_82 : decode cX3_through 82 = .ok (.iinc 4 1, 3) := by decide +kernel
theorem dX3_through_85 : decode cX3_through 85 = .ok (.goto (-61), 3) := by decide +kernel
theorem dX3_through_88 : decode cX3_through 88 = .ok (.iload_n 3, 1) := by decide +kernel
theorem dX3_through_89 : decode cX3_through 89 = .ok (.ireturn, 1) := by decide +kernel
theorem dX3_many_0 : decode cX3_many 0 = .ok (.iload_n 1, 1) := by decide +kernel
theorem dX3_many_1 : decode cX3_many 1 = .ok (.tableswitch 171 0 12 #[67, 80, 85, 93, 98, 106, 119, 124, 132, 137, 145, 153, 162], 67) := by decide +kernel
theorem dX3_many_68 : decode cX3_many 68 = .ok (.aload_n 0, 1) := by decide +kernel
theorem dX3_many_69 : decode cX3_many 69 = .ok (.getfield 35, 3) := by decide +kernel
theorem dX3_many_72 : decode cX3_many 72 = .ok (.getfield 74, 3) := by decide +kernel
theorem dX3_many_75 : decode cX3_many 75 = .ok (.aload_n 0, 1) := by decide +kernel
theorem dX3_many_76 : decode cX3_many 76 = .ok (.getfield 106, 3) := by decide +kernel
theorem dX3_many_79 : decode cX3_many 79 = .ok (.iadd, 1) := by decide +kernel
theorem dX3_many_80 : decode cX3_many 80 = .ok (.ireturn, 1) := by decide +kernel
theorem dX3_many_81 : decode cX3_many 81 = .ok (.aload_n 0, 1) := by decide +kernel
theorem dX3_many_82 : decode cX3_many 82 = .ok (.getfield 106, 3) := by decide +kernel
theorem dX3_many_85 : decode cX3_many 85 = .ok (.ireturn, 1) := by decide +kernel
theorem dX3_many_86 : decode cX3_many 86 = .ok (.aload_n 0, 1) := by decide +kernel
theorem dX3_many_87 : decode cX3_many 87 = .ok (.getfield 35, 3) := by decide +kernel
theorem dX3_many_90 : decode cX3_many 90 = .ok (.getfield 74, 3) := by decide +kernel
theorem dX3_many_93 : decode cX3_many 93 = .ok (.ireturn, 1) := by decide +kernel
theorem dX3_many_94 : decode cX3_many 94 = .ok (.aload_n 0, 1) := by decide +kernel
theorem dX3_many_95 : decode cX3_many 95 = .ok (.getfield 86, 3) := by decide +kernel
theorem dX3_many_98 : decode cX3_many 98 = .ok (.ireturn, 1) := by decide +kernel
theorem dX3_many_99 : decode cX3_many 99 = .ok (.aload_n 0, 1) := by decide +kernel
theorem dX3_many_100 : decode cX3_many 100 = .ok (.getfield 39, 3) := by decide +kernel
theorem dX3_many_103 : decode cX3_many 103 = .ok (.getfield 74, 3) := by decide +kernel
theorem dX3_many_106 : decode cX3_many 106 = .ok (.ireturn, 1) := by decide +kernel
theorem dX3_many_107 : decode cX3_many 107 = .ok (.aload_n 0, 1) := by decide +kernel
theorem dX3_many_108 : decode cX3_many 108 = .ok (.getfield 86, 3) := by decide +kernel
theorem dX3_many_111 : decode cX3_many 111 = .ok (.aload_n 0, 1) := by decide +kernel
theorem dX3_many_112 : decode cX3_many 112 = .ok (.getfield 39, 3) := by decide +kernel
theorem dX3_many_115 : decode cX3_many 115 = .ok (.getfield 74, 3) := by decide +kernel
theorem dX3_many_118 : decode cX3_many 118 = .ok (.isub, 1) := by decide +kernel
theorem dX3_many_119 : decode cX3_many 119 = .ok (.ireturn, 1) := by decide +kernel
theorem dX3_many_120 : decode cX3_many 120 = .ok (.aload_n 0, 1) := by decide +kernel
theorem dX3_many_121 : decode cX3_many 121 = .ok (.getfield 123, 3) := by decide +kernel
theorem dX3_many_124 : decode cX3_many 124 = .ok (.ireturn, 1) := by decide +kernel
theorem dX3_many_125 : decode cX3_many 125 = .ok (.aload_n 0, 1) := by decide +kernel
theorem dX3_many_126 : decode cX3_many 126 = .ok (.getfield 48, 3) := by decide +kernel
theorem dX3_many_129 : decode cX3_many 129 = .ok (.getfield 116, 3) := by decide +kernel
theorem dX3_many_132 : decode cX3_many 132 = .ok (.ireturn, 1) := by decide +kernel
theorem dX3_many_133 : decode cX3_many 133 = .ok (.aload_n 0, 1) := by decide +kernel
theorem dX3_many_134 : decode cX3_many 134 = .ok (.invokevirtual 200, 3) := by decide +kernel
theorem dX3_many_137 : decode cX3_many 137 = .ok (.ireturn, 1) := by decide +kernel
theorem dX3_many_138 : decode cX3_many 138 = .ok (.aload_n 0, 1) := by decide +kernel
theorem dX3_many_139 : decode cX3_many 139 = .ok (.getfield 48, 3) := by decide +kernel
theorem dX3_many_142 : decode cX3_many 142 = .ok (.invokevirtual 203, 3) := by decide +kernel
theorem dX3_many_145 : decode cX3_many 145 = .ok (.ireturn, 1) := by decide +kernel
theorem dX3_many_146 : decode cX3_many 146 = .ok (.aload_n 0, 1) := by decide +kernel
theorem dX3_many_147 : decode cX3_many 147 = .ok (.getfield 48, 3) := by decide +kernel
theorem dX3_many_150 : decode cX3_many 150 = .ok (.invokevirtual 206, 3) := by decide +kernel
theorem dX3_many_153 : decode cX3_many 153 = .ok (.ireturn, 1) := by decide +kernel
theorem dX3_many_154 : decode cX3_many 154 = .ok (.aload_n 0, 1) := by decide +kernel
theorem dX3_many_155 : decode cX3_many 155 = .ok (.invokevirtual 102, 3) := by decide +kernel
theorem dX3_many_158 : decode cX3_many 158 = .ok (.sipush 2000, 3) := by decide +kernel
theorem dX3_many_161 : decode cX3_many 161 = .ok (.iadd, 1) := by decide +kernel
theorem dX3_many_162 : decode cX3_many 162 = .ok (.ireturn, 1) := by decide +kernel
theorem dX3_many_163 : decode cX3_many 163 = .ok (.aload_n 0, 1) := by decide +kernel
theorem dX3_many_164 : decode cX3_many 164 = .ok (.invokevirtual 209, 3) := by decide +kernel
theorem dX3_many_167 : decode cX3_many 167 = .ok (.sipush 2000, 3) := by decide +kernel
theorem dX3_many_170 : decode cX3_many 170 = .ok (.iadd, 1) := by decide +kernel
theorem dX3_many_171 : decode cX3_many 171 = .ok (.ireturn, 1) := by decide +kernel
theorem dX3_many_172 : decode cX3_many 172 = .ok (.bipush (-2), 2) := by decide +kernel
theorem dX3_many_174 : decode cX3_many 174 = .ok (.ireturn, 1) := by decide +kernel
theorem dX3_isWithin_0 : decode cX3_isWithin 0 = .ok (.iload_n 0, 1) := by decide +kernel
theorem dX3_isWithin_1 : decode cX3_isWithin 1 = .ok (.iload_n 1, 1) := by decide +kernel
theorem dX3_isWithin_2 : decode cX3_isWithin 2 = .ok (.if_icmp .lt 12, 3) := by decide +kernel
theorem dX3_isWithin_5 : decode cX3_isWithin 5 = .ok (.iload_n 0, 1) := by decide +kernel
theorem dX3_isWithin_6 : decode cX3_isWithin 6 = .ok (.iload_n 2, 1) := by decide +kernel
theorem dX3_isWithin_7 : decode cX3_isWithin 7 = .ok (.if_icmp .gt 7, 3) := by decide +kernel
theorem dX3_isWithin_10 : decode cX3_isWithin 10 = .ok (.iconst 1, 1) := by decide +kernel
theorem dX3_isWithin_11 : decode cX3_isWithin 11 = .ok (.goto 4, 3) := by decide +kernel
theorem dX3_isWithin_14 : decode cX3_isWithin 14 = .ok (.iconst 0, 1) := by decide +kernel
theorem dX3_isWithin_15 : decode cX3_isWithin 15 = .ok (.ireturn, 1) := by decide +kernel
theorem dX3_isPlane_0 : decode cX3_isPlane 0 = .ok (.iload_n 0, 1) := by decide +kernel
theorem dX3_isPlane_1 : decode cX3_isPlane 1 = .ok (.iconst 0, 1) := by decide +kernel
theorem dX3_isPlane_2 : decode cX3_isPlane 2 = .ok (.iconst 5, 1) := by decide +kernel
theorem dX3_isPlane_3 : decode cX3_isPlane 3 = .ok (.invokestatic 66, 3) := by decide +kernel
theorem dX3_isPlane_6 : decode cX3_isPlane 6 = .ok (.ireturn, 1) := by decide +kernel
theorem dX3_isStrip_0 : decode cX3_isStrip 0 = .ok (.iload_n 0, 1) := by decide +kernel
theorem dX3_isStrip_1 : decode cX3_isStrip 1 = .ok (.iconst 0, 1) := by decide +kernel
theorem dX3_isStrip_2 : decode cX3_isStrip 2 = .ok (.bipush 15, 2) := by decide +kernel
theorem dX3_isStrip_4 : decode cX3_isStrip 4 = .ok (.invokestatic 66, 3) := by decide +kernel
theorem dX3_isStrip_7 : decode cX3_isStrip 7 = .ok (.ireturn, 1) := by decide +kernel
theorem dX3_isGroup_0 : decode cX3_isGroup 0 = .ok (.iload_n 1, 1) := by decide +kernel
theorem dX3_isGroup_1 : decode cX3_isGroup 1 = .ok (.iconst 0, 1) := by decide +kernel
theorem dX3_isGroup_2 : decode cX3_isGroup 2 = .ok (.aload_n 0, 1) := by decide +kernel
theorem dX3_isGroup_3 : decode cX3_isGroup 3 = .ok (.getfield 48, 3) := by decide +kernel
theorem dX3_isGroup_6 : decode cX3_isGroup 6 = .ok (.getfield 116, 3) := by decide +kernel
theorem dX3_isGroup_9 : decode cX3_isGroup 9 = .ok (.iconst 1, 1) := by decide +kernel
theorem dX3_isGroup_10 : decode cX3_isGroup 10 = .ok (.isub, 1) := by decide +kernel
theorem dX3_isGroup_11 : decode cX3_isGroup 11 = .ok (.invokestatic 66, 3) := by decide +kernel
theorem dX3_isGroup_14 : decode cX3_isGroup 14 = .ok (.ireturn, 1) := by decide +kernel
theorem dX3_hasBegun_0 : decode cX3_hasBegun 0 = .ok (.aload_n 0, 1) := by decide +kernel
theorem dX3_hasBegun_1 : decode cX3_hasBegun 1 = .ok (.getfield 35, 3) := by decide +kernel
theorem dX3_hasBegun_4 : decode cX3_hasBegun 4 = .ok (.getfield 74, 3) := by decide +kernel
theorem dX3_hasBegun_7 : decode cX3_hasBegun 7 = .ok (.ifCond .gt 10, 3) := by decide +kernel
theorem dX3_hasBegun_10 : decode cX3_hasBegun 10 = .ok (.aload_n 0, 1) := by decide +kernel
theorem dX3_hasBegun_11 : decode cX3_hasBegun 11 = .ok (.getfield 98, 3) := by decide +kernel
theorem dX3_hasBegun_14 : decode cX3_hasBegun 14 = .ok (.ifCond .eq 7, 3) := by decide +kernel
theorem dX3_hasBegun_17 : decode cX3_hasBegun 17 = .ok (.iconst 1, 1) := by decide +kernel
theorem dX3_hasBegun_18 : decode cX3_hasBegun 18 = .ok (.goto 4, 3) := by decide +kernel
theorem dX3_hasBegun_21 : decode cX3_hasBegun 21 = .ok (.iconst 0, 1) := by decide +kernel
theorem dX3_hasBegun_22 : decode cX3_hasBegun 22 = .ok (.ireturn, 1) := by decide +kernel
theorem dX3_horizon_0 : decode cX3_horizon 0 = .ok (.aload_n 0, 1) := by decide +kernel
theorem dX3_horizon_1 : decode cX3_horizon 1 = .ok (.getfield 98, 3) := by decide +kernel
theorem dX3_horizon_4 : decode cX3_horizon 4 = .ok (.ifCond .eq 7, 3) := by decide +kernel
theorem dX3_horizon_7 : decode cX3_horizon 7 = .ok (.sipush 20000, 3) := by decide +kernel
theorem dX3_horizon_10 : decode cX3_horizon 10 = .ok (.ireturn, 1) := by decide +kernel
theorem dX3_horizon_11 : decode cX3_horizon 11 = .ok (.aload_n 0, 1) := by decide +kernel
theorem dX3_horizon_12 : decode cX3_horizon 12 = .ok (.getfield 35, 3) := by decide +kernel
theorem dX3_horizon_15 : decode cX3_horizon 15 = .ok (.getfield 74, 3) := by decide +kernel
theorem dX3_horizon_18 : decode cX3_horizon 18 = .ok (.ifCond .ne 7, 3) := by decide +kernel
theorem dX3_horizon_21 : decode cX3_horizon 21 = .ok (.sipush (-1000), 3) := by decide +kernel
theorem dX3_horizon_24 : decode cX3_horizon 24 = .ok (.ireturn, 1) := by decide +kernel
theorem dX3_horizon_25 : decode cX3_horizon 25 = .ok (.aload_n 0, 1) := by decide +kernel
theorem dX3_horizon_26 : decode cX3_horizon 26 = .ok (.invokevirtual 212, 3) := by decide +kernel
theorem dX3_horizon_29 : decode cX3_horizon 29 = .ok (.aload_n 0, 1) := by decide +kernel
theorem dX3_horizon_30 : decode cX3_horizon 30 = .ok (.getfield 29, 3) := by decide +kernel
theorem dX3_horizon_33 : decode cX3_horizon 33 = .ok (.iconst 0, 1) := by decide +kernel
theorem dX3_horizon_34 : decode cX3_horizon 34 = .ok (.iaload, 1) := by decide +kernel
theorem dX3_horizon_35 : decode cX3_horizon 35 = .ok (.isub, 1) := by decide +kernel
theorem dX3_horizon_36 : decode cX3_horizon 36 = .ok (.ireturn, 1) := by decide +kernel
theorem dX3_latest_0 : decode cX3_latest 0 = .ok (.aload_n 0, 1) := by decide +kernel
theorem dX3_latest_1 : decode cX3_latest 1 = .ok (.getfield 35, 3) := by decide +kernel
theorem dX3_latest_4 : decode cX3_latest 4 = .ok (.getfield 74, 3) := by decide +kernel
theorem dX3_latest_7 : decode cX3_latest 7 = .ok (.iconst 1, 1) := by decide +kernel
theorem dX3_latest_8 : decode cX3_latest 8 = .ok (.isub, 1) := by decide +kernel
theorem dX3_latest_9 : decode cX3_latest 9 = .ok (.istore_n 1, 1) := by decide +kernel
theorem dX3_latest_10 : decode cX3_latest 10 = .ok (.aload_n 0, 1) := by decide +kernel
theorem dX3_latest_11 : decode cX3_latest 11 = .ok (.getfield 35, 3) := by decide +kernel
theorem dX3_latest_14 : decode cX3_latest 14 = .ok (.iload_n 1, 1) := by decide +kernel
theorem dX3_latest_15 : decode cX3_latest 15 = .ok (.invokevirtual 147, 3) := by decide +kernel
theorem dX3_latest_18 : decode cX3_latest 18 = .ok (.ifCond .eq 15, 3) := by decide +kernel
theorem dX3_latest_21 : decode cX3_latest 21 = .ok (.aload_n 0, 1) := by decide +kernel
theorem dX3_latest_22 : decode cX3_latest 22 = .ok (.getfield 35, 3) := by decide +kernel
theorem dX3_latest_25 : decode cX3_latest 25 = .ok (.getfield 150, 3) := by decide +kernel
theorem dX3_latest_28 : decode cX3_latest 28 = .ok (.iload_n 1, 1) := by decide +kernel
theorem dX3_latest_29 : decode cX3_latest 29 = .ok (.iaload, 1) := by decide +kernel
theorem dX3_latest_30 : decode cX3_latest 30 = .ok (.goto 4, 3) := by decide +kernel
theorem dX3_latest_33 : decode cX3_latest 33 = .ok (.iconst (-1), 1) := by decide +kernel
theorem dX3_latest_34 : decode cX3_latest 34 = .ok (.ireturn, 1) := by decide +kernel
theorem dX3_span_0 : decode cX3_span 0 = .ok (.aload_n 0, 1) := by decide +kernel
theorem dX3_span_1 : decode cX3_span 1 = .ok (.invokevirtual 212, 3) := by decide +kernel
theorem dX3_span_4 : decode cX3_span 4 = .ok (.iconst 1, 1) := by decide +kernel
theorem dX3_span_5 : decode cX3_span 5 = .ok (.iadd, 1) := by decide +kernel
theorem dX3_span_6 : decode cX3_span 6 = .ok (.ireturn, 1) := by decide +kernel
theorem dX3_edge_0 : decode cX3_edge 0 = .ok (.iconst 0, 1) := by decide +kernel
theorem dX3_edge_1 : decode cX3_edge 1 = .ok (.istore_n 1, 1) := by decide +kernel
theorem dX3_edge_2 : decode cX3_edge 2 = .ok (.iconst 0, 1) := by decide +kernel
theorem dX3_edge_3 : decode cX3_edge 3 = .ok (.istore_n 2, 1) := by decide +kernel
theorem dX3_edge_4 : decode cX3_edge 4 = .ok (.iload_n 2, 1) := by decide +kernel
theorem dX3_edge_5 : decode cX3_edge 5 = .ok (.bipush 6, 2) := by decide +kernel
theorem dX3_edge_7 : decode cX3_edge 7 = .ok (.if_icmp .ge 20, 3) := by decide +kernel
theorem dX3_edge_10 : decode cX3_edge 10 = .ok (.iload_n 1, 1) := by decide +kernel
theorem dX3_edge_11 : decode cX3_edge 11 = .ok (.aload_n 0, 1) := by decide +kernel
theorem dX3_edge_12 : decode cX3_edge 12 = .ok (.getfield 11, 3) := by decide +kernel
theorem dX3_edge_15 : decode cX3_edge 15 = .ok (.iload_n 2, 1) := by decide +kernel
theorem dX3_edge_16 : decode cX3_edge 16 = .ok (.iaload, 1) := by decide +kernel
theorem dX3_edge_17 : decode cX3_edge 17 = .ok (.invokestatic 215, 3) := by decide +kernel
theorem dX3_edge_20 : decode cX3_edge 20 = .ok (.istore_n 1, 1) := by decide +kernel
theorem dX3_edge_21 : decode cX3_edge 21 = .ok (.iinc 2 1, 3) := by decide +kernel
theorem dX3_edge_24 : decode cX3_edge 24 = .ok (.goto (-20), 3) := by decide +kernel
theorem dX3_edge_27 : decode cX3_edge 27 = .ok (.aload_n 0, 1) := by decide +kernel
theorem dX3_edge_28 : decode cX3_edge 28 = .ok (.invokevirtual 102, 3) := by decide +kernel
theorem dX3_edge_31 : decode cX3_edge 31 = .ok (.iload_n 1, 1) := by decide +kernel
theorem dX3_edge_32 : decode cX3_edge 32 = .ok (.isub, 1) := by decide +kernel
theorem dX3_edge_33 : decode cX3_edge 33 = .ok (.ireturn, 1) := by decide +kernel
theorem dX3_follow_0 : decode cX3_follow 0 = .ok (.aload_n 0, 1) := by decide +kernel
theorem dX3_follow_1 : decode cX3_follow 1 = .ok (.aload_n 0, 1) := by decide +kernel
theorem dX3_follow_2 : decode cX3_follow 2 = .ok (.invokevirtual 102, 3) := by decide +kernel
theorem dX3_follow_5 : decode cX3_follow 5 = .ok (.invokevirtual 220, 3) := by decide +kernel
theorem dX3_follow_8 : decode cX3_follow 8 = .ok (.aload_n 0, 1) := by decide +kernel
theorem dX3_follow_9 : decode cX3_follow 9 = .ok (.invokevirtual 209, 3) := by decide +kernel
theorem dX3_follow_12 : decode cX3_follow 12 = .ok (.istore_n 1, 1) := by decide +kernel
theorem dX3_follow_13 : decode cX3_follow 13 = .ok (.aload_n 0, 1) := by decide +kernel
theorem dX3_follow_14 : decode cX3_follow 14 = .ok (.getfield 123, 3) := by decide +kernel
theorem dX3_follow_17 : decode cX3_follow 17 = .ok (.aload_n 0, 1) := by decide +kernel
theorem dX3_follow_18 : decode cX3_follow 18 = .ok (.getfield 39, 3) := by decide +kernel
theorem dX3_follow_21 : decode cX3_follow 21 = .ok (.getfield 74, 3) := by decide +kernel
theorem dX3_follow_24 : decode cX3_follow 24 = .ok (.if_icmp .ge 32, 3) := by decide +kernel
theorem dX3_follow_27 : decode cX3_follow 27 = .ok (.aload_n 0, 1) := by decide +kernel
theorem dX3_follow_28 : decode cX3_follow 28 = .ok (.getfield 39, 3) := by decide +kernel
theorem dX3_follow_31 : decode cX3_follow 31 = .ok (.getfield 150, 3) := by decide +kernel
theorem dX3_follow_34 : decode cX3_follow 34 = .ok (.aload_n 0, 1) := by decide +kernel
theorem dX3_follow_35 : decode cX3_follow 35 = .ok (.getfield 123, 3) := by decide +kernel
theorem dX3_follow_38 : decode cX3_follow 38 = .ok (.iaload, 1) := by decide +kernel
theorem dX3_follow_39 : decode cX3_follow 39 = .ok (.iload_n 1, 1) := by decide +kernel
theorem dX3_follow_40 : decode cX3_follow 40 = .ok (.if_icmp .ge 16, 3) := by decide +kernel
theorem dX3_follow_43 : decode cX3_follow 43 = .ok (.aload_n 0, 1) := by decide +kernel
theorem dX3_follow_44 : decode cX3_follow 44 = .ok (.dup, 1) := by decide +kernel
theorem dX3_follow_45 : decode cX3_follow 45 = .ok (.getfield 123, 3) := by decide +kernel
theorem dX3_follow_48 : decode cX3_follow 48 = .ok (.iconst 1, 1) := by decide +kernel
theorem dX3_follow_49 : decode cX3_follow 49 = .ok (.iadd, 1) := by decide +kernel
theorem dX3_follow_50 : decode cX3_follow 50 = .ok (.putfield 123, 3) := by decide +kernel
theorem dX3_follow_53 : decode cX3_follow 53 = .ok (.goto (-40), 3) := by decide +kernel
theorem dX3_follow_56 : decode cX3_follow 56 = .ok (.iconst 0, 1) := by decide +kernel
theorem dX3_follow_57 : decode cX3_follow 57 = .ok (.istore_n 2, 1) := by decide +kernel
theorem dX3_follow_58 : decode cX3_follow 58 = .ok (.iload_n 2, 1) := by decide +kernel
theorem dX3_follow_59 : decode cX3_follow 59 = .ok (.sipush 240, 3) := by decide +kernel
theorem dX3_follow_62 : decode cX3_follow 62 = .ok (.if_icmp .ge 21, 3) := by decide +kernel
theorem dX3_follow_65 : decode cX3_follow 65 = .ok (.aload_n 0, 1) := by decide +kernel
theorem dX3_follow_66 : decode cX3_follow 66 = .ok (.iload_n 1, 1) := by decide +kernel
theorem dX3_follow_67 : decode cX3_follow 67 = .ok (.invokevirtual 224, 3) := by decide +kernel
theorem dX3_follow_70 : decode cX3_follow 70 = .ok (.ifCond .eq 13, 3) := by decide +kernel
theorem dX3_follow_73 : decode cX3_follow 73 = .ok (.aload_n 0, 1) := by decide +kernel
theorem dX3_follow_74 : decode cX3_follow 74 = .ok (.invokevirtual 227, 3) := by decide +kernel
theorem dX3_follow_77 : decode cX3_follow 77 = .ok (.iinc 2 1, 3) := by decide +kernel
theorem dX3_follow_80 : decode cX3_follow 80 = .ok (.goto (-22), 3) := by decide +kernel
theorem dX3_follow_83 : decode cX3_follow 83 = .ok (.return_, 1) := by decide +kernel
theorem dX3_settleBelow_0 : decode cX3_settleBelow 0 = .ok (.aload_n 0, 1) := by decide +kernel
theorem dX3_settleBelow_1 : decode cX3_settleBelow 1 = .ok (.getfield 86, 3) := by decide +kernel
theorem dX3_settleBelow_4 : decode cX3_settleBelow 4 = .ok (.aload_n 0, 1) := by decide +kernel
theorem dX3_settleBelow_5 : decode cX3_settleBelow 5 = .ok (.getfield 35, 3) := by decide +kernel
theorem dX3_settleBelow_8 : decode cX3_settleBelow 8 = .ok (.getfield 74, 3) := by decide +kernel
theorem dX3_settleBelow_11 : decode cX3_settleBelow 11 = .ok (.if_icmp .ge 72, 3) := by decide +kernel
theorem dX3_settleBelow_14 : decode cX3_settleBelow 14 = .ok (.aload_n 0, 1) := by decide +kernel
theorem dX3_settleBelow_15 : decode cX3_settleBelow 15 = .ok (.getfield 35, 3) := by decide +kernel
theorem dX3_settleBelow_18 : decode cX3_settleBelow 18 = .ok (.getfield 150, 3) := by decide +kernel
theorem dX3_settleBelow_21 : decode cX3_settleBelow 21 = .ok (.aload_n 0, 1) := by decide +kernel
theorem dX3_settleBelow_22 : decode cX3_settleBelow 22 = .ok (.getfield 86, 3) := by decide +kernel
theorem dX3_settleBelow_25 : decode cX3_settleBelow 25 = .ok (.iaload, 1) := by decide +kernel
theorem dX3_settleBelow_26 : decode cX3_settleBelow 26 = .ok (.iload_n 1, 1) := by decide +kernel
theorem dX3_settleBelow_27 : decode cX3_settleBelow 27 = .ok (.if_icmp .ge 56, 3) := by decide +kernel
theorem dX3_settleBelow_30 : decode cX3_settleBelow 30 = .ok (.aload_n 0, 1) := by decide +kernel
theorem dX3_settleBelow_31 : decode cX3_settleBelow 31 = .ok (.aload_n 0, 1) := by decide +kernel
theorem dX3_settleBelow_32 : decode cX3_settleBelow 32 = .ok (.getfield 35, 3) := by decide +kernel
theorem dX3_settleBelow_35 : decode cX3_settleBelow 35 = .ok (.getfield 150, 3) := by decide +kernel
theorem dX3_settleBelow_38 : decode cX3_settleBelow 38 = .ok (.aload_n 0, 1) := by decide +kernel
theorem dX3_settleBelow_39 : decode cX3_settleBelow 39 = .ok (.getfield 86, 3) := by decide +kernel
theorem dX3_settleBelow_42 : decode cX3_settleBelow 42 = .ok (.iaload, 1) := by decide +kernel
theorem dX3_settleBelow_43 : decode cX3_settleBelow 43 = .ok (.aload_n 0, 1) := by decide +kernel
theorem dX3_settleBelow_44 : decode cX3_settleBelow 44 = .ok (.getfield 35, 3) := by decide +kernel
theorem dX3_settleBelow_47 : decode cX3_settleBelow 47 = .ok (.getfield 230, 3) := by decide +kernel
theorem dX3_settleBelow_50 : decode cX3_settleBelow 50 = .ok (.aload_n 0, 1) := by decide +kernel
theorem dX3_settleBelow_51 : decode cX3_settleBelow 51 = .ok (.getfield 86, 3) := by decide +kernel
theorem dX3_settleBelow_54 : decode cX3_settleBelow 54 = .ok (.iaload, 1) := by decide +kernel
theorem dX3_settleBelow_55 : decode cX3_settleBelow 55 = .ok (.aload_n 0, 1) := by decide +kernel
theorem dX3_settleBelow_56 : decode cX3_settleBelow 56 = .ok (.getfield 35, 3) := by decide +kernel
theorem dX3_settleBelow_59 : decode cX3_settleBelow 59 = .ok (.getfield 153, 3) := by decide +kernel
theorem dX3_settleBelow_62 : decode cX3_settleBelow 62 = .ok (.aload_n 0, 1) := by decide +kernel
theorem dX3_settleBelow_63 : decode cX3_settleBelow 63 = .ok (.getfield 86, 3) := by decide +kernel
theorem dX3_settleBelow_66 : decode cX3_settleBelow 66 = .ok (.iaload, 1) := by decide +kernel
theorem dX3_settleBelow_67 : decode cX3_settleBelow 67 = .ok (.invokevirtual 233, 3) := by decide +kernel
theorem dX3_settleBelow_70 : decode cX3_settleBelow 70 = .ok (.aload_n 0, 1) := by decide +kernel
theorem dX3_settleBelow_71 : decode cX3_settleBelow 71 = .ok (.dup, 1) := by decide +kernel
theorem dX3_settleBelow_72 : decode cX3_settleBelow 72 = .ok (.getfield 86, 3) := by decide +kernel
theorem dX3_settleBelow_75 : decode cX3_settleBelow 75 = .ok (.iconst 1, 1) := by decide +kernel
theorem dX3_settleBelow_76 : decode cX3_settleBelow 76 = .ok (.iadd, 1) := by decide +kernel
theorem dX3_settleBelow_77 : decode cX3_settleBelow 77 = .ok (.putfield 86, 3) := by decide +kernel
theorem dX3_settleBelow_80 : decode cX3_settleBelow 80 = .ok (.goto (-80), 3) := by decide +kernel
theorem dX3_settleBelow_83 : decode cX3_settleBelow 83 = .ok (.return_, 1) := by decide +kernel
theorem dX3_settle_0 : decode cX3_settle 0 = .ok (.iload_n 2, 1) := by decide +kernel
theorem dX3_settle_1 : decode cX3_settle 1 = .ok (.invokestatic 62, 3) := by decide +kernel
theorem dX3_settle_4 : decode cX3_settle 4 = .ok (.ifCond .ne 4, 3) := by decide +kernel
theorem dX3_settle_7 : decode cX3_settle 7 = .ok (.return_, 1) := by decide +kernel
theorem dX3_settle_8 : decode cX3_settle 8 = .ok (.iload_n 1, 1) := by decide +kernel
theorem dX3_settle_9 : decode cX3_settle 9 = .ok (.aload_n 0, 1) := by decide +kernel
theorem dX3_settle_10 : decode cX3_settle 10 = .ok (.getfield 59, 3) := by decide +kernel
theorem dX3_settle_13 : decode cX3_settle 13 = .ok (.iload_n 2, 1) := by decide +kernel
theorem dX3_settle_14 : decode cX3_settle 14 = .ok (.iaload, 1) := by decide +kernel
theorem dX3_settle_15 : decode cX3_settle 15 = .ok (.if_icmp .lt 7, 3) := by decide +kernel
theorem dX3_settle_18 : decode cX3_settle 18 = .ok (.iconst 1, 1) := by decide +kernel
theorem dX3_settle_19 : decode cX3_settle 19 = .ok (.goto 4, 3) := by decide +kernel
theorem dX3_settle_22 : decode cX3_settle 22 = .ok (.iconst 0, 1) := by decide +kernel
theorem dX3_settle_23 : decode cX3_settle 23 = .ok (.istore 4, 2) := by decide +kernel
theorem dX3_settle_25 : decode cX3_settle 25 = .ok (.iload 4, 2) := by decide +kernel
theorem dX3_settle_27 : decode cX3_settle 27 = .ok (.ifCond .eq 20, 3) := by decide +kernel
theorem dX3_settle_30 : decode cX3_settle 30 = .ok (.aload_n 0, 1) := by decide +kernel
theorem dX3_settle_31 : decode cX3_settle 31 = .ok (.getfield 39, 3) := by decide +kernel
theorem dX3_settle_34 : decode cX3_settle 34 = .ok (.iload_n 1, 1) := by decide +kernel
theorem dX3_settle_35 : decode cX3_settle 35 = .ok (.aload_n 0, 1) := by decide +kernel
theorem dX3_settle_36 : decode cX3_settle 36 = .ok (.getfield 11, 3) := by decide +kernel
theorem dX3_settle_39 : decode cX3_settle 39 = .ok (.iload_n 2, 1) := by decide +kernel
theorem dX3_settle_40 : decode cX3_settle 40 = .ok (.iaload, 1) := by decide +kernel
theorem dX3_settle_41 : decode cX3_settle 41 = .ok (.isub, 1) := by decide +kernel
theorem dX3_settle_42 : decode cX3_settle 42 = .ok (.iload_n 2, 1) := by decide +kernel
theorem dX3_settle_43 : decode cX3_settle 43 = .ok (.iload_n 3, 1) := by decide +kernel
theorem dX3_settle_44 : decode cX3_settle 44 = .ok (.invokevirtual 109, 3) := by decide +kernel
theorem dX3_settle_47 : decode cX3_settle 47 = .ok (.iload 4, 2) := by decide +kernel
theorem dX3_settle_49 : decode cX3_settle 49 = .ok (.ifCond .ne 13, 3) := by decide +kernel
theorem dX3_settle_52 : decode cX3_settle 52 = .ok (.aload_n 0, 1) := by decide +kernel
theorem dX3_settle_53 : decode cX3_settle 53 = .ok (.getfield 18, 3) := by decide +kernel
theorem dX3_settle_56 : decode cX3_settle 56 = .ok (.iload_n 2, 1) := by decide +kernel
theorem dX3_settle_57 : decode cX3_settle 57 = .ok (.iaload, 1) := by decide +kernel
theorem dX3_settle_58 : decode cX3_settle 58 = .ok (.iconst 1, 1) := by decide +kernel
theorem dX3_settle_59 : decode cX3_settle 59 = .ok (.if_icmp .ne 17, 3) := by decide +kernel
theorem dX3_settle_62 : decode cX3_settle 62 = .ok (.aload_n 0, 1) := by decide +kernel
theorem dX3_settle_63 : decode cX3_settle 63 = .ok (.getfield 59, 3) := by decide +kernel
theorem dX3_settle_66 : decode cX3_settle 66 = .ok (.iload_n 2, 1) := by decide +kernel
theorem dX3_settle_67 : decode cX3_settle 67 = .ok (.iload_n 1, 1) := by decide +kernel
theorem dX3_settle_68 : decode cX3_settle 68 = .ok (.aload_n 0, 1) := by decide +kernel
theorem dX3_settle_69 : decode cX3_settle 69 = .ok (.getfield 15, 3) := by decide +kernel
theorem dX3_settle_72 : decode cX3_settle 72 = .ok (.iload_n 2, 1) := by decide +kernel
theorem dX3_settle_73 : decode cX3_settle 73 = .ok (.iaload, 1) := by decide +kernel
theorem dX3_settle_74 : decode cX3_settle 74 = .ok (.iadd, 1) := by decide +kernel
theorem dX3_settle_75 : decode cX3_settle 75 = .ok (.iastore, 1) := by decide +kernel
theorem dX3_settle_76 : decode cX3_settle 76 = .ok (.return_, 1) := by decide +kernel
theorem dX3_nextGroupIsShut_0 : decode cX3_nextGroupIsShut 0 = .ok (.aload_n 0, 1) := by decide +kernel
theorem dX3_nextGroupIsShut_1 : decode cX3_nextGroupIsShut 1 = .ok (.getfield 48, 3) := by decide +kernel
theorem dX3_nextGroupIsShut_4 : decode cX3_nextGroupIsShut 4 = .ok (.invokevirtual 203, 3) := by decide +kernel
theorem dX3_nextGroupIsShut_7 : decode cX3_nextGroupIsShut 7 = .ok (.istore_n 2, 1) := by decide +kernel
theorem dX3_nextGroupIsShut_8 : decode cX3_nextGroupIsShut 8 = .ok (.iload_n 2, 1) := by decide +kernel
theorem dX3_nextGroupIsShut_9 : decode cX3_nextGroupIsShut 9 = .ok (.aload_n 0, 1) := by decide +kernel
theorem dX3_nextGroupIsShut_10 : decode cX3_nextGroupIsShut 10 = .ok (.getfield 123, 3) := by decide +kernel
theorem dX3_nextGroupIsShut_13 : decode cX3_nextGroupIsShut 13 = .ok (.if_icmp .ge 26, 3) := by decide +kernel
theorem dX3_nextGroupIsShut_16 : decode cX3_nextGroupIsShut 16 = .ok (.aload_n 0, 1) := by decide +kernel
theorem dX3_nextGroupIsShut_17 : decode cX3_nextGroupIsShut 17 = .ok (.getfield 39, 3) := by decide +kernel
theorem dX3_nextGroupIsShut_20 : decode cX3_nextGroupIsShut 20 = .ok (.iload_n 2, 1) := by decide +kernel
theorem dX3_nextGroupIsShut_21 : decode cX3_nextGroupIsShut 21 = .ok (.invokevirtual 132, 3) := by decide +kernel
theorem dX3_nextGroupIsShut_24 : decode cX3_nextGroupIsShut 24 = .ok (.aload_n 0, 1) := by decide +kernel
theorem dX3_nextGroupIsShut_25 : decode cX3_nextGroupIsShut 25 = .ok (.getfield 29, 3) := by decide +kernel
theorem dX3_nextGroupIsShut_28 : decode cX3_nextGroupIsShut 28 = .ok (.iconst 1, 1) := by decide +kernel
theorem dX3_nextGroupIsShut_29 : decode cX3_nextGroupIsShut 29 = .ok (.iaload, 1) := by decide +kernel
theorem dX3_nextGroupIsShut_30 : decode cX3_nextGroupIsShut 30 = .ok (.iadd, 1) := by decide +kernel
theorem dX3_nextGroupIsShut_31 : decode cX3_nextGroupIsShut 31 = .ok (.iload_n 1, 1) := by decide +kernel
theorem dX3_nextGroupIsShut_32 : decode cX3_nextGroupIsShut 32 = .ok (.if_icmp .ge 7, 3) := by decide +kernel
theorem dX3_nextGroupIsShut_35 : decode cX3_nextGroupIsShut 35 = .ok (.iconst 1, 1) := by decide +kernel
theorem dX3_nextGroupIsShut_36 : decode cX3_nextGroupIsShut 36 = .ok (.goto 4, 3) := by decide +kernel
theorem dX3_nextGroupIsShut_39 : decode cX3_nextGroupIsShut 39 = .ok (.iconst 0, 1) := by decide +kernel
theorem dX3_nextGroupIsShut_40 : decode cX3_nextGroupIsShut 40 = .ok (.ireturn, 1) := by decide +kernel
theorem dX3_shutGroup_0 : decode cX3_shutGroup 0 = .ok (.aload_n 0, 1) := by decide +kernel
theorem dX3_shutGroup_1 : decode cX3_shutGroup 1 = .ok (.getfield 48, 3) := by decide +kernel
theorem dX3_shutGroup_4 : decode cX3_shutGroup 4 = .ok (.invokevirtual 203, 3) := by decide +kernel
theorem dX3_shutGroup_7 : decode cX3_shutGroup 7 = .ok (.istore_n 1, 1) := by decide +kernel
theorem dX3_shutGroup_8 : decode cX3_shutGroup 8 = .ok (.aload_n 0, 1) := by decide +kernel
theorem dX3_shutGroup_9 : decode cX3_shutGroup 9 = .ok (.getfield 39, 3) := by decide +kernel
theorem dX3_shutGroup_12 : decode cX3_shutGroup 12 = .ok (.iload_n 1, 1) := by decide +kernel
theorem dX3_shutGroup_13 : decode cX3_shutGroup 13 = .ok (.aload_n 0, 1) := by decide +kernel
theorem dX3_shutGroup_14 : decode cX3_shutGroup 14 = .ok (.getfield 123, 3) := by decide +kernel
theorem dX3_shutGroup_17 : decode cX3_shutGroup 17 = .ok (.aload_n 0, 1) := by decide +kernel
theorem dX3_shutGroup_18 : decode cX3_shutGroup 18 = .ok (.getfield 29, 3) := by decide +kernel
theorem dX3_shutGroup_21 : decode cX3_shutGroup 21 = .ok (.iconst 1, 1) := by decide +kernel
theorem dX3_shutGroup_22 : decode cX3_shutGroup 22 = .ok (.iaload, 1) := by decide +kernel
theorem dX3_shutGroup_23 : decode cX3_shutGroup 23 = .ok (.invokevirtual 160, 3) := by decide +kernel
theorem dX3_shutGroup_26 : decode cX3_shutGroup 26 = .ok (.istore_n 2, 1) := by decide +kernel
theorem dX3_shutGroup_27 : decode cX3_shutGroup 27 = .ok (.aload_n 0, 1) := by decide +kernel
theorem dX3_shutGroup_28 : decode cX3_shutGroup 28 = .ok (.getfield 39, 3) := by decide +kernel
theorem dX3_shutGroup_31 : decode cX3_shutGroup 31 = .ok (.iload_n 1, 1) := by decide +kernel
theorem dX3_shutGroup_32 : decode cX3_shutGroup 32 = .ok (.iload_n 2, 1) := by decide +kernel
theorem dX3_shutGroup_33 : decode cX3_shutGroup 33 = .ok (.aload_n 0, 1) := by decide +kernel
theorem dX3_shutGroup_34 : decode cX3_shutGroup 34 = .ok (.getfield 55, 3) := by decide +kernel
theorem dX3_shutGroup_37 : decode cX3_shutGroup 37 = .ok (.getfield 236, 3) := by decide +kernel
theorem dX3_shutGroup_40 : decode cX3_shutGroup 40 = .ok (.invokevirtual 239, 3) := by decide +kernel
theorem dX3_shutGroup_43 : decode cX3_shutGroup 43 = .ok (.aload_n 0, 1) := by decide +kernel
theorem dX3_shutGroup_44 : decode cX3_shutGroup 44 = .ok (.getfield 55, 3) := by decide +kernel
theorem dX3_shutGroup_47 : decode cX3_shutGroup 47 = .ok (.aload_n 0, 1) := by decide +kernel
theorem dX3_shutGroup_48 : decode cX3_shutGroup 48 = .ok (.getfield 29, 3) := by decide +kernel
theorem dX3_shutGroup_51 : decode cX3_shutGroup 51 = .ok (.iconst 3, 1) := by decide +kernel
theorem dX3_shutGroup_52 : decode cX3_shutGroup 52 = .ok (.iaload, 1) := by decide +kernel
theorem dX3_shutGroup_53 : decode cX3_shutGroup 53 = .ok (.aload_n 0, 1) := by decide +kernel
theorem dX3_shutGroup_54 : decode cX3_shutGroup 54 = .ok (.getfield 29, 3) := by decide +kernel
theorem dX3_shutGroup_57 : decode cX3_shutGroup 57 = .ok (.iconst 2, 1) := by decide +kernel
theorem dX3_shutGroup_58 : decode cX3_shutGroup 58 = .ok (.iaload, 1) := by decide +kernel
theorem dX3_shutGroup_59 : decode cX3_shutGroup 59 = .ok (.invokevirtual 243, 3) := by decide +kernel
theorem dX3_shutGroup_62 : decode cX3_shutGroup 62 = .ok (.aload_n 0, 1) := by decide +kernel
theorem dX3_shutGroup_63 : decode cX3_shutGroup 63 = .ok (.getfield 48, 3) := by decide +kernel
theorem dX3_shutGroup_66 : decode cX3_shutGroup 66 = .ok (.iload_n 2, 1) := by decide +kernel
theorem dX3_shutGroup_67 : decode cX3_shutGroup 67 = .ok (.aload_n 0, 1) := by decide +kernel
theorem dX3_shutGroup_68 : decode cX3_shutGroup 68 = .ok (.getfield 39, 3) := by decide +kernel
theorem dX3_shutGroup_71 : decode cX3_shutGroup 71 = .ok (.iload_n 1, 1) := by decide +kernel
theorem dX3_shutGroup_72 : decode cX3_shutGroup 72 = .ok (.iload_n 2, 1) := by decide +kernel
theorem dX3_shutGroup_73 : decode cX3_shutGroup 73 = .ok (.invokevirtual 163, 3) := by decide +kernel
theorem dX3_shutGroup_76 : decode cX3_shutGroup 76 = .ok (.aload_n 0, 1) := by decide +kernel
theorem dX3_shutGroup_77 : decode cX3_shutGroup 77 = .ok (.getfield 55, 3) := by decide +kernel
theorem dX3_shutGroup_80 : decode cX3_shutGroup 80 = .ok (.invokevirtual 247, 3) := by decide +kernel
theorem dX3_shutGroup_83 : decode cX3_shutGroup 83 = .ok (.return_, 1) := by decide +kernel
theorem dX3_liveOf_0 : decode cX3_liveOf 0 = .ok (.aload_n 0, 1) := by decide +kernel
theorem dX3_liveOf_1 : decode cX3_liveOf 1 = .ok (.getfield 39, 3) := by decide +kernel
theorem dX3_liveOf_4 : decode cX3_liveOf 4 = .ok (.iload_n 1, 1) := by decide +kernel
theorem dX3_liveOf_5 : decode cX3_liveOf 5 = .ok (.aload_n 0, 1) := by decide +kernel
theorem dX3_liveOf_6 : decode cX3_liveOf 6 = .ok (.getfield 39, 3) := by decide +kernel
theorem dX3_liveOf_9 : decode cX3_liveOf 9 = .ok (.getfield 74, 3) := by decide +kernel
theorem dX3_liveOf_12 : decode cX3_liveOf 12 = .ok (.invokevirtual 78, 3) := by decide +kernel
theorem dX3_liveOf_15 : decode cX3_liveOf 15 = .ok (.ireturn, 1) := by decide +kernel
theorem dX3_isCoincidence_0 : decode cX3_isCoincidence 0 = .ok (.iload_n 1, 1) := by decide +kernel
theorem dX3_isCoincidence_1 : decode cX3_isCoincidence 1 = .ok (.invokestatic 138, 3) := by decide +kernel
theorem dX3_isCoincidence_4 : decode cX3_isCoincidence 4 = .ok (.aload_n 0, 1) := by decide +kernel
theorem dX3_isCoincidence_5 : decode cX3_isCoincidence 5 = .ok (.getfield 29, 3) := by decide +kernel
theorem dX3_isCoincidence_8 : decode cX3_isCoincidence 8 = .ok (.iconst 2, 1) := by decide +kernel
theorem dX3_isCoincidence_9 : decode cX3_isCoincidence 9 = .ok (.iaload, 1) := by decide +kernel
theorem dX3_isCoincidence_10 : decode cX3_isCoincidence 10 = .ok (.if_icmp .lt 7, 3) := by decide +kernel
theorem dX3_isCoincidence_13 : decode cX3_isCoincidence 13 = .ok (.iconst 1, 1) := by decide +kernel
theorem dX3_isCoincidence_14 : decode cX3_isCoincidence 14 = .ok (.goto 4, 3) := by decide +kernel
theorem dX3_isCoincidence_17 : decode cX3_isCoincidence 17 = .ok (.iconst 0, 1) := by decide +kernel
theorem dX3_isCoincidence_18 : decode cX3_isCoincidence 18 = .ok (.ireturn, 1) := by decide +kernel
theorem dX3_coincidences_0 : decode cX3_coincidences 0 = .ok (.iconst 0, 1) := by decide +kernel
theorem dX3_coincidences_1 : decode cX3_coincidences 1 = .ok (.istore_n 1, 1) := by decide +kernel
theorem dX3_coincidences_2 : decode cX3_coincidences 2 = .ok (.iconst 0, 1) := by decide +kernel
theorem dX3_coincidences_3 : decode cX3_coincidences 3 = .ok (.istore_n 2, 1) := by decide +kernel
theorem dX3_coincidences_4 : decode cX3_coincidences 4 = .ok (.iload_n 2, 1) := by decide +kernel
theorem dX3_coincidences_5 : decode cX3_coincidences 5 = .ok (.aload_n 0, 1) := by decide +kernel
theorem dX3_coincidences_6 : decode cX3_coincidences 6 = .ok (.getfield 48, 3) := by decide +kernel
theorem dX3_coincidences_9 : decode cX3_coincidences 9 = .ok (.getfield 116, 3) := by decide +kernel
theorem dX3_coincidences_12 : decode cX3_coincidences 12 = .ok (.if_icmp .ge 28, 3) := by decide +kernel
theorem dX3_coincidences_15 : decode cX3_coincidences 15 = .ok (.aload_n 0, 1) := by decide +kernel
theorem dX3_coincidences_16 : decode cX3_coincidences 16 = .ok (.aload_n 0, 1) := by decide +kernel
theorem dX3_coincidences_17 : decode cX3_coincidences 17 = .ok (.getfield 48, 3) := by decide +kernel
theorem dX3_coincidences_20 : decode cX3_coincidences 20 = .ok (.getfield 135, 3) := by decide +kernel
theorem dX3_coincidences_23 : decode cX3_coincidences 23 = .ok (.iload_n 2, 1) := by decide +kernel
theorem dX3_coincidences_24 : decode cX3_coincidences 24 = .ok (.iaload, 1) := by decide +kernel
theorem dX3_coincidences_25 : decode cX3_coincidences 25 = .ok (.invokevirtual 166, 3) := by decide +kernel
theorem dX3_coincidences_28 : decode cX3_coincidences 28 = .ok (.ifCond .eq 6, 3) := by decide +kernel
theorem dX3_coincidences_31 : decode cX3_coincidences 31 = .ok (.iinc 1 1, 3) := by decide +kernel
theorem dX3_coincidences_34 : decode cX3_coincidences 34 = .ok (.iinc 2 1, 3) := by decide +kernel
theorem dX3_coincidences_37 : decode cX3_coincidences 37 = .ok (.goto (-33), 3) := by decide +kernel
theorem dX3_coincidences_40 : decode cX3_coincidences 40 = .ok (.iload_n 1, 1) := by decide +kernel
theorem dX3_coincidences_41 : decode cX3_coincidences 41 = .ok (.ireturn, 1) := by decide +kernel
theorem dX3_liveTime_0 : decode cX3_liveTime 0 = .ok (.aload_n 0, 1) := by decide +kernel
theorem dX3_liveTime_1 : decode cX3_liveTime 1 = .ok (.getfield 18, 3) := by decide +kernel
theorem dX3_liveTime_4 : decode cX3_liveTime 4 = .ok (.iload_n 1, 1) := by decide +kernel
theorem dX3_liveTime_5 : decode cX3_liveTime 5 = .ok (.iaload, 1) := by decide +kernel
theorem dX3_liveTime_6 : decode cX3_liveTime 6 = .ok (.ifCond .ne 7, 3) := by decide +kernel
theorem dX3_liveTime_9 : decode cX3_liveTime 9 = .ok (.iconst 1, 1) := by decide +kernel
theorem dX3_liveTime_10 : decode cX3_liveTime 10 = .ok (.goto 4, 3) := by decide +kernel
theorem dX3_liveTime_13 : decode cX3_liveTime 13 = .ok (.iconst 0, 1) := by decide +kernel
theorem dX3_liveTime_14 : decode cX3_liveTime 14 = .ok (.istore_n 2, 1) := by decide +kernel
theorem dX3_liveTime_15 : decode cX3_liveTime 15 = .ok (.iload_n 2, 1) := by decide +kernel
theorem dX3_liveTime_16 : decode cX3_liveTime 16 = .ok (.ifCond .eq 10, 3) := by decide +kernel
theorem dX3_liveTime_19 : decode cX3_liveTime 19 = .ok (.aload_n 0, 1) := by decide +kernel
theorem dX3_liveTime_20 : decode cX3_liveTime 20 = .ok (.getfield 39, 3) := by decide +kernel
theorem dX3_liveTime_23 : decode cX3_liveTime 23 = .ok (.goto 7, 3) := by decide +kernel
theorem dX3_liveTime_26 : decode cX3_liveTime 26 = .ok (.aload_n 0, 1) := by decide +kernel
theorem dX3_liveTime_27 : decode cX3_liveTime 27 = .ok (.getfield 35, 3) := by decide +kernel
theorem dX3_liveTime_30 : decode cX3_liveTime 30 = .ok (.astore_n 3, 1) := by decide +kernel
theorem dX3_liveTime_31 : decode cX3_liveTime 31 = .ok (.iload_n 2, 1) := by decide +kernel
theorem dX3_liveTime_32 : decode cX3_liveTime 32 = .ok (.ifCond .eq 12, 3) := by decide +kernel
theorem dX3_liveTime_35 : decode cX3_liveTime 35 = .ok (.aload_n 0, 1) := by decide +kernel
theorem dX3_liveTime_36 : decode cX3_liveTime 36 = .ok (.getfield 11, 3) := by decide +kernel
theorem dX3_liveTime_39 : decode cX3_liveTime 39 = .ok (.iload_n 1, 1) := by decide +kernel
theorem dX3_liveTime_40 : decode cX3_liveTime 40 = .ok (.iaload, 1) := by decide +kernel
theorem dX3_liveTime_41 : decode cX3_liveTime 41 = .ok (.goto 4, 3) := by decide +kernel
theorem dX3_liveTime_44 : decode cX3_liveTime 44 = .ok (.iconst 0, 1) := by decide +kernel
theorem dX3_liveTime_45 : decode cX3_liveTime 45 = .ok (.istore 4, 2) := by decide +kernel
theorem dX3_liveTime_47 : decode cX3_liveTime 47 = .ok (.iconst 0, 1) := by decide +kernel
theorem dX3_liveTime_48 : decode cX3_liveTime 48 = .ok (.istore 5, 2) := by decide +kernel
theorem dX3_liveTime_50 : decode cX3_liveTime 50 = .ok (.iconst 0, 1) := by decide +kernel
theorem dX3_liveTime_51 : decode cX3_liveTime 51 = .ok (.istore 6, 2) := by decide +kernel
theorem dX3_liveTime_53 : decode cX3_liveTime 53 = .ok (.iconst 0, 1) := by decide +kernel
theorem dX3_liveTime_54 : decode cX3_liveTime 54 = .ok (.istore 7, 2) := by decide +kernel
theorem dX3_liveTime_56 : decode cX3_liveTime 56 = .ok (.iload 7, 2) := by decide +kernel
theorem dX3_liveTime_58 : decode cX3_liveTime 58 = .ok (.aload_n 3, 1) := by decide +kernel
theorem dX3_liveTime_59 : decode cX3_liveTime 59 = .ok (.getfield 74, 3) := by decide +kernel
theorem dX3_liveTime_62 : decode cX3_liveTime 62 = .ok (.if_icmp .ge 60, 3) := by decide +kernel
theorem dX3_liveTime_65 : decode cX3_liveTime 65 = .ok (.aload_n 3, 1) := by decide +kernel
theorem dX3_liveTime_66 : decode cX3_liveTime 66 = .ok (.getfield 230, 3) := by decide +kernel
theorem dX3_liveTime_69 : decode cX3_liveTime 69 = .ok (.iload 7, 2) := by decide +kernel
theorem dX3_liveTime_71 : decode cX3_liveTime 71 = .ok (.iaload, 1) := by decide +kernel
theorem dX3_liveTime_72 : decode cX3_liveTime 72 = .ok (.iload_n 1, 1) := by decide +kernel
theorem dX3_liveTime_73 : decode cX3_liveTime 73 = .ok (.if_icmp .eq 6, 3) := by decide +kernel
theorem dX3_liveTime_76 : decode cX3_liveTime 76 = .ok (.goto 40, 3) := by decide +kernel
theorem dX3_liveTime_79 : decode cX3_liveTime 79 = .ok (.aload_n 3, 1) := by decide +kernel
theorem dX3_liveTime_80 : decode cX3_liveTime 80 = .ok (.getfield 150, 3) := by decide +kernel
theorem dX3_liveTime_83 : decode cX3_liveTime 83 = .ok (.iload 7, 2) := by decide +kernel
theorem dX3_liveTime_85 : decode cX3_liveTime 85 = .ok (.iaload, 1) := by decide +kernel
theorem dX3_liveTime_86 : decode cX3_liveTime 86 = .ok (.iload 4, 2) := by decide +kernel
theorem dX3_liveTime_88 : decode cX3_liveTime 88 = .ok (.iadd, 1) := by decide +kernel
theorem dX3_liveTime_89 : decode cX3_liveTime 89 = .ok (.istore 8, 2) := by decide +kernel
theorem dX3_liveTime_91 : decode cX3_liveTime 91 = .ok (.iload 5, 2) := by decide +kernel
theorem dX3_liveTime_93 : decode cX3_liveTime 93 = .ok (.iconst 0, 1) := by decide +kernel
theorem dX3_liveTime_94 : decode cX3_liveTime 94 = .ok (.iload 8, 2) := by decide +kernel
theorem dX3_liveTime_96 : decode cX3_liveTime 96 = .ok (.iload 6, 2) := by decide +kernel
theorem dX3_liveTime_98 : decode cX3_liveTime 98 = .ok (.isub, 1) := by decide +kernel
theorem dX3_liveTime_99 : decode cX3_liveTime 99 = .ok (.invokestatic 215, 3) := by decide +kernel
theorem dX3_liveTime_102 : decode cX3_liveTime 102 = .ok (.iadd, 1) := by decide +kernel
theorem dX3_liveTime_103 : decode cX3_liveTime 103 = .ok (.istore 5, 2) := by decide +kernel
theorem dX3_liveTime_105 : decode cX3_liveTime 105 = .ok (.iload 8, 2) := by decide +kernel
theorem dX3_liveTime_107 : decode cX3_liveTime 107 = .ok (.aload_n 0, 1) := by decide +kernel
theorem dX3_liveTime_108 : decode cX3_liveTime 108 = .ok (.getfield 15, 3) := by decide +kernel
theorem dX3_liveTime_111 : decode cX3_liveTime 111 = .ok (.iload_n 1, 1) := by decide +kernel
theorem dX3_liveTime_112 : decode cX3_liveTime 112 = .ok (.iaload, 1) := by decide +kernel
theorem dX3_liveTime_113 : decode cX3_liveTime 113 = .ok (.iadd, 1) := by decide +kernel
theorem dX3_liveTime_114 : decode cX3_liveTime 114 = .ok (.istore 6, 2) := by decide +kernel
theorem dX3_liveTime_116 : decode cX3_liveTime 116 = .ok (.iinc 7 1, 3) := by decide +kernel
theorem dX3_liveTime_119 : decode cX3_liveTime 119 = .ok (.goto (-63), 3) := by decide +kernel
theorem dX3_liveTime_122 : decode cX3_liveTime 122 = .ok (.iload 5, 2) := by decide +kernel
theorem dX3_liveTime_124 : decode cX3_liveTime 124 = .ok (.iconst 0, 1) := by decide +kernel
theorem dX3_liveTime_125 : decode cX3_liveTime 125 = .ok (.aload_n 0, 1) := by decide +kernel
theorem dX3_liveTime_126 : decode cX3_liveTime 126 = .ok (.invokevirtual 182, 3) := by decide +kernel
theorem dX3_liveTime_129 : decode cX3_liveTime 129 = .ok (.iload 6, 2) := by decide +kernel
theorem dX3_liveTime_131 : decode cX3_liveTime 131 = .ok (.isub, 1) := by decide +kernel
theorem dX3_liveTime_132 : decode cX3_liveTime 132 = .ok (.invokestatic 215, 3) := by decide +kernel
theorem dX3_liveTime_135 : decode cX3_liveTime 135 = .ok (.iadd, 1) := by decide +kernel
theorem dX3_liveTime_136 : decode cX3_liveTime 136 = .ok (.ireturn, 1) := by decide +kernel
theorem dX3_inLeastTerms_0 : decode cX3_inLeastTerms 0 = .ok (.lload_n 0, 1) := by decide +kernel
theorem dX3_inLeastTerms_1 : decode cX3_inLeastTerms 1 = .ok (.lload_n 2, 1) := by decide +kernel
theorem dX3_inLeastTerms_2 : decode cX3_inLeastTerms 2 = .ok (.invokestatic 251, 3) := by decide +kernel
theorem dX3_inLeastTerms_5 : decode cX3_inLeastTerms 5 = .ok (.lstore 5, 2) := by decide +kernel
theorem dX3_inLeastTerms_7 : decode cX3_inLeastTerms 7 = .ok (.lload_n 2, 1) := by decide +kernel
theorem dX3_inLeastTerms_8 : decode cX3_inLeastTerms 8 = .ok (.lconst 0, 1) := by decide +kernel
theorem dX3_inLeastTerms_9 : decode cX3_inLeastTerms 9 = .ok (.lcmp, 1) := by decide +kernel
theorem dX3_inLeastTerms_10 : decode cX3_inLeastTerms 10 = .ok (.ifCond .le 10, 3) := by decide +kernel
theorem dX3_inLeastTerms_13 : decode cX3_inLeastTerms 13 = .ok (.lload 5, 2) := by decide +kernel
theorem dX3_inLeastTerms_15 : decode cX3_inLeastTerms 15 = .ok (.lconst 0, 1) := by decide +kernel
theorem dX3_inLeastTerms_16 : decode cX3_inLeastTerms 16 = .ok (.lcmp, 1) := by decide +kernel
theorem dX3_inLeastTerms_17 : decode cX3_inLeastTerms 17 = .ok (.ifCond .gt 7, 3) := by decide +kernel
theorem dX3_inLeastTerms_20 : decode cX3_inLeastTerms 20 = .ok (.ldc2_w 176, 3) := by decide +kernel
theorem dX3_inLeastTerms_23 : decode cX3_inLeastTerms 23 = .ok (.lreturn, 1) := by decide +kernel
theorem dX3_inLeastTerms_24 : decode cX3_inLeastTerms 24 = .ok (.iload 4, 2) := by decide +kernel
theorem dX3_inLeastTerms_26 : decode cX3_inLeastTerms 26 = .ok (.ifCond .ne 7, 3) := by decide +kernel
theorem dX3_inLeastTerms_29 : decode cX3_inLeastTerms 29 = .ok (.lload_n 0, 1) := by decide +kernel
theorem dX3_inLeastTerms_30 : decode cX3_inLeastTerms 30 = .ok (.goto 4, 3) := by decide +kernel
theorem dX3_inLeastTerms_33 : decode cX3_inLeastTerms 33 = .ok (.lload_n 2, 1) := by decide +kernel
theorem dX3_inLeastTerms_34 : decode cX3_inLeastTerms 34 = .ok (.lload 5, 2) := by decide +kernel
theorem dX3_inLeastTerms_36 : decode cX3_inLeastTerms 36 = .ok (.ldiv, 1) := by decide +kernel
theorem dX3_inLeastTerms_37 : decode cX3_inLeastTerms 37 = .ok (.lreturn, 1) := by decide +kernel
theorem dX3_greatestDivisor_0 : decode cX3_greatestDivisor 0 = .ok (.iconst 0, 1) := by decide +kernel
theorem dX3_greatestDivisor_1 : decode cX3_greatestDivisor 1 = .ok (.istore 4, 2) := by decide +kernel
theorem dX3_greatestDivisor_3 : decode cX3_greatestDivisor 3 = .ok (.iload 4, 2) := by decide +kernel
theorem dX3_greatestDivisor_5 : decode cX3_greatestDivisor 5 = .ok (.bipush 100, 2) := by decide +kernel
theorem dX3_greatestDivisor_7 : decode cX3_greatestDivisor 7 = .ok (.if_icmp .ge 25, 3) := by decide +kernel
theorem dX3_greatestDivisor_10 : decode cX3_greatestDivisor 10 = .ok (.lload_n 2, 1) := by decide +kernel
theorem dX3_greatestDivisor_11 : decode cX3_greatestDivisor 11 = .ok (.lconst 0, 1) := by decide +kernel
theorem dX3_greatestDivisor_12 : decode cX3_greatestDivisor 12 = .ok (.lcmp, 1) := by decide +kernel
theorem dX3_greatestDivisor_13 : decode cX3_greatestDivisor 13 = .ok (.ifCond .le 19, 3) := by decide +kernel
theorem dX3_greatestDivisor_16 : decode cX3_greatestDivisor 16 = .ok (.lload_n 0, 1) := by decide +kernel
theorem dX3_greatestDivisor_17 : decode cX3_greatestDivisor 17 = .ok (.lload_n 2, 1) := by decide +kernel
theorem dX3_greatestDivisor_18 : decode cX3_greatestDivisor 18 = .ok (.lrem, 1) := by decide +kernel
theorem dX3_greatestDivisor_19 : decode cX3_greatestDivisor 19 = .ok (.lstore 5, 2) := by decide +kernel
theorem dX3_greatestDivisor_21 : decode cX3_greatestDivisor 21 = .ok (.lload_n 2, 1) := by decide +kernel
theorem dX3_greatestDivisor_22 : decode cX3_greatestDivisor 22 = .ok (.lstore_n 0, 1) := by decide +kernel
theorem dX3_greatestDivisor_23 : decode cX3_greatestDivisor 23 = .ok (.lload 5, 2) := by decide +kernel
theorem dX3_greatestDivisor_25 : decode cX3_greatestDivisor 25 = .ok (.lstore_n 2, 1) := by decide +kernel
theorem dX3_greatestDivisor_26 : decode cX3_greatestDivisor 26 = .ok (.iinc 4 1, 3) := by decide +kernel
theorem dX3_greatestDivisor_29 : decode cX3_greatestDivisor 29 = .ok (.goto (-26), 3) := by decide +kernel
theorem dX3_greatestDivisor_32 : decode cX3_greatestDivisor 32 = .ok (.lload_n 0, 1) := by decide +kernel
theorem dX3_greatestDivisor_33 : decode cX3_greatestDivisor 33 = .ok (.lreturn, 1) := by decide +kernel
theorem dX4_init_0 : decode cX4_init 0 = .ok (.aload_n 0, 1) := by decide +kernel
theorem dX4_init_1 : decode cX4_init 1 = .ok (.invokespecial 1, 3) := by decide +kernel
theorem dX4_init_4 : decode cX4_init 4 = .ok (.aload_n 0, 1) := by decide +kernel
theorem dX4_init_5 : decode cX4_init 5 = .ok (.bipush 6, 2) := by decide +kernel
theorem dX4_init_7 : decode cX4_init 7 = .ok (.newarray .int, 2) := by decide +kernel
theorem dX4_init_9 : decode cX4_init 9 = .ok (.putfield 7, 3) := by decide +kernel
theorem dX4_init_12 : decode cX4_init 12 = .ok (.aload_n 0, 1) := by decide +kernel
theorem dX4_init_13 : decode cX4_init 13 = .ok (.bipush 6, 2) := by decide +kernel
theorem dX4_init_15 : decode cX4_init 15 = .ok (.newarray .int, 2) := by decide +kernel
theorem dX4_init_17 : decode cX4_init 17 = .ok (.putfield 13, 3) := by decide +kernel
theorem dX4_init_20 : decode cX4_init 20 = .ok (.aload_n 0, 1) := by decide +kernel
theorem dX4_init_21 : decode cX4_init 21 = .ok (.bipush 6, 2) := by decide +kernel
theorem dX4_init_23 : decode cX4_init 23 = .ok (.newarray .int, 2) := by decide +kernel
theorem dX4_init_25 : decode cX4_init 25 = .ok (.putfield 16, 3) := by decide +kernel
theorem dX4_init_28 : decode cX4_init 28 = .ok (.aload_n 0, 1) := by decide +kernel
theorem dX4_init_29 : decode cX4_init 29 = .ok (.iconst 4, 1) := by decide +kernel
theorem dX4_init_30 : decode cX4_init 30 = .ok (.newarray .int, 2) := by decide +kernel
theorem dX4_init_32 : decode cX4_init 32 = .ok (.dup, 1) := by decide +kernel
theorem dX4_init_33 : decode cX4_init 33 = .ok (.iconst 0, 1) := by decide +kernel
theorem dX4_init_34 : decode cX4_init 34 = .ok (.bipush 20, 2) := by decide +kernel
theorem dX4_init_36 : decode cX4_init 36 = .ok (.iastore, 1) := by decide +kernel
theorem dX4_init_37 : decode cX4_init 37 = .ok (.dup, 1) := by decide +kernel
theorem dX4_init_38 : decode cX4_init 38 = .ok (.iconst 1, 1) := by decide +kernel
theorem dX4_init_39 : decode cX4_init 39 = .ok (.iconst 5, 1) := by decide +kernel
theorem dX4_init_40 : decode cX4_init 40 = .ok (.iastore, 1) := by decide +kernel
theorem dX4_init_41 : decode cX4_init 41 = .ok (.dup, 1) := by decide +kernel
theorem dX4_init_42 : decode cX4_init 42 = .ok (.iconst 2, 1) := by decide +kernel
theorem dX4_init_43 : decode cX4_init 43 = .ok (.iconst 2, 1) := by decide +kernel
theorem dX4_init_44 : decode cX4_init 44 = .ok (.iastore, 1) := by decide +kernel
theorem dX4_init_45 : decode cX4_init 45 = .ok (.dup, 1) := by decide +kernel
theorem dX4_init_46 : decode cX4_init 46 = .ok (.iconst 3, 1) := by decide +kernel
theorem dX4_init_47 : decode cX4_init 47 = .ok (.iconst 1, 1) := by decide +kernel
theorem dX4_init_48 : decode cX4_init 48 = .ok (.iastore, 1) := by decide +kernel
theorem dX4_init_49 : decode cX4_init 49 = .ok (.putfield 19, 3) := by decide +kernel
theorem dX4_init_52 : decode cX4_init 52 = .ok (.aload_n 0, 1) := by decide +kernel
theorem dX4_init_53 : decode cX4_init 53 = .ok (.iconst 4, 1) := by decide +kernel
theorem dX4_init_54 : decode cX4_init 54 = .ok (.newarray .int, 2) := by decide +kernel
theorem dX4_init_56 : decode cX4_init 56 = .ok (.dup, 1) := by decide +kernel
theorem dX4_init_57 : decode cX4_init 57 = .ok (.iconst 0, 1) := by decide +kernel
theorem dX4_init_58 : decode cX4_init 58 = .ok (.iconst 0, 1) := by decide +kernel
theorem dX4_init_59 : decode cX4_init 59 = .ok (.iastore, 1) := by decide +kernel
theorem dX4_init_60 : decode cX4_init 60 = .ok (.dup, 1) := by decide +kernel
theorem dX4_init_61 : decode cX4_init 61 = .ok (.iconst 1, 1) := by decide +kernel
theorem dX4_init_62 : decode cX4_init 62 = .ok (.iconst 0, 1) := by decide +kernel
theorem dX4_init_63 : decode cX4_init 63 = .ok (.iastore, 1) := by decide +kernel
theorem dX4_init_64 : decode cX4_init 64 = .ok (.dup, 1) := by decide +kernel
theorem dX4_init_65 : decode cX4_init 65 = .ok (.iconst 2, 1) := by decide +kernel
theorem dX4_init_66 : decode cX4_init 66 = .ok (.iconst 2, 1) := by decide +kernel
theorem dX4_init_67 : decode cX4_init 67 = .ok (.iastore, 1) := by decide +kernel
theorem dX4_init_68 : decode cX4_init 68 = .ok (.dup, 1) := by decide +kernel
theorem dX4_init_69 : decode cX4_init 69 = .ok (.iconst 3, 1) := by decide +kernel
theorem dX4_init_70 : decode cX4_init 70 = .ok (.iconst 0, 1) := by decide +kernel
theorem dX4_init_71 : decode cX4_init 71 = .ok (.iastore, 1) := by decide +kernel
theorem dX4_init_72 : decode cX4_init 72 = .ok (.putfield 22, 3) := by decide +kernel
theorem dX4_init_75 : decode cX4_init 75 = .ok (.aload_n 0, 1) := by decide +kernel
theorem dX4_init_76 : decode cX4_init 76 = .ok (.iconst 4, 1) := by decide +kernel
theorem dX4_init_77 : decode cX4_init 77 = .ok (.newarray .int, 2) := by decide +kernel
theorem dX4_init_79 : decode cX4_init 79 = .ok (.dup, 1) := by decide +kernel
theorem dX4_init_80 : decode cX4_init 80 = .ok (.iconst 0, 1) := by decide +kernel
theorem dX4_init_81 : decode cX4_init 81 = .ok (.bipush 100, 2) := by decide +kernel
theorem dX4_init_83 : decode cX4_init 83 = .ok (.iastore, 1) := by decide +kernel
theorem dX4_init_84 : decode cX4_init 84 = .ok (.dup, 1) := by decide +kernel
theorem dX4_init_85 : decode cX4_init 85 = .ok (.iconst 1, 1) := by decide +kernel
theorem dX4_init_86 : decode cX4_init 86 = .ok (.bipush 40, 2) := by decide +kernel
theorem dX4_init_88 : decode cX4_init 88 = .ok (.iastore, 1) := by decide +kernel
theorem dX4_init_89 : decode cX4_init 89 = .ok (.dup, 1) := by decide +kernel
theorem dX4_init_90 : decode cX4_init 90 = .ok (.iconst 2, 1) := by decide +kernel
theorem dX4_init_91 : decode cX4_init 91 = .ok (.bipush 6, 2) := by decide +kernel
theorem dX4_init_93 : decode cX4_init 93 = .ok (.iastore, 1) := by decide +kernel
theorem dX4_init_94 : decode cX4_init 94 = .ok (.dup, 1) := by decide +kernel
theorem dX4_init_95 : decode cX4_init 95 = .ok (.iconst 3, 1) := by decide +kernel
theorem dX4_init_96 : decode cX4_init 96 = .ok (.iconst 3, 1) := by decide +kernel
theorem dX4_init_97 : decode cX4_init 97 = .ok (.iastore, 1) := by decide +kernel
theorem dX4_init_98 : decode cX4_init 98 = .ok (.putfield 25, 3) := by decide +kernel
theorem dX4_init_101 : decode cX4_init 101 = .ok (.aload_n 0, 1) := by decide +kernel
theorem dX4_init_102 : decode cX4_init 102 = .ok (.sipush 241, 3) := by decide +kernel
theorem dX4_init_105 : decode cX4_init 105 = .ok (.newarray .int, 2) := by decide +kernel
theorem dX4_init_107 : decode cX4_init 107 = .ok (.putfield 28, 3) := by decide +kernel
theorem dX4_init_110 : decode cX4_init 110 = .ok (.aload_n 0, 1) := by decide +kernel
theorem dX4_init_111 : decode cX4_init 111 = .ok (.sipush 241, 3) := by decide +kernel
theorem dX4_init_114 : decode cX4_init 114 = .ok (.newarray .int, 2) := by decide +kernel
theorem dX4_init_116 : decode cX4_init 116 = .ok (.putfield 31, 3) := by decide +kernel
theorem dX4_init_119 : decode cX4_init 119 = .ok (.aload_n 0, 1) := by decide +kernel
theorem dX4_init_120 : decode cX4_init 120 = .ok (.sipush 241, 3) := by decide +kernel
theorem dX4_init_123 : decode cX4_init 123 = .ok (.newarray .int, 2) := by decide +kernel
theorem dX4_init_125 : decode cX4_init 125 = .ok (.putfield 34, 3) := by decide +kernel
theorem dX4_init_128 : decode cX4_init 128 = .ok (.aload_n 0, 1) := by decide +kernel
theorem dX4_init_129 : decode cX4_init 129 = .ok (.sipush 240, 3) := by decide +kernel
theorem dX4_init_132 : decode cX4_init 132 = .ok (.newarray .boolean, 2) := by decide +kernel
theorem dX4_init_134 : decode cX4_init 134 = .ok (.putfield 37, 3) := by decide +kernel
theorem dX4_init_137 : decode cX4_init 137 = .ok (.aload_n 0, 1) := by decide +kernel
theorem dX4_init_138 : decode cX4_init 138 = .ok (.bipush 6, 2) := by decide +kernel
theorem dX4_init_140 : decode cX4_init 140 = .ok (.newarray .int, 2) := by decide +kernel
theorem dX4_init_142 : decode cX4_init 142 = .ok (.putfield 41, 3) := by decide +kernel
theorem dX4_init_145 : decode cX4_init 145 = .ok (.aload_n 0, 1) := by decide +kernel
theorem dX4_init_146 : decode cX4_init 146 = .ok (.sipush 240, 3) := by decide +kernel
theorem dX4_init_149 : decode cX4_init 149 = .ok (.newarray .int, 2) := by decide +kernel
theorem dX4_init_151 : decode cX4_init 151 = .ok (.putfield 44, 3) := by decide +kernel
theorem dX4_init_154 : decode cX4_init 154 = .ok (.aload_n 0, 1) := by decide +kernel
theorem dX4_init_155 : decode cX4_init 155 = .ok (.sipush 240, 3) := by decide +kernel
theorem dX4_init_158 : decode cX4_init 158 = .ok (.newarray .int, 2) := by decide +kernel
theorem dX4_init_160 : decode cX4_init 160 = .ok (.putfield 47, 3) := by decide +kernel
theorem dX4_init_163 : decode cX4_init 163 = .ok (.aload_n 0, 1) := by decide +kernel
theorem dX4_init_164 : decode cX4_init 164 = .ok (.sipush 240, 3) := by decide +kernel
theorem dX4_init_167 : decode cX4_init 167 = .ok (.newarray .int, 2) := by decide +kernel
theorem dX4_init_169 : decode cX4_init 169 = .ok (.putfield 50, 3) := by decide +kernel
theorem dX4_init_172 : decode cX4_init 172 = .ok (.aload_n 0, 1) := by decide +kernel
theorem dX4_init_173 : decode cX4_init 173 = .ok (.sipush 240, 3) := by decide +kernel
theorem dX4_init_176 : decode cX4_init 176 = .ok (.newarray .int, 2) := by decide +kernel
theorem dX4_init_178 : decode cX4_init 178 = .ok (.putfield 53, 3) := by decide +kernel
theorem dX4_init_181 : decode cX4_init 181 = .ok (.return_, 1) := by decide +kernel
theorem dX4_within_0 : decode cX4_within 0 = .ok (.iload_n 0, 1) := by decide +kernel
theorem dX4_within_1 : decode cX4_within 1 = .ok (.iload_n 1, 1) := by decide +kernel
theorem dX4_within_2 : decode cX4_within 2 = .ok (.if_icmp .lt 12, 3) := by decide +kernel
theorem dX4_within_5 : decode cX4_within 5 = .ok (.iload_n 0, 1) := by decide +kernel
theorem dX4_within_6 : decode cX4_within 6 = .ok (.iload_n 2, 1) := by decide +kernel
theorem dX4_within_7 : decode cX4_within 7 = .ok (.if_icmp .gt 7, 3) := by decide +kernel
theorem dX4_within_10 : decode cX4_within 10 = .ok (.iconst 1, 1) := by decide +kernel
theorem dX4_within_11 : decode cX4_within 11 = .ok (.goto 4, 3) := by decide +kernel
theorem dX4_within_14 : decode cX4_within 14 = .ok (.iconst 0, 1) := by decide +kernel
theorem dX4_within_15 : decode cX4_within 15 = .ok (.ireturn, 1) := by decide +kernel
theorem dX4_isPlane_0 : decode cX4_isPlane 0 = .ok (.iload_n 0, 1) := by decide +kernel
theorem dX4_isPlane_1 : decode cX4_isPlane 1 = .ok (.iconst 0, 1) := by decide +kernel
theorem dX4_isPlane_2 : decode cX4_isPlane 2 = .ok (.iconst 5, 1) := by decide +kernel
theorem dX4_isPlane_3 : decode cX4_isPlane 3 = .ok (.invokestatic 56, 3) := by decide +kernel
theorem dX4_isPlane_6 : decode cX4_isPlane 6 = .ok (.ireturn, 1) := by decide +kernel
theorem dX4_isBegun_0 : decode cX4_isBegun 0 = .ok (.aload_n 0, 1) := by decide +kernel
theorem dX4_isBegun_1 : decode cX4_isBegun 1 = .ok (.getfield 60, 3) := by decide +kernel
theorem dX4_isBegun_4 : decode cX4_isBegun 4 = .ok (.ifCond .gt 10, 3) := by decide +kernel
theorem dX4_isBegun_7 : decode cX4_isBegun 7 = .ok (.aload_n 0, 1) := by decide +kernel
theorem dX4_isBegun_8 : decode cX4_isBegun 8 = .ok (.getfield 64, 3) := by decide +kernel
theorem dX4_isBegun_11 : decode cX4_isBegun 11 = .ok (.ifCond .eq 7, 3) := by decide +kernel
theorem dX4_isBegun_14 : decode cX4_isBegun 14 = .ok (.iconst 1, 1) := by decide +kernel
theorem dX4_isBegun_15 : decode cX4_isBegun 15 = .ok (.goto 4, 3) := by decide +kernel
theorem dX4_isBegun_18 : decode cX4_isBegun 18 = .ok (.iconst 0, 1) := by decide +kernel
theorem dX4_isBegun_19 : decode cX4_isBegun 19 = .ok (.ireturn, 1) := by decide +kernel
theorem dX4_plane_0 : decode cX4_plane 0 = .ok (.iload_n 1, 1) := by decide +kernel
theorem dX4_plane_1 : decode cX4_plane 1 = .ok (.invokestatic 68, 3) := by decide +kernel
theorem dX4_plane_4 : decode cX4_plane 4 = .ok (.ifCond .ne 5, 3) := by decide +kernel
theorem dX4_plane_7 : decode cX4_plane 7 = .ok (.iconst (-1), 1) := by decide +kernel
theorem dX4_plane_8 : decode cX4_plane 8 = .ok (.ireturn, 1) := by decide +kernel
theorem dX4_plane_9 : decode cX4_plane 9 = .ok (.iload_n 2, 1) := by decide +kernel
theorem dX4_plane_10 : decode cX4_plane 10 = .ok (.iconst 0, 1) := by decide +kernel
theorem dX4_plane_11 : decode cX4_plane 11 = .ok (.bipush 30, 2) := by decide +kernel
theorem dX4_plane_13 : decode cX4_plane 13 = .ok (.invokestatic 56, 3) := by decide +kernel
theorem dX4_plane_16 : decode cX4_plane 16 = .ok (.ifCond .eq 23, 3) := by decide +kernel
theorem dX4_plane_19 : decode cX4_plane 19 = .ok (.iload_n 3, 1) := by decide +kernel
theorem dX4_plane_20 : decode cX4_plane 20 = .ok (.iconst 0, 1) := by decide +kernel
theorem dX4_plane_21 : decode cX4_plane 21 = .ok (.bipush 50, 2) := by decide +kernel
theorem dX4_plane_23 : decode cX4_plane 23 = .ok (.invokestatic 56, 3) := by decide +kernel
theorem dX4_plane_26 : decode cX4_plane 26 = .ok (.ifCond .eq 13, 3) := by decide +kernel
theorem dX4_plane_29 : decode cX4_plane 29 = .ok (.iload 4, 2) := by decide +kernel
theorem dX4_plane_31 : decode cX4_plane 31 = .ok (.iconst 0, 1) := by decide +kernel
theorem dX4_plane_32 : decode cX4_plane 32 = .ok (.iconst 1, 1) := by decide +kernel
theorem dX4_plane_33 : decode cX4_plane 33 = .ok (.invokestatic 56, 3) := by decide +kernel
theorem dX4_plane_36 : decode cX4_plane 36 = .ok (.ifCond .ne 6, 3) := by decide +kernel
theorem dX4_plane_39 : decode cX4_plane 39 = .ok (.bipush (-2), 2) := by decide +kernel
theorem dX4_plane_41 : decode cX4_plane 41 = .ok (.ireturn, 1) := by decide +kernel
theorem dX4_plane_42 : decode cX4_plane 42 = .ok (.aload_n 0, 1) := by decide +kernel
theorem dX4_plane_43 : decode cX4_plane 43 = .ok (.invokevirtual 72, 3) := by decide +kernel
theorem dX4_plane_46 : decode cX4_plane 46 = .ok (.ifCond .eq 6, 3) := by decide +kernel
theorem dX4_plane_49 : decode cX4_plane 49 = .ok (.bipush (-3), 2) := by decide +kernel
theorem dX4_plane_51 : decode cX4_plane 51 = .ok (.ireturn, 1) := by decide +kernel
theorem dX4_plane_52 : decode cX4_plane 52 = .ok (.aload_n 0, 1) := by decide +kernel
theorem dX4_plane_53 : decode cX4_plane 53 = .ok (.getfield 7, 3) := by decide +kernel
theorem dX4_plane_56 : decode cX4_plane 56 = .ok (.iload_n 1, 1) := by decide +kernel
theorem dX4_plane_57 : decode cX4_plane 57 = .ok (.iload_n 2, 1) := by decide +kernel
theorem dX4_plane_58 : decode cX4_plane 58 = .ok (.iastore, 1) := by decide +kernel
theorem dX4_plane_59 : decode cX4_plane 59 = .ok (.aload_n 0, 1) := by decide +kernel
theorem dX4_plane_60 : decode cX4_plane 60 = .ok (.getfield 13, 3) := by decide +kernel
theorem dX4_plane_63 : decode cX4_plane 63 = .ok (.iload_n 1, 1) := by decide +kernel
theorem dX4_plane_64 : decode cX4_plane 64 = .ok (.iload_n 3, 1) := by decide +kernel
theorem dX4_plane_65 : decode cX4_plane 65 = .ok (.iastore, 1) := by decide +kernel
theorem dX4_plane_66 : decode cX4_plane 66 = .ok (.aload_n 0, 1) := by decide +kernel
theorem dX4_plane_67 : decode cX4_plane 67 = .ok (.getfield 16, 3) := by decide +kernel
theorem dX4_plane_70 : decode cX4_plane 70 = .ok (.iload_n 1, 1) := by decide +kernel
theorem dX4_plane_71 : decode cX4_plane 71 = .ok (.iload 4, 2) := by decide +kernel
theorem dX4_plane_73 : decode cX4_plane 73 = .ok (.iastore, 1) := by decide +kernel
theorem dX4_plane_74 : decode cX4_plane 74 = .ok (.iconst 1, 1) := by decide +kernel
theorem dX4_plane_75 : decode cX4_plane 75 = .ok (.ireturn, 1) := by decide +kernel
theorem dX4_tune_0 : decode cX4_tune 0 = .ok (.iload_n 1, 1) := by decide +kernel
theorem dX4_tune_1 : decode cX4_tune 1 = .ok (.iconst 0, 1) := by decide +kernel
theorem dX4_tune_2 : decode cX4_tune 2 = .ok (.iconst 3, 1) := by decide +kernel
theorem dX4_tune_3 : decode cX4_tune 3 = .ok (.invokestatic 56, 3) := by decide +kernel
theorem dX4_tune_6 : decode cX4_tune 6 = .ok (.ifCond .eq 22, 3) := by decide +kernel
theorem dX4_tune_9 : decode cX4_tune 9 = .ok (.iload_n 2, 1) := by decide +kernel
theorem dX4_tune_10 : decode cX4_tune 10 = .ok (.aload_n 0, 1) := by decide +kernel
theorem dX4_tune_11 : decode cX4_tune 11 = .ok (.getfield 22, 3) := by decide +kernel
theorem dX4_tune_14 : decode cX4_tune 14 = .ok (.iload_n 1, 1) := by decide +kernel
theorem dX4_tune_15 : decode cX4_tune 15 = .ok (.iaload, 1) := by decide +kernel
theorem dX4_tune_16 : decode cX4_tune 16 = .ok (.aload_n 0, 1) := by decide +kernel
theorem dX4_tune_17 : decode cX4_tune 17 = .ok (.getfield 25, 3) := by decide +kernel
theorem dX4_tune_20 : decode cX4_tune 20 = .ok (.iload_n 1, 1) := by decide +kernel
theorem dX4_tune_21 : decode cX4_tune 21 = .ok (.iaload, 1) := by decide +kernel
theorem dX4_tune_22 : decode cX4_tune 22 = .ok (.invokestatic 56, 3) := by decide +kernel
theorem dX4_tune_25 : decode cX4_tune 25 = .ok (.ifCond .ne 6, 3) := by decide +kernel
theorem dX4_tune_28 : decode cX4_tune 28 = .ok (.bipush (-2), 2) := by decide +kernel
theorem dX4_tune_30 : decode cX4_tune 30 = .ok (.ireturn, 1) := by decide +kernel
theorem dX4_tune_31 : decode cX4_tune 31 = .ok (.aload_n 0, 1) := by decide +kernel
theorem dX4_tune_32 : decode cX4_tune 32 = .ok (.invokevirtual 72, 3) := by decide +kernel
theorem dX4_tune_35 : decode cX4_tune 35 = .ok (.ifCond .eq 6, 3) := by decide +kernel
theorem dX4_tune_38 : decode cX4_tune 38 = .ok (.bipush (-3), 2) := by decide +kernel
theorem dX4_tune_40 : decode cX4_tune 40 = .ok (.ireturn, 1) := by decide +kernel
theorem dX4_tune_41 : decode cX4_tune 41 = .ok (.aload_n 0, 1) := by decide +kernel
theorem dX4_tune_42 : decode cX4_tune 42 = .ok (.getfield 19, 3) := by decide +kernel
theorem dX4_tune_45 : decode cX4_tune 45 = .ok (.iload_n 1, 1) := by decide +kernel
theorem dX4_tune_46 : decode cX4_tune 46 = .ok (.iaload, 1) := by decide +kernel
theorem dX4_tune_47 : decode cX4_tune 47 = .ok (.istore_n 3, 1) := by decide +kernel
theorem dX4_tune_48 : decode cX4_tune 48 = .ok (.aload_n 0, 1) := by decide +kernel
theorem dX4_tune_49 : decode cX4_tune 49 = .ok (.getfield 19, 3) := by decide +kernel
theorem dX4_tune_52 : decode cX4_tune 52 = .ok (.iload_n 1, 1) := by decide +kernel
theorem dX4_tune_53 : decode cX4_tune 53 = .ok (.iload_n 2, 1) := by decide +kernel
theorem dX4_tune_54 : decode cX4_tune 54 = .ok (.iastore, 1) := by decide +kernel
theorem dX4_tune_55 : decode cX4_tune 55 = .ok (.iload_n 3, 1) := by decide +kernel
theorem dX4_tune_56 : decode cX4_tune 56 = .ok (.ireturn, 1) := by decide +kernel
theorem dX4_horizon_0 : decode cX4_horizon 0 = .ok (.aload_n 0, 1) := by decide +kernel
theorem dX4_horizon_1 : decode cX4_horizon 1 = .ok (.getfield 64, 3) := by decide +kernel
theorem dX4_horizon_4 : decode cX4_horizon 4 = .ok (.ifCond .eq 9, 3) := by decide +kernel
theorem dX4_horizon_7 : decode cX4_horizon 7 = .ok (.sipush 20000, 3) := by decide +kernel
theorem dX4_horizon_10 : decode cX4_horizon 10 = .ok (.goto 34, 3) := by decide +kernel
theorem dX4_horizon_13 : decode cX4_horizon 13 = .ok (.aload_n 0, 1) := by decide +kernel
theorem dX4_horizon_14 : decode cX4_horizon 14 = .ok (.getfield 60, 3) := by decide +kernel
theorem dX4_horizon_17 : decode cX4_horizon 17 = .ok (.ifCond .ne 9, 3) := by decide +kernel
theorem dX4_horizon_20 : decode cX4_horizon 20 = .ok (.sipush (-1000), 3) := by decide +kernel
theorem dX4_horizon_23 : decode cX4_horizon 23 = .ok (.goto 21, 3) := by decide +kernel
theorem dX4_horizon_26 : decode cX4_horizon 26 = .ok (.aload_n 0, 1) := by decide +kernel
theorem dX4_horizon_27 : decode cX4_horizon 27 = .ok (.getfield 31, 3) := by decide +kernel
theorem dX4_horizon_30 : decode cX4_horizon 30 = .ok (.aload_n 0, 1) := by decide +kernel
theorem dX4_horizon_31 : decode cX4_horizon 31 = .ok (.getfield 60, 3) := by decide +kernel
theorem dX4_horizon_34 : decode cX4_horizon 34 = .ok (.iconst 1, 1) := by decide +kernel
theorem dX4_horizon_35 : decode cX4_horizon 35 = .ok (.isub, 1) := by decide +kernel
theorem dX4_horizon_36 : decode cX4_horizon 36 = .ok (.iaload, 1) := by decide +kernel
theorem dX4_horizon_37 : decode cX4_horizon 37 = .ok (.aload_n 0, 1) := by decide +kernel
theorem dX4_horizon_38 : decode cX4_horizon 38 = .ok (.getfield 19, 3) := by decide +kernel
theorem dX4_horizon_41 : decode cX4_horizon 41 = .ok (.iconst 0, 1) := by decide +kernel
theorem dX4_horizon_42 : decode cX4_horizon 42 = .ok (.iaload, 1) := by decide +kernel
theorem dX4_horizon_43 : decode cX4_horizon 43 = .ok (.isub, 1) := by decide +kernel
theorem dX4_horizon_44 : decode cX4_horizon 44 = .ok (.ireturn, 1) := by decide +kernel
theorem dX4_edge_0 : decode cX4_edge 0 = .ok (.iconst 0, 1) := by decide +kernel
theorem dX4_edge_1 : decode cX4_edge 1 = .ok (.istore_n 1, 1) := by decide +kernel
theorem dX4_edge_2 : decode cX4_edge 2 = .ok (.iconst 0, 1) := by decide +kernel
theorem dX4_edge_3 : decode cX4_edge 3 = .ok (.istore_n 2, 1) := by decide +kernel
theorem dX4_edge_4 : decode cX4_edge 4 = .ok (.iload_n 2, 1) := by decide +kernel
theorem dX4_edge_5 : decode cX4_edge 5 = .ok (.bipush 6, 2) := by decide +kernel
theorem dX4_edge_7 : decode cX4_edge 7 = .ok (.if_icmp .ge 30, 3) := by decide +kernel
theorem dX4_edge_10 : decode cX4_edge 10 = .ok (.aload_n 0, 1) := by decide +kernel
theorem dX4_edge_11 : decode cX4_edge 11 = .ok (.getfield 7, 3) := by decide +kernel
theorem dX4_edge_14 : decode cX4_edge 14 = .ok (.iload_n 2, 1) := by decide +kernel
theorem dX4_edge_15 : decode cX4_edge 15 = .ok (.iaload, 1) := by decide +kernel
theorem dX4_edge_16 : decode cX4_edge 16 = .ok (.iload_n 1, 1) := by decide +kernel
theorem dX4_edge_17 : decode cX4_edge 17 = .ok (.if_icmp .le 12, 3) := by decide +kernel
theorem dX4_edge_20 : decode cX4_edge 20 = .ok (.aload_n 0, 1) := by decide +kernel
theorem dX4_edge_21 : decode cX4_edge 21 = .ok (.getfield 7, 3) := by decide +kernel
theorem dX4_edge_24 : decode cX4_edge 24 = .ok (.iload_n 2, 1) := by decide +kernel
theorem dX4_edge_25 : decode cX4_edge 25 = .ok (.iaload, 1) := by decide +kernel
theorem dX4_edge_26 : decode cX4_edge 26 = .ok (.goto 4, 3) := by decide +kernel
theorem dX4_edge_29 : decode cX4_edge 29 = .ok (.iload_n 1, 1) := by decide +kernel
theorem dX4_edge_30 : decode cX4_edge 30 = .ok (.istore_n 1, 1) := by decide +kernel
theorem dX4_edge_31 : decode cX4_edge 31 = .ok (.iinc 2 1, 3) := by decide +kernel
theorem dX4_edge_34 : decode cX4_edge 34 = .ok (.goto (-30), 3) := by decide +kernel
theorem dX4_edge_37 : decode cX4_edge 37 = .ok (.aload_n 0, 1) := by decide +kernel
theorem dX4_edge_38 : decode cX4_edge 38 = .ok (.invokevirtual 76, 3) := by decide +kernel
theorem dX4_edge_41 : decode cX4_edge 41 = .ok (.iload_n 1, 1) := by decide +kernel
theorem dX4_edge_42 : decode cX4_edge 42 = .ok (.isub, 1) := by decide +kernel
theorem dX4_edge_43 : decode cX4_edge 43 = .ok (.ireturn, 1) := by decide +kernel
theorem dX4_isBehind_0 : decode cX4_isBehind 0 = .ok (.aload_n 0, 1) := by decide +kernel
theorem dX4_isBehind_1 : decode cX4_isBehind 1 = .ok (.getfield 31, 3) := by decide +kernel
theorem dX4_isBehind_4 : decode cX4_isBehind 4 = .ok (.iload_n 1, 1) := by decide +kernel
theorem dX4_isBehind_5 : decode cX4_isBehind 5 = .ok (.iaload, 1) := by decide +kernel
theorem dX4_isBehind_6 : decode cX4_isBehind 6 = .ok (.iload_n 3, 1) := by decide +kernel
theorem dX4_isBehind_7 : decode cX4_isBehind 7 = .ok (.if_icmp .eq 19, 3) := by decide +kernel
theorem dX4_isBehind_10 : decode cX4_isBehind 10 = .ok (.aload_n 0, 1) := by decide +kernel
theorem dX4_isBehind_11 : decode cX4_isBehind 11 = .ok (.getfield 31, 3) := by decide +kernel
theorem dX4_isBehind_14 : decode cX4_isBehind 14 = .ok (.iload_n 1, 1) := by decide +kernel
theorem dX4_isBehind_15 : decode cX4_isBehind 15 = .ok (.iaload, 1) := by decide +kernel
theorem dX4_isBehind_16 : decode cX4_isBehind 16 = .ok (.iload_n 3, 1) := by decide +kernel
theorem dX4_isBehind_17 : decode cX4_isBehind 17 = .ok (.if_icmp .le 7, 3) := by decide +kernel
theorem dX4_isBehind_20 : decode cX4_isBehind 20 = .ok (.iconst 1, 1) := by decide +kernel
