theorem dX0_init_0 : decode cX0_init 0 = .ok (.aload_n 0, 1) := by decide +kernel
theorem dX0_init_1 : decode cX0_init 1 = .ok (.invokespecial 3, 3) := by decide +kernel
theorem dX0_init_4 : decode cX0_init 4 = .ok (.aload_n 0, 1) := by decide +kernel
theorem dX0_init_5 : decode cX0_init 5 = .ok (.sipush 240, 3) := by decide +kernel
theorem dX0_init_8 : decode cX0_init 8 = .ok (.newarray .int, 2) := by decide +kernel
theorem dX0_init_10 : decode cX0_init 10 = .ok (.putfield 9, 3) := by decide +kernel
theorem dX0_init_13 : decode cX0_init 13 = .ok (.aload_n 0, 1) := by decide +kernel
theorem dX0_init_14 : decode cX0_init 14 = .ok (.sipush 240, 3) := by decide +kernel
theorem dX0_init_17 : decode cX0_init 17 = .ok (.newarray .int, 2) := by decide +kernel
theorem dX0_init_19 : decode cX0_init 19 = .ok (.putfield 15, 3) := by decide +kernel
theorem dX0_init_22 : decode cX0_init 22 = .ok (.aload_n 0, 1) := by decide +kernel
theorem dX0_init_23 : decode cX0_init 23 = .ok (.sipush 240, 3) := by decide +kernel
theorem dX0_init_26 : decode cX0_init 26 = .ok (.newarray .int, 2) := by decide +kernel
theorem dX0_init_28 : decode cX0_init 28 = .ok (.putfield 18, 3) := by decide +kernel
theorem dX0_init_31 : decode cX0_init 31 = .ok (.aload_n 0, 1) := by decide +kernel
theorem dX0_init_32 : decode cX0_init 32 = .ok (.sipush 240, 3) := by decide +kernel
theorem dX0_init_35 : decode cX0_init 35 = .ok (.newarray .int, 2) := by decide +kernel
theorem dX0_init_37 : decode cX0_init 37 = .ok (.putfield 21, 3) := by decide +kernel
theorem dX0_init_40 : decode cX0_init 40 = .ok (.aload_n 0, 1) := by decide +kernel
theorem dX0_init_41 : decode cX0_init 41 = .ok (.sipush 240, 3) := by decide +kernel
theorem dX0_init_44 : decode cX0_init 44 = .ok (.newarray .int, 2) := by decide +kernel
theorem dX0_init_46 : decode cX0_init 46 = .ok (.putfield 24, 3) := by decide +kernel
theorem dX0_init_49 : decode cX0_init 49 = .ok (.aload_n 0, 1) := by decide +kernel
theorem dX0_init_50 : decode cX0_init 50 = .ok (.sipush 240, 3) := by decide +kernel
theorem dX0_init_53 : decode cX0_init 53 = .ok (.newarray .int, 2) := by decide +kernel
theorem dX0_init_55 : decode cX0_init 55 = .ok (.putfield 27, 3) := by decide +kernel
theorem dX0_init_58 : decode cX0_init 58 = .ok (.return_, 1) := by decide +kernel
theorem dX0_add_0 : decode cX0_add 0 = .ok (.aload_n 0, 1) := by decide +kernel
theorem dX0_add_1 : decode cX0_add 1 = .ok (.getfield 30, 3) := by decide +kernel
theorem dX0_add_4 : decode cX0_add 4 = .ok (.sipush 240, 3) := by decide +kernel
theorem dX0_add_7 : decode cX0_add 7 = .ok (.if_icmp .lt 4, 3) := by decide +kernel
theorem dX0_add_10 : decode cX0_add 10 = .ok (.return_, 1) := by decide +kernel
theorem dX0_add_11 : decode cX0_add 11 = .ok (.aload_n 0, 1) := by decide +kernel
theorem dX0_add_12 : decode cX0_add 12 = .ok (.getfield 9, 3) := by decide +kernel
theorem dX0_add_15 : decode cX0_add 15 = .ok (.aload_n 0, 1) := by decide +kernel
theorem dX0_add_16 : decode cX0_add 16 = .ok (.getfield 30, 3) := by decide +kernel
theorem dX0_add_19 : decode cX0_add 19 = .ok (.iload_n 1, 1) := by decide +kernel
theorem dX0_add_20 : decode cX0_add 20 = .ok (.iastore, 1) := by decide +kernel
theorem dX0_add_21 : decode cX0_add 21 = .ok (.aload_n 0, 1) := by decide +kernel
theorem dX0_add_22 : decode cX0_add 22 = .ok (.getfield 15, 3) := by decide +kernel
theorem dX0_add_25 : decode cX0_add 25 = .ok (.aload_n 0, 1) := by decide +kernel
theorem dX0_add_26 : decode cX0_add 26 = .ok (.getfield 30, 3) := by decide +kernel
theorem dX0_add_29 : decode cX0_add 29 = .ok (.iload_n 2, 1) := by decide +kernel
theorem dX0_add_30 : decode cX0_add 30 = .ok (.iastore, 1) := by decide +kernel
theorem dX0_add_31 : decode cX0_add 31 = .ok (.aload_n 0, 1) := by decide +kernel
theorem dX0_add_32 : decode cX0_add 32 = .ok (.getfield 18, 3) := by decide +kernel
theorem dX0_add_35 : decode cX0_add 35 = .ok (.aload_n 0, 1) := by decide +kernel
theorem dX0_add_36 : decode cX0_add 36 = .ok (.getfield 30, 3) := by decide +kernel
theorem dX0_add_39 : decode cX0_add 39 = .ok (.aload_n 3, 1) := by decide +kernel
theorem dX0_add_40 : decode cX0_add 40 = .ok (.getfield 34, 3) := by decide +kernel
theorem dX0_add_43 : decode cX0_add 43 = .ok (.iastore, 1) := by decide +kernel
theorem dX0_add_44 : decode cX0_add 44 = .ok (.aload_n 0, 1) := by decide +kernel
theorem dX0_add_45 : decode cX0_add 45 = .ok (.getfield 21, 3) := by decide +kernel
theorem dX0_add_48 : decode cX0_add 48 = .ok (.aload_n 0, 1) := by decide +kernel
theorem dX0_add_49 : decode cX0_add 49 = .ok (.getfield 30, 3) := by decide +kernel
theorem dX0_add_52 : decode cX0_add 52 = .ok (.aload_n 3, 1) := by decide +kernel
theorem dX0_add_53 : decode cX0_add 53 = .ok (.getfield 39, 3) := by decide +kernel
theorem dX0_add_56 : decode cX0_add 56 = .ok (.iastore, 1) := by decide +kernel
theorem dX0_add_57 : decode cX0_add 57 = .ok (.aload_n 0, 1) := by decide +kernel
theorem dX0_add_58 : decode cX0_add 58 = .ok (.getfield 24, 3) := by decide +kernel
theorem dX0_add_61 : decode cX0_add 61 = .ok (.aload_n 0, 1) := by decide +kernel
theorem dX0_add_62 : decode cX0_add 62 = .ok (.getfield 30, 3) := by decide +kernel
theorem dX0_add_65 : decode cX0_add 65 = .ok (.aload_n 3, 1) := by decide +kernel
theorem dX0_add_66 : decode cX0_add 66 = .ok (.getfield 42, 3) := by decide +kernel
theorem dX0_add_69 : decode cX0_add 69 = .ok (.iastore, 1) := by decide +kernel
theorem dX0_add_70 : decode cX0_add 70 = .ok (.aload_n 0, 1) := by decide +kernel
theorem dX0_add_71 : decode cX0_add 71 = .ok (.getfield 27, 3) := by decide +kernel
theorem dX0_add_74 : decode cX0_add 74 = .ok (.aload_n 0, 1) := by decide +kernel
theorem dX0_add_75 : decode cX0_add 75 = .ok (.getfield 30, 3) := by decide +kernel
theorem dX0_add_78 : decode cX0_add 78 = .ok (.aload_n 3, 1) := by decide +kernel
theorem dX0_add_79 : decode cX0_add 79 = .ok (.getfield 44, 3) := by decide +kernel
theorem dX0_add_82 : decode cX0_add 82 = .ok (.iastore, 1) := by decide +kernel
theorem dX0_add_83 : decode cX0_add 83 = .ok (.aload_n 0, 1) := by decide +kernel
theorem dX0_add_84 : decode cX0_add 84 = .ok (.dup, 1) := by decide +kernel
theorem dX0_add_85 : decode cX0_add 85 = .ok (.getfield 30, 3) := by decide +kernel
theorem dX0_add_88 : decode cX0_add 88 = .ok (.iconst 1, 1) := by decide +kernel
theorem dX0_add_89 : decode cX0_add 89 = .ok (.iadd, 1) := by decide +kernel
theorem dX0_add_90 : decode cX0_add 90 = .ok (.putfield 30, 3) := by decide +kernel
theorem dX0_add_93 : decode cX0_add 93 = .ok (.return_, 1) := by decide +kernel
theorem dX0_endOf_0 : decode cX0_endOf 0 = .ok (.iload_n 1, 1) := by decide +kernel
theorem dX0_endOf_1 : decode cX0_endOf 1 = .ok (.ifCond .lt 20, 3) := by decide +kernel
theorem dX0_endOf_4 : decode cX0_endOf 4 = .ok (.iload_n 1, 1) := by decide +kernel
theorem dX0_endOf_5 : decode cX0_endOf 5 = .ok (.aload_n 0, 1) := by decide +kernel
theorem dX0_endOf_6 : decode cX0_endOf 6 = .ok (.getfield 30, 3) := by decide +kernel
theorem dX0_endOf_9 : decode cX0_endOf 9 = .ok (.if_icmp .ge 12, 3) := by decide +kernel
theorem dX0_endOf_12 : decode cX0_endOf 12 = .ok (.aload_n 0, 1) := by decide +kernel
theorem dX0_endOf_13 : decode cX0_endOf 13 = .ok (.getfield 9, 3) := by decide +kernel
theorem dX0_endOf_16 : decode cX0_endOf 16 = .ok (.iload_n 1, 1) := by decide +kernel
theorem dX0_endOf_17 : decode cX0_endOf 17 = .ok (.iaload, 1) := by decide +kernel
theorem dX0_endOf_18 : decode cX0_endOf 18 = .ok (.goto 4, 3) := by decide +kernel
theorem dX0_endOf_21 : decode cX0_endOf 21 = .ok (.iconst 0, 1) := by decide +kernel
theorem dX0_endOf_22 : decode cX0_endOf 22 = .ok (.ireturn, 1) := by decide +kernel
theorem dX0_pulses_0 : decode cX0_pulses 0 = .ok (.aload_n 0, 1) := by decide +kernel
theorem dX0_pulses_1 : decode cX0_pulses 1 = .ok (.aload_n 0, 1) := by decide +kernel
theorem dX0_pulses_2 : decode cX0_pulses 2 = .ok (.getfield 30, 3) := by decide +kernel
theorem dX0_pulses_5 : decode cX0_pulses 5 = .ok (.iconst 1, 1) := by decide +kernel
theorem dX0_pulses_6 : decode cX0_pulses 6 = .ok (.isub, 1) := by decide +kernel
theorem dX0_pulses_7 : decode cX0_pulses 7 = .ok (.invokevirtual 47, 3) := by decide +kernel
theorem dX0_pulses_10 : decode cX0_pulses 10 = .ok (.ireturn, 1) := by decide +kernel
theorem dX0_hasTrack_0 : decode cX0_hasTrack 0 = .ok (.aload_n 0, 1) := by decide +kernel
theorem dX0_hasTrack_1 : decode cX0_hasTrack 1 = .ok (.getfield 24, 3) := by decide +kernel
theorem dX0_hasTrack_4 : decode cX0_hasTrack 4 = .ok (.iload_n 1, 1) := by decide +kernel
theorem dX0_hasTrack_5 : decode cX0_hasTrack 5 = .ok (.iaload, 1) := by decide +kernel
theorem dX0_hasTrack_6 : decode cX0_hasTrack 6 = .ok (.ifCond .eq 7, 3) := by decide +kernel
theorem dX0_hasTrack_9 : decode cX0_hasTrack 9 = .ok (.iconst 1, 1) := by decide +kernel
theorem dX0_hasTrack_10 : decode cX0_hasTrack 10 = .ok (.goto 4, 3) := by decide +kernel
theorem dX0_hasTrack_13 : decode cX0_hasTrack 13 = .ok (.iconst 0, 1) := by decide +kernel
theorem dX0_hasTrack_14 : decode cX0_hasTrack 14 = .ok (.ireturn, 1) := by decide +kernel
theorem dX0_tracks_0 : decode cX0_tracks 0 = .ok (.iconst 0, 1) := by decide +kernel
theorem dX0_tracks_1 : decode cX0_tracks 1 = .ok (.istore_n 1, 1) := by decide +kernel
theorem dX0_tracks_2 : decode cX0_tracks 2 = .ok (.iconst 0, 1) := by decide +kernel
theorem dX0_tracks_3 : decode cX0_tracks 3 = .ok (.istore_n 2, 1) := by decide +kernel
theorem dX0_tracks_4 : decode cX0_tracks 4 = .ok (.iload_n 2, 1) := by decide +kernel
theorem dX0_tracks_5 : decode cX0_tracks 5 = .ok (.aload_n 0, 1) := by decide +kernel
theorem dX0_tracks_6 : decode cX0_tracks 6 = .ok (.getfield 30, 3) := by decide +kernel
theorem dX0_tracks_9 : decode cX0_tracks 9 = .ok (.if_icmp .ge 20, 3) := by decide +kernel
theorem dX0_tracks_12 : decode cX0_tracks 12 = .ok (.aload_n 0, 1) := by decide +kernel
theorem dX0_tracks_13 : decode cX0_tracks 13 = .ok (.iload_n 2, 1) := by decide +kernel
theorem dX0_tracks_14 : decode cX0_tracks 14 = .ok (.invokevirtual 51, 3) := by decide +kernel
theorem dX0_tracks_17 : decode cX0_tracks 17 = .ok (.ifCond .eq 6, 3) := by decide +kernel
theorem dX0_tracks_20 : decode cX0_tracks 20 = .ok (.iinc 1 1, 3) := by decide +kernel
theorem dX0_tracks_23 : decode cX0_tracks 23 = .ok (.iinc 2 1, 3) := by decide +kernel
theorem dX0_tracks_26 : decode cX0_tracks 26 = .ok (.goto (-22), 3) := by decide +kernel
theorem dX0_tracks_29 : decode cX0_tracks 29 = .ok (.iload_n 1, 1) := by decide +kernel
theorem dX0_tracks_30 : decode cX0_tracks 30 = .ok (.ireturn, 1) := by decide +kernel
theorem dX1_init_0 : decode cX1_init 0 = .ok (.aload_n 0, 1) := by decide +kernel
theorem dX1_init_1 : decode cX1_init 1 = .ok (.invokespecial 3, 3) := by decide +kernel
theorem dX1_init_4 : decode cX1_init 4 = .ok (.aload_n 0, 1) := by decide +kernel
theorem dX1_init_5 : decode cX1_init 5 = .ok (.bipush 6, 2) := by decide +kernel
theorem dX1_init_7 : decode cX1_init 7 = .ok (.newarray .int, 2) := by decide +kernel
theorem dX1_init_9 : decode cX1_init 9 = .ok (.putfield 9, 3) := by decide +kernel
theorem dX1_init_12 : decode cX1_init 12 = .ok (.return_, 1) := by decide +kernel
theorem dX1_run_0 : decode cX1_run 0 = .ok (.aload_n 0, 1) := by decide +kernel
theorem dX1_run_1 : decode cX1_run 1 = .ok (.iconst 0, 1) := by decide +kernel
theorem dX1_run_2 : decode cX1_run 2 = .ok (.putfield 15, 3) := by decide +kernel
theorem dX1_run_5 : decode cX1_run 5 = .ok (.aload_n 0, 1) := by decide +kernel
theorem dX1_run_6 : decode cX1_run 6 = .ok (.iconst 0, 1) := by decide +kernel
theorem dX1_run_7 : decode cX1_run 7 = .ok (.putfield 19, 3) := by decide +kernel
theorem dX1_run_10 : decode cX1_run 10 = .ok (.getstatic 22, 3) := by decide +kernel
theorem dX1_run_13 : decode cX1_run 13 = .ok (.astore_n 3, 1) := by decide +kernel
theorem dX1_run_14 : decode cX1_run 14 = .ok (.aload_n 3, 1) := by decide +kernel
theorem dX1_run_15 : decode cX1_run 15 = .ok (.arraylength, 1) := by decide +kernel
theorem dX1_run_16 : decode cX1_run 16 = .ok (.istore 4, 2) := by decide +kernel
theorem dX1_run_18 : decode cX1_run 18 = .ok (.iconst 0, 1) := by decide +kernel
theorem dX1_run_19 : decode cX1_run 19 = .ok (.istore 5, 2) := by decide +kernel
theorem dX1_run_21 : decode cX1_run 21 = .ok (.iload 5, 2) := by decide +kernel
theorem dX1_run_23 : decode cX1_run 23 = .ok (.iload 4, 2) := by decide +kernel
theorem dX1_run_25 : decode cX1_run 25 = .ok (.if_icmp .ge 40, 3) := by decide +kernel
theorem dX1_run_28 : decode cX1_run 28 = .ok (.aload_n 3, 1) := by decide +kernel
theorem dX1_run_29 : decode cX1_run 29 = .ok (.iload 5, 2) := by decide +kernel
theorem dX1_run_31 : decode cX1_run 31 = .ok (.iaload, 1) := by decide +kernel
theorem dX1_run_32 : decode cX1_run 32 = .ok (.istore 6, 2) := by decide +kernel
theorem dX1_run_34 : decode cX1_run 34 = .ok (.iconst 0, 1) := by decide +kernel
theorem dX1_run_35 : decode cX1_run 35 = .ok (.istore 7, 2) := by decide +kernel
theorem dX1_run_37 : decode cX1_run 37 = .ok (.iload 7, 2) := by decide +kernel
theorem dX1_run_39 : decode cX1_run 39 = .ok (.bipush 16, 2) := by decide +kernel
theorem dX1_run_41 : decode cX1_run 41 = .ok (.if_icmp .ge 18, 3) := by decide +kernel
theorem dX1_run_44 : decode cX1_run 44 = .ok (.aload_n 0, 1) := by decide +kernel
theorem dX1_run_45 : decode cX1_run 45 = .ok (.iload 7, 2) := by decide +kernel
theorem dX1_run_47 : decode cX1_run 47 = .ok (.iload 6, 2) := by decide +kernel
theorem dX1_run_49 : decode cX1_run 49 = .ok (.iload_n 1, 1) := by decide +kernel
theorem dX1_run_50 : decode cX1_run 50 = .ok (.invokevirtual 25, 3) := by decide +kernel
theorem dX1_run_53 : decode cX1_run 53 = .ok (.iinc 7 1, 3) := by decide +kernel
theorem dX1_run_56 : decode cX1_run 56 = .ok (.goto (-19), 3) := by decide +kernel
theorem dX1_run_59 : decode cX1_run 59 = .ok (.iinc 5 1, 3) := by decide +kernel
theorem dX1_run_62 : decode cX1_run 62 = .ok (.goto (-41), 3) := by decide +kernel
theorem dX1_run_65 : decode cX1_run 65 = .ok (.aload_n 0, 1) := by decide +kernel
theorem dX1_run_66 : decode cX1_run 66 = .ok (.getfield 15, 3) := by decide +kernel
theorem dX1_run_69 : decode cX1_run 69 = .ok (.invokestatic 29, 3) := by decide +kernel
theorem dX1_run_72 : decode cX1_run 72 = .ok (.iload_n 2, 1) := by decide +kernel
theorem dX1_run_73 : decode cX1_run 73 = .ok (.if_icmp .ge 8, 3) := by decide +kernel
theorem dX1_run_76 : decode cX1_run 76 = .ok (.aload_n 0, 1) := by decide +kernel
theorem dX1_run_77 : decode cX1_run 77 = .ok (.iconst 0, 1) := by decide +kernel
theorem dX1_run_78 : decode cX1_run 78 = .ok (.putfield 15, 3) := by decide +kernel
theorem dX1_run_81 : decode cX1_run 81 = .ok (.return_, 1) := by decide +kernel
theorem dX1_weigh_0 : decode cX1_weigh 0 = .ok (.iconst 0, 1) := by decide +kernel
theorem dX1_weigh_1 : decode cX1_weigh 1 = .ok (.istore 4, 2) := by decide +kernel
theorem dX1_weigh_3 : decode cX1_weigh 3 = .ok (.iconst 0, 1) := by decide +kernel
theorem dX1_weigh_4 : decode cX1_weigh 4 = .ok (.istore 5, 2) := by decide +kernel
theorem dX1_weigh_6 : decode cX1_weigh 6 = .ok (.iconst 0, 1) := by decide +kernel
theorem dX1_weigh_7 : decode cX1_weigh 7 = .ok (.istore 6, 2) := by decide +kernel
theorem dX1_weigh_9 : decode cX1_weigh 9 = .ok (.iload 6, 2) := by decide +kernel
theorem dX1_weigh_11 : decode cX1_weigh 11 = .ok (.bipush 6, 2) := by decide +kernel
theorem dX1_weigh_13 : decode cX1_weigh 13 = .ok (.if_icmp .ge 68, 3) := by decide +kernel
theorem dX1_weigh_16 : decode cX1_weigh 16 = .ok (.aload_n 0, 1) := by decide +kernel
theorem dX1_weigh_17 : decode cX1_weigh 17 = .ok (.getfield 9, 3) := by decide +kernel
theorem dX1_weigh_20 : decode cX1_weigh 20 = .ok (.iload 6, 2) := by decide +kernel
theorem dX1_weigh_22 : decode cX1_weigh 22 = .ok (.iaload, 1) := by decide +kernel
theorem dX1_weigh_23 : decode cX1_weigh 23 = .ok (.bipush (-9), 2) := by decide +kernel
theorem dX1_weigh_25 : decode cX1_weigh 25 = .ok (.if_icmp .ne 6, 3) := by decide +kernel
theorem dX1_weigh_28 : decode cX1_weigh 28 = .ok (.goto 47, 3) := by decide +kernel
theorem dX1_weigh_31 : decode cX1_weigh 31 = .ok (.iload_n 1, 1) := by decide +kernel
theorem dX1_weigh_32 : decode cX1_weigh 32 = .ok (.iload_n 2, 1) := by decide +kernel
theorem dX1_weigh_33 : decode cX1_weigh 33 = .ok (.iload 6, 2) := by decide +kernel
theorem dX1_weigh_35 : decode cX1_weigh 35 = .ok (.imul, 1) := by decide +kernel
theorem dX1_weigh_36 : decode cX1_weigh 36 = .ok (.iadd, 1) := by decide +kernel
theorem dX1_weigh_37 : decode cX1_weigh 37 = .ok (.aload_n 0, 1) := by decide +kernel
theorem dX1_weigh_38 : decode cX1_weigh 38 = .ok (.getfield 9, 3) := by decide +kernel
theorem dX1_weigh_41 : decode cX1_weigh 41 = .ok (.iload 6, 2) := by decide +kernel
theorem dX1_weigh_43 : decode cX1_weigh 43 = .ok (.iaload, 1) := by decide +kernel
theorem dX1_weigh_44 : decode cX1_weigh 44 = .ok (.isub, 1) := by decide +kernel
theorem dX1_weigh_45 : decode cX1_weigh 45 = .ok (.invokestatic 35, 3) := by decide +kernel
theorem dX1_weigh_48 : decode cX1_weigh 48 = .ok (.istore 7, 2) := by decide +kernel
theorem dX1_weigh_50 : decode cX1_weigh 50 = .ok (.iload 7, 2) := by decide +kernel
theorem dX1_weigh_52 : decode cX1_weigh 52 = .ok (.iload_n 3, 1) := by decide +kernel
theorem dX1_weigh_53 : decode cX1_weigh 53 = .ok (.if_icmp .le 6, 3) := by decide +kernel
theorem dX1_weigh_56 : decode cX1_weigh 56 = .ok (.goto 19, 3) := by decide +kernel
theorem dX1_weigh_59 : decode cX1_weigh 59 = .ok (.iload 4, 2) := by decide +kernel
theorem dX1_weigh_61 : decode cX1_weigh 61 = .ok (.iconst 1, 1) := by decide +kernel
theorem dX1_weigh_62 : decode cX1_weigh 62 = .ok (.iload 6, 2) := by decide +kernel
theorem dX1_weigh_64 : decode cX1_weigh 64 = .ok (.ishl, 1) := by decide +kernel
theorem dX1_weigh_65 : decode cX1_weigh 65 = .ok (.ior, 1) := by decide +kernel
theorem dX1_weigh_66 : decode cX1_weigh 66 = .ok (.istore 4, 2) := by decide +kernel
theorem dX1_weigh_68 : decode cX1_weigh 68 = .ok (.iload 5, 2) := by decide +kernel
theorem dX1_weigh_70 : decode cX1_weigh 70 = .ok (.iload 7, 2) := by decide +kernel
theorem dX1_weigh_72 : decode cX1_weigh 72 = .ok (.iadd, 1) := by decide +kernel
theorem dX1_weigh_73 : decode cX1_weigh 73 = .ok (.istore 5, 2) := by decide +kernel
theorem dX1_weigh_75 : decode cX1_weigh 75 = .ok (.iinc 6 1, 3) := by decide +kernel
theorem dX1_weigh_78 : decode cX1_weigh 78 = .ok (.goto (-69), 3) := by decide +kernel
theorem dX1_weigh_81 : decode cX1_weigh 81 = .ok (.iload 4, 2) := by decide +kernel
theorem dX1_weigh_83 : decode cX1_weigh 83 = .ok (.invokestatic 29, 3) := by decide +kernel
theorem dX1_weigh_86 : decode cX1_weigh 86 = .ok (.aload_n 0, 1) := by decide +kernel
theorem dX1_weigh_87 : decode cX1_weigh 87 = .ok (.getfield 15, 3) := by decide +kernel
theorem dX1_weigh_90 : decode cX1_weigh 90 = .ok (.invokestatic 29, 3) := by decide +kernel
theorem dX1_weigh_93 : decode cX1_weigh 93 = .ok (.isub, 1) := by decide +kernel
theorem dX1_weigh_94 : decode cX1_weigh 94 = .ok (.istore 6, 2) := by decide +kernel
theorem dX1_weigh_96 : decode cX1_weigh 96 = .ok (.iload 6, 2) := by decide +kernel
theorem dX1_weigh_98 : decode cX1_weigh 98 = .ok (.ifCond .gt 17, 3) := by decide +kernel
theorem dX1_weigh_101 : decode cX1_weigh 101 = .ok (.iload 6, 2) := by decide +kernel
theorem dX1_weigh_103 : decode cX1_weigh 103 = .ok (.ifCond .ne 22, 3) := by decide +kernel
theorem dX1_weigh_106 : decode cX1_weigh 106 = .ok (.iload 5, 2) := by decide +kernel
theorem dX1_weigh_108 : decode cX1_weigh 108 = .ok (.aload_n 0, 1) := by decide +kernel
theorem dX1_weigh_109 : decode cX1_weigh 109 = .ok (.getfield 19, 3) := by decide +kernel
theorem dX1_weigh_112 : decode cX1_weigh 112 = .ok (.if_icmp .ge 13, 3) := by decide +kernel
theorem dX1_weigh_115 : decode cX1_weigh 115 = .ok (.aload_n 0, 1) := by decide +kernel
theorem dX1_weigh_116 : decode cX1_weigh 116 = .ok (.iload_n 1, 1) := by decide +kernel
theorem dX1_weigh_117 : decode cX1_weigh 117 = .ok (.iload_n 2, 1) := by decide +kernel
theorem dX1_weigh_118 : decode cX1_weigh 118 = .ok (.iload 4, 2) := by decide +kernel
theorem dX1_weigh_120 : decode cX1_weigh 120 = .ok (.iload 5, 2) := by decide +kernel
theorem dX1_weigh_122 : decode cX1_weigh 122 = .ok (.invokevirtual 40, 3) := by decide +kernel
theorem dX1_weigh_125 : decode cX1_weigh 125 = .ok (.return_, 1) := by decide +kernel
theorem dX1_take_0 : decode cX1_take 0 = .ok (.aload_n 0, 1) := by decide +kernel
theorem dX1_take_1 : decode cX1_take 1 = .ok (.iload_n 1, 1) := by decide +kernel
theorem dX1_take_2 : decode cX1_take 2 = .ok (.putfield 44, 3) := by decide +kernel
theorem dX1_take_5 : decode cX1_take 5 = .ok (.aload_n 0, 1) := by decide +kernel
theorem dX1_take_6 : decode cX1_take 6 = .ok (.iload_n 2, 1) := by decide +kernel
theorem dX1_take_7 : decode cX1_take 7 = .ok (.putfield 47, 3) := by decide +kernel
theorem dX1_take_10 : decode cX1_take 10 = .ok (.aload_n 0, 1) := by decide +kernel
theorem dX1_take_11 : decode cX1_take 11 = .ok (.iload_n 3, 1) := by decide +kernel
theorem dX1_take_12 : decode cX1_take 12 = .ok (.putfield 15, 3) := by decide +kernel
theorem dX1_take_15 : decode cX1_take 15 = .ok (.aload_n 0, 1) := by decide +kernel
theorem dX1_take_16 : decode cX1_take 16 = .ok (.iload 4, 2) := by decide +kernel
theorem dX1_take_18 : decode cX1_take 18 = .ok (.putfield 19, 3) := by decide +kernel
theorem dX1_take_21 : decode cX1_take 21 = .ok (.return_, 1) := by decide +kernel
theorem dX2_init_0 : decode cX2_init 0 = .ok (.aload_n 0, 1) := by decide +kernel
theorem dX2_init_1 : decode cX2_init 1 = .ok (.invokespecial 3, 3) := by decide +kernel
theorem dX2_init_4 : decode cX2_init 4 = .ok (.aload_n 0, 1) := by decide +kernel
theorem dX2_init_5 : decode cX2_init 5 = .ok (.sipush 240, 3) := by decide +kernel
theorem dX2_init_8 : decode cX2_init 8 = .ok (.newarray .int, 2) := by decide +kernel
theorem dX2_init_10 : decode cX2_init 10 = .ok (.putfield 9, 3) := by decide +kernel
theorem dX2_init_13 : decode cX2_init 13 = .ok (.aload_n 0, 1) := by decide +kernel
theorem dX2_init_14 : decode cX2_init 14 = .ok (.sipush 240, 3) := by decide +kernel
theorem dX2_init_17 : decode cX2_init 17 = .ok (.newarray .int, 2) := by decide +kernel
theorem dX2_init_19 : decode cX2_init 19 = .ok (.putfield 15, 3) := by decide +kernel
theorem dX2_init_22 : decode cX2_init 22 = .ok (.aload_n 0, 1) := by decide +kernel
theorem dX2_init_23 : decode cX2_init 23 = .ok (.sipush 240, 3) := by decide +kernel
theorem dX2_init_26 : decode cX2_init 26 = .ok (.newarray .int, 2) := by decide +kernel
theorem dX2_init_28 : decode cX2_init 28 = .ok (.putfield 18, 3) := by decide +kernel
theorem dX2_init_31 : decode cX2_init 31 = .ok (.return_, 1) := by decide +kernel
theorem dX2_has_0 : decode cX2_has 0 = .ok (.iload_n 1, 1) := by decide +kernel
theorem dX2_has_1 : decode cX2_has 1 = .ok (.ifCond .lt 15, 3) := by decide +kernel
theorem dX2_has_4 : decode cX2_has 4 = .ok (.iload_n 1, 1) := by decide +kernel
theorem dX2_has_5 : decode cX2_has 5 = .ok (.aload_n 0, 1) := by decide +kernel
theorem dX2_has_6 : decode cX2_has 6 = .ok (.getfield 21, 3) := by decide +kernel
theorem dX2_has_9 : decode cX2_has 9 = .ok (.if_icmp .ge 7, 3) := by decide +kernel
theorem dX2_has_12 : decode cX2_has 12 = .ok (.iconst 1, 1) := by decide +kernel
theorem dX2_has_13 : decode cX2_has 13 = .ok (.goto 4, 3) := by decide +kernel
theorem dX2_has_16 : decode cX2_has 16 = .ok (.iconst 0, 1) := by decide +kernel
theorem dX2_has_17 : decode cX2_has 17 = .ok (.ireturn, 1) := by decide +kernel
theorem dX2_whenAt_0 : decode cX2_whenAt 0 = .ok (.aload_n 0, 1) := by decide +kernel
theorem dX2_whenAt_1 : decode cX2_whenAt 1 = .ok (.iload_n 1, 1) := by decide +kernel
theorem dX2_whenAt_2 : decode cX2_whenAt 2 = .ok (.invokevirtual 25, 3) := by decide +kernel
theorem dX2_whenAt_5 : decode cX2_whenAt 5 = .ok (.ifCond .eq 12, 3) := by decide +kernel
theorem dX2_whenAt_8 : decode cX2_whenAt 8 = .ok (.aload_n 0, 1) := by decide +kernel
theorem dX2_whenAt_9 : decode cX2_whenAt 9 = .ok (.getfield 9, 3) := by decide +kernel
theorem dX2_whenAt_12 : decode cX2_whenAt 12 = .ok (.iload_n 1, 1) := by decide +kernel
theorem dX2_whenAt_13 : decode cX2_whenAt 13 = .ok (.iaload, 1) := by decide +kernel
theorem dX2_whenAt_14 : decode cX2_whenAt 14 = .ok (.goto 4, 3) := by decide +kernel
theorem dX2_whenAt_17 : decode cX2_whenAt 17 = .ok (.iconst 0, 1) := by decide +kernel
theorem dX2_whenAt_18 : decode cX2_whenAt 18 = .ok (.ireturn, 1) := by decide +kernel
theorem dX2_insert_0 : decode cX2_insert 0 = .ok (.aload_n 0, 1) := by decide +kernel
theorem dX2_insert_1 : decode cX2_insert 1 = .ok (.getfield 21, 3) := by decide +kernel
theorem dX2_insert_4 : decode cX2_insert 4 = .ok (.sipush 240, 3) := by decide +kernel
theorem dX2_insert_7 : decode cX2_insert 7 = .ok (.if_icmp .lt 4, 3) := by decide +kernel
theorem dX2_insert_10 : decode cX2_insert 10 = .ok (.return_, 1) := by decide +kernel
theorem dX2_insert_11 : decode cX2_insert 11 = .ok (.aload_n 0, 1) := by decide +kernel
theorem dX2_insert_12 : decode cX2_insert 12 = .ok (.getfield 21, 3) := by decide +kernel
theorem dX2_insert_15 : decode cX2_insert 15 = .ok (.istore 4, 2) := by decide +kernel
theorem dX2_insert_17 : decode cX2_insert 17 = .ok (.iload 4, 2) := by decide +kernel
theorem dX2_insert_19 : decode cX2_insert 19 = .ok (.ifCond .le 56, 3) := by decide +kernel
theorem dX2_insert_22 : decode cX2_insert 22 = .ok (.aload_n 0, 1) := by decide +kernel
theorem dX2_insert_23 : decode cX2_insert 23 = .ok (.iload 4, 2) := by decide +kernel
theorem dX2_insert_25 : decode cX2_insert 25 = .ok (.iconst 1, 1) := by decide +kernel
theorem dX2_insert_26 : decode cX2_insert 26 = .ok (.isub, 1) := by decide +kernel
theorem dX2_insert_27 : decode cX2_insert 27 = .ok (.iload_n 1, 1) := by decide +kernel
theorem dX2_insert_28 : decode cX2_insert 28 = .ok (.iload_n 2, 1) := by decide +kernel
theorem dX2_insert_29 : decode cX2_insert 29 = .ok (.iload_n 3, 1) := by decide +kernel
theorem dX2_insert_30 : decode cX2_insert 30 = .ok (.invokevirtual 29, 3) := by decide +kernel
theorem dX2_insert_33 : decode cX2_insert 33 = .ok (.ifCond .eq 42, 3) := by decide +kernel
theorem dX2_insert_36 : decode cX2_insert 36 = .ok (.aload_n 0, 1) := by decide +kernel
theorem dX2_insert_37 : decode cX2_insert 37 = .ok (.iload 4, 2) := by decide +kernel
theorem dX2_insert_39 : decode cX2_insert 39 = .ok (.aload_n 0, 1) := by decide +kernel
theorem dX2_insert_40 : decode cX2_insert 40 = .ok (.getfield 9, 3) := by decide +kernel
theorem dX2_insert_43 : decode cX2_insert 43 = .ok (.iload 4, 2) := by decide +kernel
theorem dX2_insert_45 : decode cX2_insert 45 = .ok (.iconst 1, 1) := by decide +kernel
theorem dX2_insert_46 : decode cX2_insert 46 = .ok (.isub, 1) := by decide +kernel
theorem dX2_insert_47 : decode cX2_insert 47 = .ok (.iaload, 1) := by decide +kernel
theorem dX2_insert_48 : decode cX2_insert 48 = .ok (.aload_n 0, 1) := by decide +kernel
theorem dX2_insert_49 : decode cX2_insert 49 = .ok (.getfield 15, 3) := by decide +kernel
theorem dX2_insert_52 : decode cX2_insert 52 = .ok (.iload 4, 2) := by decide +kernel
theorem dX2_insert_54 : decode cX2_insert 54 = .ok (.iconst 1, 1) := by decide +kernel
theorem dX2_insert_55 : decode cX2_insert 55 = .ok (.isub, 1) := by decide +kernel
theorem dX2_insert_56 : decode cX2_insert 56 = .ok (.iaload, 1) := by decide +kernel
theorem dX2_insert_57 : decode cX2_insert 57 = .ok (.aload_n 0, 1) := by decide +kernel
theorem dX2_insert_58 : decode cX2_insert 58 = .ok (.getfield 18, 3) := by decide +kernel
theorem dX2_insert_61 : decode cX2_insert 61 = .ok (.iload 4, 2) := by decide +kernel
theorem dX2_insert_63 : decode cX2_insert 63 = .ok (.iconst 1, 1) := by decide +kernel
theorem dX2_insert_64 : decode cX2_insert 64 = .ok (.isub, 1) := by decide +kernel
theorem dX2_insert_65 : decode cX2_insert 65 = .ok (.iaload, 1) := by decide +kernel
theorem dX2_insert_66 : decode cX2_insert 66 = .ok (.invokevirtual 33, 3) := by decide +kernel
theorem dX2_insert_69 : decode cX2_insert 69 = .ok (.iinc 4 (-1), 3) := by decide +kernel
theorem dX2_insert_72 : decode cX2_insert 72 = .ok (.goto (-55), 3) := by decide +kernel
theorem dX2_insert_75 : decode cX2_insert 75 = .ok (.aload_n 0, 1) := by decide +kernel
theorem dX2_insert_76 : decode cX2_insert 76 = .ok (.iload 4, 2) := by decide +kernel
theorem dX2_insert_78 : decode cX2_insert 78 = .ok (.iload_n 1, 1) := by decide +kernel
theorem dX2_insert_79 : decode cX2_insert 79 = .ok (.iload_n 2, 1) := by decide +kernel
theorem dX2_insert_80 : decode cX2_insert 80 = .ok (.iload_n 3, 1) := by decide +kernel
theorem dX2_insert_81 : decode cX2_insert 81 = .ok (.invokevirtual 33, 3) := by decide +kernel
theorem dX2_insert_84 : decode cX2_insert 84 = .ok (.aload_n 0, 1) := by decide +kernel
theorem dX2_insert_85 : decode cX2_insert 85 = .ok (.dup, 1) := by decide +kernel
theorem dX2_insert_86 : decode cX2_insert 86 = .ok (.getfield 21, 3) := by decide +kernel
theorem dX2_insert_89 : decode cX2_insert 89 = .ok (.iconst 1, 1) := by decide +kernel
theorem dX2_insert_90 : decode cX2_insert 90 = .ok (.iadd, 1) := by decide +kernel
theorem dX2_insert_91 : decode cX2_insert 91 = .ok (.putfield 21, 3) := by decide +kernel
theorem dX2_insert_94 : decode cX2_insert 94 = .ok (.return_, 1) := by decide +kernel
theorem dX2_isBehind_0 : decode cX2_isBehind 0 = .ok (.aload_n 0, 1) := by decide +kernel
theorem dX2_isBehind_1 : decode cX2_isBehind 1 = .ok (.getfield 9, 3) := by decide +kernel
theorem dX2_isBehind_4 : decode cX2_isBehind 4 = .ok (.iload_n 1, 1) := by decide +kernel
theorem dX2_isBehind_5 : decode cX2_isBehind 5 = .ok (.iaload, 1) := by decide +kernel
theorem dX2_isBehind_6 : decode cX2_isBehind 6 = .ok (.iload_n 2, 1) := by decide +kernel
theorem dX2_isBehind_7 : decode cX2_isBehind 7 = .ok (.if_icmp .eq 19, 3) := by decide +kernel
theorem dX2_isBehind_10 : decode cX2_isBehind 10 = .ok (.aload_n 0, 1) := by decide +kernel
theorem dX2_isBehind_11 : decode cX2_isBehind 11 = .ok (.getfield 9, 3) := by decide +kernel
theorem dX2_isBehind_14 : decode cX2_isBehind 14 = .ok (.iload_n 1, 1) := by decide +kernel
theorem dX2_isBehind_15 : decode cX2_isBehind 15 = .ok (.iaload, 1) := by decide +kernel
theorem dX2_isBehind_16 : decode cX2_isBehind 16 = .ok (.iload_n 2, 1) := by decide +kernel
theorem dX2_isBehind_17 : decode cX2_isBehind 17 = .ok (.if_icmp .le 7, 3) := by decide +kernel
theorem dX2_isBehind_20 : decode cX2_isBehind 20 = .ok (.iconst 1, 1) := by decide +kernel
theorem dX2_isBehind_21 : decode cX2_isBehind 21 = .ok (.goto 4, 3) := by decide +kernel
theorem dX2_isBehind_24 : decode cX2_isBehind 24 = .ok (.iconst 0, 1) := by decide +kernel
theorem dX2_isBehind_25 : decode cX2_isBehind 25 = .ok (.ireturn, 1) := by decide +kernel
theorem dX2_isBehind_26 : decode cX2_isBehind 26 = .ok (.aload_n 0, 1) := by decide +kernel
theorem dX2_isBehind_27 : decode cX2_isBehind 27 = .ok (.getfield 15, 3) := by decide +kernel
theorem dX2_isBehind_30 : decode cX2_isBehind 30 = .ok (.iload_n 1, 1) := by decide +kernel
theorem dX2_isBehind_31 : decode cX2_isBehind 31 = .ok (.iaload, 1) := by decide +kernel
theorem dX2_isBehind_32 : decode cX2_isBehind 32 = .ok (.iload_n 3, 1) := by decide +kernel
theorem dX2_isBehind_33 : decode cX2_isBehind 33 = .ok (.if_icmp .eq 19, 3) := by decide +kernel
theorem dX2_isBehind_36 : decode cX2_isBehind 36 = .ok (.aload_n 0, 1) := by decide +kernel
theorem dX2_isBehind_37 : decode cX2_isBehind 37 = .ok (.getfield 15, 3) := by decide +kernel
theorem dX2_isBehind_40 : decode cX2_isBehind 40 = .ok (.iload_n 1, 1) := by decide +kernel
theorem dX2_isBehind_41 : decode cX2_isBehind 41 = .ok (.iaload, 1) := by decide +kernel
theorem dX2_isBehind_42 : decode cX2_isBehind 42 = .ok (.iload_n 3, 1) := by decide +kernel
theorem dX2_isBehind_43 : decode cX2_isBehind 43 = .ok (.if_icmp .le 7, 3) := by decide +kernel
theorem dX2_isBehind_46 : decode cX2_isBehind 46 = .ok (.iconst 1, 1) := by decide +kernel
theorem dX2_isBehind_47 : decode cX2_isBehind 47 = .ok (.goto 4, 3) := by decide +kernel
theorem dX2_isBehind_50 : decode cX2_isBehind 50 = .ok (.iconst 0, 1) := by decide +kernel
theorem dX2_isBehind_51 : decode cX2_isBehind 51 = .ok (.ireturn, 1) := by decide +kernel
theorem dX2_isBehind_52 : decode cX2_isBehind 52 = .ok (.aload_n 0, 1) := by decide +kernel
theorem dX2_isBehind_53 : decode cX2_isBehind 53 = .ok (.getfield 18, 3) := by decide +kernel
theorem dX2_isBehind_56 : decode cX2_isBehind 56 = .ok (.iload_n 1, 1) := by decide +kernel
theorem dX2_isBehind_57 : decode cX2_isBehind 57 = .ok (.iaload, 1) := by decide +kernel
theorem dX2_isBehind_58 : decode cX2_isBehind 58 = .ok (.iload 4, 2) := by decide +kernel
theorem dX2_isBehind_60 : decode cX2_isBehind 60 = .ok (.if_icmp .le 7, 3) := by decide +kernel
theorem dX2_isBehind_63 : decode cX2_isBehind 63 = .ok (.iconst 1, 1) := by decide +kernel
theorem dX2_isBehind_64 : decode cX2_isBehind 64 = .ok (.goto 4, 3) := by decide +kernel
theorem dX2_isBehind_67 : decode cX2_isBehind 67 = .ok (.iconst 0, 1) := by decide +kernel
theorem dX2_isBehind_68 : decode cX2_isBehind 68 = .ok (.ireturn, 1) := by decide +kernel
theorem dX2_put_0 : decode cX2_put 0 = .ok (.aload_n 0, 1) := by decide +kernel
theorem dX2_put_1 : decode cX2_put 1 = .ok (.getfield 9, 3) := by decide +kernel
theorem dX2_put_4 : decode cX2_put 4 = .ok (.iload_n 1, 1) := by decide +kernel
theorem dX2_put_5 : decode cX2_put 5 = .ok (.iload_n 2, 1) := by decide +kernel
theorem dX2_put_6 : decode cX2_put 6 = .ok (.iastore, 1) := by decide +kernel
theorem dX2_put_7 : decode cX2_put 7 = .ok (.aload_n 0, 1) := by decide +kernel
theorem dX2_put_8 : decode cX2_put 8 = .ok (.getfield 15, 3) := by decide +kernel
theorem dX2_put_11 : decode cX2_put 11 = .ok (.iload_n 1, 1) := by decide +kernel
theorem dX2_put_12 : decode cX2_put 12 = .ok (.iload_n 3, 1) := by decide +kernel
theorem dX2_put_13 : decode cX2_put 13 = .ok (.iastore, 1) := by decide +kernel
theorem dX2_put_14 : decode cX2_put 14 = .ok (.aload_n 0, 1) := by decide +kernel
theorem dX2_put_15 : decode cX2_put 15 = .ok (.getfield 18, 3) := by decide +kernel
theorem dX2_put_18 : decode cX2_put 18 = .ok (.iload_n 1, 1) := by decide +kernel
theorem dX2_put_19 : decode cX2_put 19 = .ok (.iload 4, 2) := by decide +kernel
theorem dX2_put_21 : decode cX2_put 21 = .ok (.iastore, 1) := by decide +kernel
theorem dX2_put_22 : decode cX2_put 22 = .ok (.return_, 1) := by decide +kernel
theorem dX2_countOf_0 : decode cX2_countOf 0 = .ok (.iconst 0, 1) := by decide +kernel
theorem dX2_countOf_1 : decode cX2_countOf 1 = .ok (.istore_n 3, 1) := by decide +kernel
theorem dX2_countOf_2 : decode cX2_countOf 2 = .ok (.iconst 0, 1) := by decide +kernel
theorem dX2_countOf_3 : decode cX2_countOf 3 = .ok (.istore 4, 2) := by decide +kernel
theorem dX2_countOf_5 : decode cX2_countOf 5 = .ok (.iload 4, 2) := by decide +kernel
theorem dX2_countOf_7 : decode cX2_countOf 7 = .ok (.iload_n 2, 1) := by decide +kernel
theorem dX2_countOf_8 : decode cX2_countOf 8 = .ok (.if_icmp .ge 32, 3) := by decide +kernel
theorem dX2_countOf_11 : decode cX2_countOf 11 = .ok (.aload_n 0, 1) := by decide +kernel
theorem dX2_countOf_12 : decode cX2_countOf 12 = .ok (.iload 4, 2) := by decide +kernel
theorem dX2_countOf_14 : decode cX2_countOf 14 = .ok (.invokevirtual 25, 3) := by decide +kernel
theorem dX2_countOf_17 : decode cX2_countOf 17 = .ok (.ifCond .eq 23, 3) := by decide +kernel
theorem dX2_countOf_20 : decode cX2_countOf 20 = .ok (.aload_n 0, 1) := by decide +kernel
theorem dX2_countOf_21 : decode cX2_countOf 21 = .ok (.getfield 15, 3) := by decide +kernel
theorem dX2_countOf_24 : decode cX2_countOf 24 = .ok (.iload 4, 2) := by decide +kernel
theorem dX2_countOf_26 : decode cX2_countOf 26 = .ok (.iaload, 1) := by decide +kernel
theorem dX2_countOf_27 : decode cX2_countOf 27 = .ok (.iload_n 1, 1) := by decide +kernel
theorem dX2_countOf_28 : decode cX2_countOf 28 = .ok (.if_icmp .ne 6, 3) := by decide +kernel
theorem dX2_countOf_31 : decode cX2_countOf 31 = .ok (.iinc 3 1, 3) := by decide +kernel
theorem dX2_countOf_34 : decode cX2_countOf 34 = .ok (.iinc 4 1, 3) := by decide +kernel
theorem dX2_countOf_37 : decode cX2_countOf 37 = .ok (.goto (-32), 3) := by decide +kernel
theorem dX2_countOf_40 : decode cX2_countOf 40 = .ok (.iload_n 3, 1) := by decide +kernel
theorem dX2_countOf_41 : decode cX2_countOf 41 = .ok (.ireturn, 1) := by decide +kernel
theorem dX2_countApart_0 : decode cX2_countApart 0 = .ok (.iconst 0, 1) := by decide +kernel
theorem dX2_countApart_1 : decode cX2_countApart 1 = .ok (.istore 5, 2) := by decide +kernel
theorem dX2_countApart_3 : decode cX2_countApart 3 = .ok (.iconst 0, 1) := by decide +kernel
theorem dX2_countApart_4 : decode cX2_countApart 4 = .ok (.istore 6, 2) := by decide +kernel
theorem dX2_countApart_6 : decode cX2_countApart 6 = .ok (.iconst 0, 1) := by decide +kernel
theorem dX2_countApart_7 : decode cX2_countApart 7 = .ok (.istore 7, 2) := by decide +kernel
theorem dX2_countApart_9 : decode cX2_countApart 9 = .ok (.iload 7, 2) := by decide +kernel
theorem dX2_countApart_11 : decode cX2_countApart 11 = .ok (.iload 4, 2) := by decide +kernel
theorem dX2_countApart_13 : decode cX2_countApart 13 = .ok (.if_icmp .ge 129, 3) := by decide +kernel
theorem dX2_countApart_16 : decode cX2_countApart 16 = .ok (.aload_n 0, 1) := by decide +kernel
theorem dX2_countApart_17 : decode cX2_countApart 17 = .ok (.iload 7, 2) := by decide +kernel
theorem dX2_countApart_19 : decode cX2_countApart 19 = .ok (.invokevirtual 25, 3) := by decide +kernel
theorem dX2_countApart_22 : decode cX2_countApart 22 = .ok (.ifCond .eq 120, 3) := by decide +kernel
theorem dX2_countApart_25 : decode cX2_countApart 25 = .ok (.aload_n 0, 1) := by decide +kernel
theorem dX2_countApart_26 : decode cX2_countApart 26 = .ok (.getfield 15, 3) := by decide +kernel
theorem dX2_countApart_29 : decode cX2_countApart 29 = .ok (.iload 7, 2) := by decide +kernel
theorem dX2_countApart_31 : decode cX2_countApart 31 = .ok (.iaload, 1) := by decide +kernel
theorem dX2_countApart_32 : decode cX2_countApart 32 = .ok (.iload_n 1, 1) := by decide +kernel
theorem dX2_countApart_33 : decode cX2_countApart 33 = .ok (.if_icmp .eq 6, 3) := by decide +kernel
theorem dX2_countApart_36 : decode cX2_countApart 36 = .ok (.goto 100, 3) := by decide +kernel
theorem dX2_countApart_39 : decode cX2_countApart 39 = .ok (.aload_n 0, 1) := by decide +kernel
theorem dX2_countApart_40 : decode cX2_countApart 40 = .ok (.getfield 9, 3) := by decide +kernel
theorem dX2_countApart_43 : decode cX2_countApart 43 = .ok (.iload 7, 2) := by decide +kernel
theorem dX2_countApart_45 : decode cX2_countApart 45 = .ok (.iaload, 1) := by decide +kernel
theorem dX2_countApart_46 : decode cX2_countApart 46 = .ok (.iload_n 3, 1) := by decide +kernel
theorem dX2_countApart_47 : decode cX2_countApart 47 = .ok (.iadd, 1) := by decide +kernel
theorem dX2_countApart_48 : decode cX2_countApart 48 = .ok (.istore 8, 2) := by decide +kernel
theorem dX2_countApart_50 : decode cX2_countApart 50 = .ok (.iload 6, 2) := by decide +kernel
theorem dX2_countApart_52 : decode cX2_countApart 52 = .ok (.iload 4, 2) := by decide +kernel
theorem dX2_countApart_54 : decode cX2_countApart 54 = .ok (.if_icmp .ge 30, 3) := by decide +kernel
theorem dX2_countApart_57 : decode cX2_countApart 57 = .ok (.aload_n 0, 1) := by decide +kernel
theorem dX2_countApart_58 : decode cX2_countApart 58 = .ok (.iload 6, 2) := by decide +kernel
theorem dX2_countApart_60 : decode cX2_countApart 60 = .ok (.invokevirtual 25, 3) := by decide +kernel
theorem dX2_countApart_63 : decode cX2_countApart 63 = .ok (.ifCond .eq 21, 3) := by decide +kernel
theorem dX2_countApart_66 : decode cX2_countApart 66 = .ok (.aload_n 0, 1) := by decide +kernel
theorem dX2_countApart_67 : decode cX2_countApart 67 = .ok (.getfield 9, 3) := by decide +kernel
theorem dX2_countApart_70 : decode cX2_countApart 70 = .ok (.iload 6, 2) := by decide +kernel
theorem dX2_countApart_72 : decode cX2_countApart 72 = .ok (.iaload, 1) := by decide +kernel
theorem dX2_countApart_73 : decode cX2_countApart 73 = .ok (.iload 8, 2) := by decide +kernel
theorem dX2_countApart_75 : decode cX2_countApart 75 = .ok (.if_icmp .ge 9, 3) := by decide +kernel
theorem dX2_countApart_78 : decode cX2_countApart 78 = .ok (.iinc 6 1, 3) := by decide +kernel
theorem dX2_countApart_81 : decode cX2_countApart 81 = .ok (.goto (-31), 3) := by decide +kernel
theorem dX2_countApart_84 : decode cX2_countApart 84 = .ok (.iload 6, 2) := by decide +kernel
theorem dX2_countApart_86 : decode cX2_countApart 86 = .ok (.istore 9, 2) := by decide +kernel
theorem dX2_countApart_88 : decode cX2_countApart 88 = .ok (.iload 9, 2) := by decide +kernel
theorem dX2_countApart_90 : decode cX2_countApart 90 = .ok (.iload 4, 2) := by decide +kernel
theorem dX2_countApart_92 : decode cX2_countApart 92 = .ok (.if_icmp .ge 44, 3) := by decide +kernel
theorem dX2_countApart_95 : decode cX2_countApart 95 = .ok (.aload_n 0, 1) := by decide +kernel
theorem dX2_countApart_96 : decode cX2_countApart 96 = .ok (.iload 9, 2) := by decide +kernel
theorem dX2_countApart_98 : decode cX2_countApart 98 = .ok (.invokevirtual 25, 3) := by decide +kernel
theorem dX2_countApart_101 : decode cX2_countApart 101 = .ok (.ifCond .eq 35, 3) := by decide +kernel
theorem dX2_countApart_104 : decode cX2_countApart 104 = .ok (.aload_n 0, 1) := by decide +kernel
theorem dX2_countApart_105 : decode cX2_countApart 105 = .ok (.getfield 9, 3) := by decide +kernel
theorem dX2_countApart_108 : decode cX2_countApart 108 = .ok (.iload 9, 2) := by decide +kernel
theorem dX2_countApart_110 : decode cX2_countApart 110 = .ok (.iaload, 1) := by decide +kernel
theorem dX2_countApart_111 : decode cX2_countApart 111 = .ok (.iload 8, 2) := by decide +kernel
theorem dX2_countApart_113 : decode cX2_countApart 113 = .ok (.if_icmp .ne 23, 3) := by decide +kernel
theorem dX2_countApart_116 : decode cX2_countApart 116 = .ok (.aload_n 0, 1) := by decide +kernel
theorem dX2_countApart_117 : decode cX2_countApart 117 = .ok (.getfield 15, 3) := by decide +kernel
theorem dX2_countApart_120 : decode cX2_countApart 120 = .ok (.iload 9, 2) := by decide +kernel
theorem dX2_countApart_122 : decode cX2_countApart 122 = .ok (.iaload, 1) := by decide +kernel
theorem dX2_countApart_123 : decode cX2_countApart 123 = .ok (.iload_n 2, 1) := by decide +kernel
theorem dX2_countApart_124 : decode cX2_countApart 124 = .ok (.if_icmp .ne 6, 3) := by decide +kernel
theorem dX2_countApart_127 : decode cX2_countApart 127 = .ok (.iinc 5 1, 3) := by decide +kernel
theorem dX2_countApart_130 : decode cX2_countApart 130 = .ok (.iinc 9 1, 3) := by decide +kernel
theorem dX2_countApart_133 : decode cX2_countApart 133 = .ok (.goto (-45), 3) := by decide +kernel
theorem dX2_countApart_136 : decode cX2_countApart 136 = .ok (.iinc 7 1, 3) := by decide +kernel
theorem dX2_countApart_139 : decode cX2_countApart 139 = .ok (.goto (-130), 3) := by decide +kernel
theorem dX2_countApart_142 : decode cX2_countApart 142 = .ok (.iload 5, 2) := by decide +kernel
theorem dX2_countApart_144 : decode cX2_countApart 144 = .ok (.ireturn, 1) := by decide +kernel
theorem dX2_indexOf_0 : decode cX2_indexOf 0 = .ok (.iload_n 2, 1) := by decide +kernel
theorem dX2_indexOf_1 : decode cX2_indexOf 1 = .ok (.istore 4, 2) := by decide +kernel
theorem dX2_indexOf_3 : decode cX2_indexOf 3 = .ok (.iload 4, 2) := by decide +kernel
theorem dX2_indexOf_5 : decode cX2_indexOf 5 = .ok (.iload_n 3, 1) := by decide +kernel
theorem dX2_indexOf_6 : decode cX2_indexOf 6 = .ok (.if_icmp .ge 32, 3) := by decide +kernel
theorem dX2_indexOf_9 : decode cX2_indexOf 9 = .ok (.aload_n 0, 1) := by decide +kernel
theorem dX2_indexOf_10 : decode cX2_indexOf 10 = .ok (.iload 4, 2) := by decide +kernel
theorem dX2_indexOf_12 : decode cX2_indexOf 12 = .ok (.invokevirtual 25, 3) := by decide +kernel
theorem dX2_indexOf_15 : decode cX2_indexOf 15 = .ok (.ifCond .eq 23, 3) := by decide +kernel
theorem dX2_indexOf_18 : decode cX2_indexOf 18 = .ok (.aload_n 0, 1) := by decide +kernel
theorem dX2_indexOf_19 : decode cX2_indexOf 19 = .ok (.getfield 15, 3) := by decide +kernel
theorem dX2_indexOf_22 : decode cX2_indexOf 22 = .ok (.iload 4, 2) := by decide +kernel
theorem dX2_indexOf_24 : decode cX2_indexOf 24 = .ok (.iaload, 1) := by decide +kernel
theorem dX2_indexOf_25 : decode cX2_indexOf 25 = .ok (.iload_n 1, 1) := by decide +kernel
theorem dX2_indexOf_26 : decode cX2_indexOf 26 = .ok (.if_icmp .ne 6, 3) := by decide +kernel
theorem dX2_indexOf_29 : decode cX2_indexOf 29 = .ok (.iload 4, 2) := by decide +kernel
theorem dX2_indexOf_31 : decode cX2_indexOf 31 = .ok (.ireturn, 1) := by decide +kernel
theorem dX2_indexOf_32 : decode cX2_indexOf 32 = .ok (.iinc 4 1, 3) := by decide +kernel
theorem dX2_indexOf_35 : decode cX2_indexOf 35 = .ok (.goto (-32), 3) := by decide +kernel
theorem dX2_indexOf_38 : decode cX2_indexOf 38 = .ok (.iconst (-1), 1) := by decide +kernel
theorem dX2_indexOf_39 : decode cX2_indexOf 39 = .ok (.ireturn, 1) := by decide +kernel
theorem dX2_endOfGroup_0 : decode cX2_endOfGroup 0 = .ok (.aload_n 0, 1) := by decide +kernel
theorem dX2_endOfGroup_1 : decode cX2_endOfGroup 1 = .ok (.iload_n 1, 1) := by decide +kernel
theorem dX2_endOfGroup_2 : decode cX2_endOfGroup 2 = .ok (.invokevirtual 37, 3) := by decide +kernel
theorem dX2_endOfGroup_5 : decode cX2_endOfGroup 5 = .ok (.iload_n 3, 1) := by decide +kernel
theorem dX2_endOfGroup_6 : decode cX2_endOfGroup 6 = .ok (.iadd, 1) := by decide +kernel
theorem dX2_endOfGroup_7 : decode cX2_endOfGroup 7 = .ok (.istore 4, 2) := by decide +kernel
theorem dX2_endOfGroup_9 : decode cX2_endOfGroup 9 = .ok (.iload_n 1, 1) := by decide +kernel
theorem dX2_endOfGroup_10 : decode cX2_endOfGroup 10 = .ok (.iconst 1, 1) := by decide +kernel
theorem dX2_endOfGroup_11 : decode cX2_endOfGroup 11 = .ok (.iadd, 1) := by decide +kernel
theorem dX2_endOfGroup_12 : decode cX2_endOfGroup 12 = .ok (.istore 5, 2) := by decide +kernel
theorem dX2_endOfGroup_14 : decode cX2_endOfGroup 14 = .ok (.iload 5, 2) := by decide +kernel
theorem dX2_endOfGroup_16 : decode cX2_endOfGroup 16 = .ok (.iload_n 2, 1) := by decide +kernel
theorem dX2_endOfGroup_17 : decode cX2_endOfGroup 17 = .ok (.if_icmp .ge 30, 3) := by decide +kernel
theorem dX2_endOfGroup_20 : decode cX2_endOfGroup 20 = .ok (.aload_n 0, 1) := by decide +kernel
theorem dX2_endOfGroup_21 : decode cX2_endOfGroup 21 = .ok (.iload 5, 2) := by decide +kernel
theorem dX2_endOfGroup_23 : decode cX2_endOfGroup 23 = .ok (.invokevirtual 25, 3) := by decide +kernel
theorem dX2_endOfGroup_26 : decode cX2_endOfGroup 26 = .ok (.ifCond .eq 21, 3) := by decide +kernel
theorem dX2_endOfGroup_29 : decode cX2_endOfGroup 29 = .ok (.aload_n 0, 1) := by decide +kernel
theorem dX2_endOfGroup_30 : decode cX2_endOfGroup 30 = .ok (.getfield 9, 3) := by decide +kernel
theorem dX2_endOfGroup_33 : decode cX2_endOfGroup 33 = .ok (.iload 5, 2) := by decide +kernel
theorem dX2_endOfGroup_35 : decode cX2_endOfGroup 35 = .ok (.iaload, 1) := by decide +kernel
theorem dX2_endOfGroup_36 : decode cX2_endOfGroup 36 = .ok (.iload 4, 2) := by decide +kernel
theorem dX2_endOfGroup_38 : decode cX2_endOfGroup 38 = .ok (.if_icmp .gt 9, 3) := by decide +kernel
theorem dX2_endOfGroup_41 : decode cX2_endOfGroup 41 = .ok (.iinc 5 1, 3) := by decide +kernel
theorem dX2_endOfGroup_44 : decode cX2_endOfGroup 44 = .ok (.goto (-30), 3) := by decide +kernel
theorem dX2_endOfGroup_47 : decode cX2_endOfGroup 47 = .ok (.iload 5, 2) := by decide +kernel
theorem dX2_endOfGroup_49 : decode cX2_endOfGroup 49 = .ok (.ireturn, 1) := by decide +kernel
theorem dX2_planesOf_0 : decode cX2_planesOf 0 = .ok (.iconst 0, 1) := by decide +kernel
theorem dX2_planesOf_1 : decode cX2_planesOf 1 = .ok (.istore_n 3, 1) := by decide +kernel
theorem dX2_planesOf_2 : decode cX2_planesOf 2 = .ok (.iload_n 1, 1) := by decide +kernel
theorem dX2_planesOf_3 : decode cX2_planesOf 3 = .ok (.istore 4, 2) := by decide +kernel
theorem dX2_planesOf_5 : decode cX2_planesOf 5 = .ok (.iload 4, 2) := by decide +kernel
theorem dX2_planesOf_7 : decode cX2_planesOf 7 = .ok (.iload_n 2, 1) := by decide +kernel
theorem dX2_planesOf_8 : decode cX2_planesOf 8 = .ok (.if_icmp .ge 30, 3) := by decide +kernel
theorem dX2_planesOf_11 : decode cX2_planesOf 11 = .ok (.aload_n 0, 1) := by decide +kernel
theorem dX2_planesOf_12 : decode cX2_planesOf 12 = .ok (.iload 4, 2) := by decide +kernel
theorem dX2_planesOf_14 : decode cX2_planesOf 14 = .ok (.invokevirtual 25, 3) := by decide +kernel
theorem dX2_planesOf_17 : decode cX2_planesOf 17 = .ok (.ifCond .eq 21, 3) := by decide +kernel
theorem dX2_planesOf_20 : decode cX2_planesOf 20 = .ok (.iload_n 3, 1) := by decide +kernel
theorem dX2_planesOf_21 : decode cX2_planesOf 21 = .ok (.iconst 1, 1) := by decide +kernel
theorem dX2_planesOf_22 : decode cX2_planesOf 22 = .ok (.aload_n 0, 1) := by decide +kernel
theorem dX2_planesOf_23 : decode cX2_planesOf 23 = .ok (.getfield 15, 3) := by decide +kernel
theorem dX2_planesOf_26 : decode cX2_planesOf 26 = .ok (.iload 4, 2) := by decide +kernel
theorem dX2_planesOf_28 : decode cX2_planesOf 28 = .ok (.iaload, 1) := by decide +kernel
theorem dX2_planesOf_29 : decode cX2_planesOf 29 = .ok (.ishl, 1) := by decide +kernel
theorem dX2_planesOf_30 : decode cX2_planesOf 30 = .ok (.ior, 1) := by decide +kernel
theorem dX2_planesOf_31 : decode cX2_planesOf 31 = .ok (.istore_n 3, 1) := by decide +kernel
theorem dX2_planesOf_32 : decode cX2_planesOf 32 = .ok (.iinc 4 1, 3) := by decide +kernel
theorem dX2_planesOf_35 : decode cX2_planesOf 35 = .ok (.goto (-30), 3) := by decide +kernel
theorem dX2_planesOf_38 : decode cX2_planesOf 38 = .ok (.iload_n 3, 1) := by decide +kernel
theorem dX2_planesOf_39 : decode cX2_planesOf 39 = .ok (.ireturn, 1) := by decide +kernel
theorem dX2_putMemberStrips_0 : decode cX2_putMemberStrips 0 = .ok (.iconst 0, 1) := by decide +kernel
theorem dX2_putMemberStrips_1 : decode cX2_putMemberStrips 1 = .ok (.istore 4, 2) := by decide +kernel
theorem dX2_putMemberStrips_3 : decode cX2_putMemberStrips 3 = .ok (.iload 4, 2) := by decide +kernel
theorem dX2_putMemberStrips_5 : decode cX2_putMemberStrips 5 = .ok (.aload_n 3, 1) := by decide +kernel
theorem dX2_putMemberStrips_6 : decode cX2_putMemberStrips 6 = .ok (.arraylength, 1) := by decide +kernel
theorem dX2_putMemberStrips_7 : decode cX2_putMemberStrips 7 = .ok (.if_icmp .ge 44, 3) := by decide +kernel
theorem dX2_putMemberStrips_10 : decode cX2_putMemberStrips 10 = .ok (.aload_n 0, 1) := by decide +kernel
theorem dX2_putMemberStrips_11 : decode cX2_putMemberStrips 11 = .ok (.iload 4, 2) := by decide +kernel
theorem dX2_putMemberStrips_13 : decode cX2_putMemberStrips 13 = .ok (.iload_n 1, 1) := by decide +kernel
theorem dX2_putMemberStrips_14 : decode cX2_putMemberStrips 14 = .ok (.iload_n 2, 1) := by decide +kernel
theorem dX2_putMemberStrips_15 : decode cX2_putMemberStrips 15 = .ok (.invokevirtual 41, 3) := by decide +kernel
theorem dX2_putMemberStrips_18 : decode cX2_putMemberStrips 18 = .ok (.istore 5, 2) := by decide +kernel
theorem dX2_putMemberStrips_20 : decode cX2_putMemberStrips 20 = .ok (.aload_n 3, 1) := by decide +kernel
theorem dX2_putMemberStrips_21 : decode cX2_putMemberStrips 21 = .ok (.iload 4, 2) := by decide +kernel
theorem dX2_putMemberStrips_23 : decode cX2_putMemberStrips 23 = .ok (.aload_n 0, 1) := by decide +kernel
theorem dX2_putMemberStrips_24 : decode cX2_putMemberStrips 24 = .ok (.iload 5, 2) := by decide +kernel
theorem dX2_putMemberStrips_26 : decode cX2_putMemberStrips 26 = .ok (.invokevirtual 25, 3) := by decide +kernel
theorem dX2_putMemberStrips_29 : decode cX2_putMemberStrips 29 = .ok (.ifCond .eq 13, 3) := by decide +kernel
theorem dX2_putMemberStrips_32 : decode cX2_putMemberStrips 32 = .ok (.aload_n 0, 1) := by decide +kernel
theorem dX2_putMemberStrips_33 : decode cX2_putMemberStrips 33 = .ok (.getfield 18, 3) := by decide +kernel
theorem dX2_putMemberStrips_36 : decode cX2_putMemberStrips 36 = .ok (.iload 5, 2) := by decide +kernel
theorem dX2_putMemberStrips_38 : decode cX2_putMemberStrips 38 = .ok (.iaload, 1) := by decide +kernel
theorem dX2_putMemberStrips_39 : decode cX2_putMemberStrips 39 = .ok (.goto 5, 3) := by decide +kernel
theorem dX2_putMemberStrips_42 : decode cX2_putMemberStrips 42 = .ok (.bipush (-9), 2) := by decide +kernel
theorem dX2_putMemberStrips_44 : decode cX2_putMemberStrips 44 = .ok (.iastore, 1) := by decide +kernel
theorem dX2_putMemberStrips_45 : decode cX2_putMemberStrips 45 = .ok (.iinc 4 1, 3) := by decide +kernel
theorem dX2_putMemberStrips_48 : decode cX2_putMemberStrips 48 = .ok (.goto (-45), 3) := by decide +kernel
theorem dX2_putMemberStrips_51 : decode cX2_putMemberStrips 51 = .ok (.return_, 1) := by decide +kernel
theorem dX2_fillShifted_0 : decode cX2_fillShifted 0 = .ok (.iload_n 2, 1) := by decide +kernel
theorem dX2_fillShifted_1 : decode cX2_fillShifted 1 = .ok (.aload_n 1, 1) := by decide +kernel
theorem dX2_fillShifted_2 : decode cX2_fillShifted 2 = .ok (.getfield 21, 3) := by decide +kernel
theorem dX2_fillShifted_5 : decode cX2_fillShifted 5 = .ok (.invokestatic 45, 3) := by decide +kernel
theorem dX2_fillShifted_8 : decode cX2_fillShifted 8 = .ok (.istore 5, 2) := by decide +kernel
theorem dX2_fillShifted_10 : decode cX2_fillShifted 10 = .ok (.bipush 63, 2) := by decide +kernel
theorem dX2_fillShifted_12 : decode cX2_fillShifted 12 = .ok (.iload_n 3, 1) := by decide +kernel
theorem dX2_fillShifted_13 : decode cX2_fillShifted 13 = .ok (.iconst (-1), 1) := by decide +kernel
theorem dX2_fillShifted_14 : decode cX2_fillShifted 14 = .ok (.ixor, 1) := by decide +kernel
theorem dX2_fillShifted_15 : decode cX2_fillShifted 15 = .ok (.iand, 1) := by decide +kernel
theorem dX2_fillShifted_16 : decode cX2_fillShifted 16 = .ok (.istore 6, 2) := by decide +kernel
theorem dX2_fillShifted_18 : decode cX2_fillShifted 18 = .ok (.aload_n 1, 1) := by decide +kernel
theorem dX2_fillShifted_19 : decode cX2_fillShifted 19 = .ok (.iload 6, 2) := by decide +kernel
theorem dX2_fillShifted_21 : decode cX2_fillShifted 21 = .ok (.iconst 0, 1) := by decide +kernel
theorem dX2_fillShifted_22 : decode cX2_fillShifted 22 = .ok (.iload 5, 2) := by decide +kernel
theorem dX2_fillShifted_24 : decode cX2_fillShifted 24 = .ok (.invokevirtual 51, 3) := by decide +kernel
theorem dX2_fillShifted_27 : decode cX2_fillShifted 27 = .ok (.istore 7, 2) := by decide +kernel
theorem dX2_fillShifted_29 : decode cX2_fillShifted 29 = .ok (.aload_n 1, 1) := by decide +kernel
theorem dX2_fillShifted_30 : decode cX2_fillShifted 30 = .ok (.iload_n 3, 1) := by decide +kernel
theorem dX2_fillShifted_31 : decode cX2_fillShifted 31 = .ok (.iconst 0, 1) := by decide +kernel
theorem dX2_fillShifted_32 : decode cX2_fillShifted 32 = .ok (.iload 5, 2) := by decide +kernel
theorem dX2_fillShifted_34 : decode cX2_fillShifted 34 = .ok (.invokevirtual 51, 3) := by decide +kernel
theorem dX2_fillShifted_37 : decode cX2_fillShifted 37 = .ok (.istore 8, 2) := by decide +kernel
theorem dX2_fillShifted_39 : decode cX2_fillShifted 39 = .ok (.aload_n 0, 1) := by decide +kernel
theorem dX2_fillShifted_40 : decode cX2_fillShifted 40 = .ok (.iconst 0, 1) := by decide +kernel
theorem dX2_fillShifted_41 : decode cX2_fillShifted 41 = .ok (.putfield 21, 3) := by decide +kernel
theorem dX2_fillShifted_44 : decode cX2_fillShifted 44 = .ok (.aload_n 0, 1) := by decide +kernel
theorem dX2_fillShifted_45 : decode cX2_fillShifted 45 = .ok (.getfield 21, 3) := by decide +kernel
theorem dX2_fillShifted_48 : decode cX2_fillShifted 48 = .ok (.sipush 240, 3) := by decide +kernel
theorem dX2_fillShifted_51 : decode cX2_fillShifted 51 = .ok (.if_icmp .ge 155, 3) := by decide +kernel
theorem dX2_fillShifted_54 : decode cX2_fillShifted 54 = .ok (.iload 7, 2) := by decide +kernel
theorem dX2_fillShifted_56 : decode cX2_fillShifted 56 = .ok (.iload 5, 2) := by decide +kernel
theorem dX2_fillShifted_58 : decode cX2_fillShifted 58 = .ok (.if_icmp .lt 10, 3) := by decide +kernel
theorem dX2_fillShifted_61 : decode cX2_fillShifted 61 = .ok (.iload 8, 2) := by decide +kernel
theorem dX2_fillShifted_63 : decode cX2_fillShifted 63 = .ok (.iload 5, 2) := by decide +kernel
theorem dX2_fillShifted_65 : decode cX2_fillShifted 65 = .ok (.if_icmp .ge 141, 3) := by decide +kernel
theorem dX2_fillShifted_68 : decode cX2_fillShifted 68 = .ok (.iload 8, 2) := by decide +kernel
theorem dX2_fillShifted_70 : decode cX2_fillShifted 70 = .ok (.iload 5, 2) := by decide +kernel
theorem dX2_fillShifted_72 : decode cX2_fillShifted 72 = .ok (.if_icmp .ge 30, 3) := by decide +kernel
theorem dX2_fillShifted_75 : decode cX2_fillShifted 75 = .ok (.iload 7, 2) := by decide +kernel
theorem dX2_fillShifted_77 : decode cX2_fillShifted 77 = .ok (.iload 5, 2) := by decide +kernel
theorem dX2_fillShifted_79 : decode cX2_fillShifted 79 = .ok (.if_icmp .ge 69, 3) := by decide +kernel
theorem dX2_fillShifted_82 : decode cX2_fillShifted 82 = .ok (.aload_n 1, 1) := by decide +kernel
theorem dX2_fillShifted_83 : decode cX2_fillShifted 83 = .ok (.getfield 9, 3) := by decide +kernel
theorem dX2_fillShifted_86 : decode cX2_fillShifted 86 = .ok (.iload 7, 2) := by decide +kernel
theorem dX2_fillShifted_88 : decode cX2_fillShifted 88 = .ok (.iaload, 1) := by decide +kernel
theorem dX2_fillShifted_89 : decode cX2_fillShifted 89 = .ok (.aload_n 1, 1) := by decide +kernel
theorem dX2_fillShifted_90 : decode cX2_fillShifted 90 = .ok (.getfield 9, 3) := by decide +kernel
theorem dX2_fillShifted_93 : decode cX2_fillShifted 93 = .ok (.iload 8, 2) := by decide +kernel
theorem dX2_fillShifted_95 : decode cX2_fillShifted 95 = .ok (.iaload, 1) := by decide +kernel
theorem dX2_fillShifted_96 : decode cX2_fillShifted 96 = .ok (.iload 4, 2) := by decide +kernel
theorem dX2_fillShifted_98 : decode cX2_fillShifted 98 = .ok (.iadd, 1) := by decide +kernel
theorem dX2_fillShifted_99 : decode cX2_fillShifted 99 = .ok (.if_icmp .gt 49, 3) := by decide +kernel
theorem dX2_fillShifted_102 : decode cX2_fillShifted 102 = .ok (.aload_n 0, 1) := by decide +kernel
theorem dX2_fillShifted_103 : decode cX2_fillShifted 103 = .ok (.aload_n 0, 1) := by decide +kernel
theorem dX2_fillShifted_104 : decode cX2_fillShifted 104 = .ok (.getfield 21, 3) := by decide +kernel
theorem dX2_fillShifted_107 : decode cX2_fillShifted 107 = .ok (.aload_n 1, 1) := by decide +kernel
theorem dX2_fillShifted_108 : decode cX2_fillShifted 108 = .ok (.getfield 9, 3) := by decide +kernel
theorem dX2_fillShifted_111 : decode cX2_fillShifted 111 = .ok (.iload 7, 2) := by decide +kernel
theorem dX2_fillShifted_113 : decode cX2_fillShifted 113 = .ok (.iaload, 1) := by decide +kernel
theorem dX2_fillShifted_114 : decode cX2_fillShifted 114 = .ok (.aload_n 1, 1) := by decide +kernel
theorem dX2_fillShifted_115 : decode cX2_fillShifted 115 = .ok (.getfield 15, 3) := by decide +kernel
theorem dX2_fillShifted_118 : decode cX2_fillShifted 118 = .ok (.iload 7, 2) := by decide +kernel
theorem dX2_fillShifted_120 : decode cX2_fillShifted 120 = .ok (.iaload, 1) := by decide +kernel
theorem dX2_fillShifted_121 : decode cX2_fillShifted 121 = .ok (.aload_n 1, 1) := by decide +kernel
theorem dX2_fillShifted_122 : decode cX2_fillShifted 122 = .ok (.getfield 18, 3) := by decide +kernel
theorem dX2_fillShifted_125 : decode cX2_fillShifted 125 = .ok (.iload 7, 2) := by decide +kernel
theorem dX2_fillShifted_127 : decode cX2_fillShifted 127 = .ok (.iaload, 1) := by decide +kernel
theorem dX2_fillShifted_128 : decode cX2_fillShifted 128 = .ok (.invokevirtual 33, 3) := by decide +kernel
theorem dX2_fillShifted_131 : decode cX2_fillShifted 131 = .ok (.aload_n 1, 1) := by decide +kernel
theorem dX2_fillShifted_132 : decode cX2_fillShifted 132 = .ok (.iload 6, 2) := by decide +kernel
theorem dX2_fillShifted_134 : decode cX2_fillShifted 134 = .ok (.iload 7, 2) := by decide +kernel
theorem dX2_fillShifted_136 : decode cX2_fillShifted 136 = .ok (.iconst 1, 1) := by decide +kernel
theorem dX2_fillShifted_137 : decode cX2_fillShifted 137 = .ok (.iadd, 1) := by decide +kernel
theorem dX2_fillShifted_138 : decode cX2_fillShifted 138 = .ok (.iload 5, 2) := by decide +kernel
theorem dX2_fillShifted_140 : decode cX2_fillShifted 140 = .ok (.invokevirtual 51, 3) := by decide +kernel
theorem dX2_fillShifted_143 : decode cX2_fillShifted 143 = .ok (.istore 7, 2) := by decide +kernel
theorem dX2_fillShifted_145 : decode cX2_fillShifted 145 = .ok (.goto 48, 3) := by decide +kernel
theorem dX2_fillShifted_148 : decode cX2_fillShifted 148 = .ok (.aload_n 0, 1) := by decide +kernel
theorem dX2_fillShifted_149 : decode cX2_fillShifted 149 = .ok (.aload_n 0, 1) := by decide +kernel
theorem dX2_fillShifted_150 : decode cX2_fillShifted 150 = .ok (.getfield 21, 3) := by decide +kernel
theorem dX2_fillShifted_153 : decode cX2_fillShifted 153 = .ok (.aload_n 1, 1) := by decide +kernel
theorem dX2_fillShifted_154 : decode cX2_fillShifted 154 = .ok (.getfield 9, 3) := by decide +kernel
theorem dX2_fillShifted_157 : decode cX2_fillShifted 157 = .ok (.iload 8, 2) := by decide +kernel
theorem dX2_fillShifted_159 : decode cX2_fillShifted 159 = .ok (.iaload, 1) := by decide +kernel
theorem dX2_fillShifted_160 : decode cX2_fillShifted 160 = .ok (.iload 4, 2) := by decide +kernel
theorem dX2_fillShifted_162 : decode cX2_fillShifted 162 = .ok (.iadd, 1) := by decide +kernel
theorem dX2_fillShifted_163 : decode cX2_fillShifted 163 = .ok (.aload_n 1, 1) := by decide +kernel
theorem dX2_fillShifted_164 : decode cX2_fillShifted 164 = .ok (.getfield 15, 3) := by decide +kernel
theorem dX2_fillShifted_167 : decode cX2_fillShifted 167 = .ok (.iload 8, 2) := by decide +kernel
theorem dX2_fillShifted_169 : decode cX2_fillShifted 169 = .ok (.iaload, 1) := by decide +kernel
theorem dX2_fillShifted_170 : decode cX2_fillShifted 170 = .ok (.aload_n 1, 1) := by decide +kernel
theorem dX2_fillShifted_171 : decode cX2_fillShifted 171 = .ok (.getfield 18, 3) := by decide +kernel
theorem dX2_fillShifted_174 : decode cX2_fillShifted 174 = .ok (.iload 8, 2) := by decide +kernel
theorem dX2_fillShifted_176 : decode cX2_fillShifted 176 = .ok (.iaload, 1) := by decide +kernel
theorem dX2_fillShifted_177 : decode cX2_fillShifted 177 = .ok (.invokevirtual 33, 3) := by decide +kernel
theorem dX2_fillShifted_180 : decode cX2_fillShifted 180 = .ok (.aload_n 1, 1) := by decide +kernel
theorem dX2_fillShifted_181 : decode cX2_fillShifted 181 = .ok (.iload_n 3, 1) := by decide +kernel
theorem dX2_fillShifted_182 : decode cX2_fillShifted 182 = .ok (.iload 8, 2) := by decide +kernel
theorem dX2_fillShifted_184 : decode cX2_fillShifted 184 = .ok (.iconst 1, 1) := by decide +kernel
theorem dX2_fillShifted_185 : decode cX2_fillShifted 185 = .ok (.iadd, 1) := by decide +kernel
theorem dX2_fillShifted_186 : decode cX2_fillShifted 186 = .ok (.iload 5, 2) := by decide +kernel
theorem dX2_fillShifted_188 : decode cX2_fillShifted 188 = .ok (.invokevirtual 51, 3) := by decide +kernel
theorem dX2_fillShifted_191 : decode cX2_fillShifted 191 = .ok (.istore 8, 2) := by decide +kernel
theorem dX2_fillShifted_193 : decode cX2_fillShifted 193 = .ok (.aload_n 0, 1) := by decide +kernel
theorem dX2_fillShifted_194 : decode cX2_fillShifted 194 = .ok (.dup, 1) := by decide +kernel
theorem dX2_fillShifted_195 : decode cX2_fillShifted 195 = .ok (.getfield 21, 3) := by decide +kernel
theorem dX2_fillShifted_198 : decode cX2_fillShifted 198 = .ok (.iconst 1, 1) := by decide +kernel
theorem dX2_fillShifted_199 : decode cX2_fillShifted 199 = .ok (.iadd, 1) := by decide +kernel
theorem dX2_fillShifted_200 : decode cX2_fillShifted 200 = .ok (.putfield 21, 3) := by decide +kernel
theorem dX2_fillShifted_203 : decode cX2_fillShifted 203 = .ok (.goto (-159), 3) := by decide +kernel
theorem dX2_fillShifted_206 : decode cX2_fillShifted 206 = .ok (.return_, 1) := by decide +kernel
theorem dX2_nextOf_0 : decode cX2_nextOf 0 = .ok (.iload_n 2, 1) := by decide +kernel
theorem dX2_nextOf_1 : decode cX2_nextOf 1 = .ok (.istore 4, 2) := by decide +kernel
theorem dX2_nextOf_3 : decode cX2_nextOf 3 = .ok (.iload 4, 2) := by decide +kernel
theorem dX2_nextOf_5 : decode cX2_nextOf 5 = .ok (.iload_n 3, 1) := by decide +kernel
theorem dX2_nextOf_6 : decode cX2_nextOf 6 = .ok (.if_icmp .ge 32, 3) := by decide +kernel
theorem dX2_nextOf_9 : decode cX2_nextOf 9 = .ok (.aload_n 0, 1) := by decide +kernel
theorem dX2_nextOf_10 : decode cX2_nextOf 10 = .ok (.iload 4, 2) := by decide +kernel
theorem dX2_nextOf_12 : decode cX2_nextOf 12 = .ok (.invokevirtual 25, 3) := by decide +kernel
theorem dX2_nextOf_15 : decode cX2_nextOf 15 = .ok (.ifCond .eq 23, 3) := by decide +kernel
theorem dX2_nextOf_18 : decode cX2_nextOf 18 = .ok (.iload_n 1, 1) := by decide +kernel
theorem dX2_nextOf_19 : decode cX2_nextOf 19 = .ok (.aload_n 0, 1) := by decide +kernel
theorem dX2_nextOf_20 : decode cX2_nextOf 20 = .ok (.getfield 15, 3) := by decide +kernel
theorem dX2_nextOf_23 : decode cX2_nextOf 23 = .ok (.iload 4, 2) := by decide +kernel
theorem dX2_nextOf_25 : decode cX2_nextOf 25 = .ok (.iaload, 1) := by decide +kernel
theorem dX2_nextOf_26 : decode cX2_nextOf 26 = .ok (.ishr, 1) := by decide +kernel
theorem dX2_nextOf_27 : decode cX2_nextOf 27 = .ok (.iconst 1, 1) := by decide +kernel
theorem dX2_nextOf_28 : decode cX2_nextOf 28 = .ok (.iand, 1) := by decide +kernel
theorem dX2_nextOf_29 : decode cX2_nextOf 29 = .ok (.ifCond .ne 9, 3) := by decide +kernel
theorem dX2_nextOf_32 : decode cX2_nextOf 32 = .ok (.iinc 4 1, 3) := by decide +kernel
theorem dX2_nextOf_35 : decode cX2_nextOf 35 = .ok (.goto (-32), 3) := by decide +kernel
theorem dX2_nextOf_38 : decode cX2_nextOf 38 = .ok (.iload 4, 2) := by decide +kernel
theorem dX2_nextOf_40 : decode cX2_nextOf 40 = .ok (.ireturn, 1) := by decide +kernel
theorem dX3_init_0 : decode cX3_init 0 = .ok (.aload_n 0, 1) := by decide +kernel
theorem dX3_init_1 : decode cX3_init 1 = .ok (.invokespecial 3, 3) := by decide +kernel
theorem dX3_init_4 : decode cX3_init 4 = .ok (.aload_n 0, 1) := by decide +kernel
theorem dX3_init_5 : decode cX3_init 5 = .ok (.bipush 6, 2) := by decide +kernel
theorem dX3_init_7 : decode cX3_init 7 = .ok (.newarray .int, 2) := by decide +kernel
theorem dX3_init_9 : decode cX3_init 9 = .ok (.putfield 11, 3) := by decide +kernel
theorem dX3_init_12 : decode cX3_init 12 = .ok (.aload_n 0, 1) := by decide +kernel
theorem dX3_init_13 : decode cX3_init 13 = .ok (.bipush 6, 2) := by decide +kernel
theorem dX3_init_15 : decode cX3_init 15 = .ok (.newarray .int, 2) := by decide +kernel
theorem dX3_init_17 : decode cX3_init 17 = .ok (.putfield 15, 3) := by decide +kernel
theorem dX3_init_20 : decode cX3_init 20 = .ok (.aload_n 0, 1) := by decide +kernel
theorem dX3_init_21 : decode cX3_init 21 = .ok (.bipush 6, 2) := by decide +kernel
theorem dX3_init_23 : decode cX3_init 23 = .ok (.newarray .int, 2) := by decide +kernel
theorem dX3_init_25 : decode cX3_init 25 = .ok (.putfield 18, 3) := by decide +kernel
theorem dX3_init_28 : decode cX3_init 28 = .ok (.aload_n 0, 1) := by decide +kernel
theorem dX3_init_29 : decode cX3_init 29 = .ok (.getstatic 21, 3) := by decide +kernel
theorem dX3_init_32 : decode cX3_init 32 = .ok (.invokevirtual 24, 3) := by decide +kernel
theorem dX3_init_35 : decode cX3_init 35 = .ok (.checkcast 25, 3) := by decide +kernel
theorem dX3_init_38 : decode cX3_init 38 = .ok (.putfield 29, 3) := by decide +kernel
theorem dX3_init_41 : decode cX3_init 41 = .ok (.aload_n 0, 1) := by decide +kernel
theorem dX3_init_42 : decode cX3_init 42 = .ok (.new 32, 3) := by decide +kernel
theorem dX3_init_45 : decode cX3_init 45 = .ok (.dup, 1) := by decide +kernel
theorem dX3_init_46 : decode cX3_init 46 = .ok (.invokespecial 34, 3) := by decide +kernel
theorem dX3_init_49 : decode cX3_init 49 = .ok (.putfield 35, 3) := by decide +kernel
theorem dX3_init_52 : decode cX3_init 52 = .ok (.aload_n 0, 1) := by decide +kernel
theorem dX3_init_53 : decode cX3_init 53 = .ok (.new 32, 3) := by decide +kernel
theorem dX3_init_56 : decode cX3_init 56 = .ok (.dup, 1) := by decide +kernel
theorem dX3_init_57 : decode cX3_init 57 = .ok (.invokespecial 34, 3) := by decide +kernel
theorem dX3_init_60 : decode cX3_init 60 = .ok (.putfield 39, 3) := by decide +kernel
theorem dX3_init_63 : decode cX3_init 63 = .ok (.aload_n 0, 1) := by decide +kernel
theorem dX3_init_64 : decode cX3_init 64 = .ok (.new 32, 3) := by decide +kernel
theorem dX3_init_67 : decode cX3_init 67 = .ok (.dup, 1) := by decide +kernel
theorem dX3_init_68 : decode cX3_init 68 = .ok (.invokespecial 34, 3) := by decide +kernel
theorem dX3_init_71 : decode cX3_init 71 = .ok (.putfield 42, 3) := by decide +kernel
theorem dX3_init_74 : decode cX3_init 74 = .ok (.aload_n 0, 1) := by decide +kernel
theorem dX3_init_75 : decode cX3_init 75 = .ok (.new 45, 3) := by decide +kernel
theorem dX3_init_78 : decode cX3_init 78 = .ok (.dup, 1) := by decide +kernel
theorem dX3_init_79 : decode cX3_init 79 = .ok (.invokespecial 47, 3) := by decide +kernel
theorem dX3_init_82 : decode cX3_init 82 = .ok (.putfield 48, 3) := by decide +kernel
theorem dX3_init_85 : decode cX3_init 85 = .ok (.aload_n 0, 1) := by decide +kernel
theorem dX3_init_86 : decode cX3_init 86 = .ok (.new 52, 3) := by decide +kernel
theorem dX3_init_89 : decode cX3_init 89 = .ok (.dup, 1) := by decide +kernel
theorem dX3_init_90 : decode cX3_init 90 = .ok (.invokespecial 54, 3) := by decide +kernel
theorem dX3_init_93 : decode cX3_init 93 = .ok (.putfield 55, 3) := by decide +kernel
theorem dX3_init_96 : decode cX3_init 96 = .ok (.aload_n 0, 1) := by decide +kernel
theorem dX3_init_97 : decode cX3_init 97 = .ok (.bipush 6, 2) := by decide +kernel
theorem dX3_init_99 : decode cX3_init 99 = .ok (.newarray .int, 2) := by decide +kernel
theorem dX3_init_101 : decode cX3_init 101 = .ok (.putfield 59, 3) := by decide +kernel
theorem dX3_init_104 : decode cX3_init 104 = .ok (.return_, 1) := by decide +kernel
theorem dX3_plane_0 : decode cX3_plane 0 = .ok (.iload_n 1, 1) := by decide +kernel
theorem dX3_plane_1 : decode cX3_plane 1 = .ok (.invokestatic 62, 3) := by decide +kernel
theorem dX3_plane_4 : decode cX3_plane 4 = .ok (.ifCond .ne 5, 3) := by decide +kernel
theorem dX3_plane_7 : decode cX3_plane 7 = .ok (.iconst (-1), 1) := by decide +kernel
theorem dX3_plane_8 : decode cX3_plane 8 = .ok (.ireturn, 1) := by decide +kernel
theorem dX3_plane_9 : decode cX3_plane 9 = .ok (.iload_n 2, 1) := by decide +kernel
theorem dX3_plane_10 : decode cX3_plane 10 = .ok (.iconst 0, 1) := by decide +kernel
theorem dX3_plane_11 : decode cX3_plane 11 = .ok (.bipush 30, 2) := by decide +kernel
theorem dX3_plane_13 : decode cX3_plane 13 = .ok (.invokestatic 66, 3) := by decide +kernel
theorem dX3_plane_16 : decode cX3_plane 16 = .ok (.ifCond .eq 13, 3) := by decide +kernel
theorem dX3_plane_19 : decode cX3_plane 19 = .ok (.iload_n 3, 1) := by decide +kernel
theorem dX3_plane_20 : decode cX3_plane 20 = .ok (.iconst 0, 1) := by decide +kernel
theorem dX3_plane_21 : decode cX3_plane 21 = .ok (.bipush 50, 2) := by decide +kernel
theorem dX3_plane_23 : decode cX3_plane 23 = .ok (.invokestatic 66, 3) := by decide +kernel
theorem dX3_plane_26 : decode cX3_plane 26 = .ok (.ifCond .ne 6, 3) := by decide +kernel
theorem dX3_plane_29 : decode cX3_plane 29 = .ok (.bipush (-2), 2) := by decide +kernel
theorem dX3_plane_31 : decode cX3_plane 31 = .ok (.ireturn, 1) := by decide +kernel
theorem dX3_plane_32 : decode cX3_plane 32 = .ok (.iload 4, 2) := by decide +kernel
theorem dX3_plane_34 : decode cX3_plane 34 = .ok (.iconst 0, 1) := by decide +kernel
theorem dX3_plane_35 : decode cX3_plane 35 = .ok (.iconst 1, 1) := by decide +kernel
theorem dX3_plane_36 : decode cX3_plane 36 = .ok (.invokestatic 66, 3) := by decide +kernel
theorem dX3_plane_39 : decode cX3_plane 39 = .ok (.ifCond .ne 6, 3) := by decide +kernel
theorem dX3_plane_42 : decode cX3_plane 42 = .ok (.bipush (-2), 2) := by decide +kernel
theorem dX3_plane_44 : decode cX3_plane 44 = .ok (.ireturn, 1) := by decide +kernel
theorem dX3_plane_45 : decode cX3_plane 45 = .ok (.aload_n 0, 1) := by decide +kernel
theorem dX3_plane_46 : decode cX3_plane 46 = .ok (.invokevirtual 70, 3) := by decide +kernel
theorem dX3_plane_49 : decode cX3_plane 49 = .ok (.ifCond .eq 6, 3) := by decide +kernel
theorem dX3_plane_52 : decode cX3_plane 52 = .ok (.bipush (-3), 2) := by decide +kernel
theorem dX3_plane_54 : decode cX3_plane 54 = .ok (.ireturn, 1) := by decide +kernel
theorem dX3_plane_55 : decode cX3_plane 55 = .ok (.aload_n 0, 1) := by decide +kernel
theorem dX3_plane_56 : decode cX3_plane 56 = .ok (.getfield 11, 3) := by decide +kernel
theorem dX3_plane_59 : decode cX3_plane 59 = .ok (.iload_n 1, 1) := by decide +kernel
theorem dX3_plane_60 : decode cX3_plane 60 = .ok (.iload_n 2, 1) := by decide +kernel
theorem dX3_plane_61 : decode cX3_plane 61 = .ok (.iastore, 1) := by decide +kernel
theorem dX3_plane_62 : decode cX3_plane 62 = .ok (.aload_n 0, 1) := by decide +kernel
theorem dX3_plane_63 : decode cX3_plane 63 = .ok (.getfield 15, 3) := by decide +kernel
theorem dX3_plane_66 : decode cX3_plane 66 = .ok (.iload_n 1, 1) := by decide +kernel
theorem dX3_plane_67 : decode cX3_plane 67 = .ok (.iload_n 3, 1) := by decide +kernel
theorem dX3_plane_68 : decode cX3_plane 68 = .ok (.iastore, 1) := by decide +kernel
theorem dX3_plane_69 : decode cX3_plane 69 = .ok (.aload_n 0, 1) := by decide +kernel
theorem dX3_plane_70 : decode cX3_plane 70 = .ok (.getfield 18, 3) := by decide +kernel
theorem dX3_plane_73 : decode cX3_plane 73 = .ok (.iload_n 1, 1) := by decide +kernel
theorem dX3_plane_74 : decode cX3_plane 74 = .ok (.iload 4, 2) := by decide +kernel
theorem dX3_plane_76 : decode cX3_plane 76 = .ok (.iastore, 1) := by decide +kernel
theorem dX3_plane_77 : decode cX3_plane 77 = .ok (.iconst 1, 1) := by decide +kernel
theorem dX3_plane_78 : decode cX3_plane 78 = .ok (.ireturn, 1) := by decide +kernel
theorem dX3_ofPlane_0 : decode cX3_ofPlane 0 = .ok (.iload_n 1, 1) := by decide +kernel
theorem dX3_ofPlane_1 : decode cX3_ofPlane 1 = .ok (.invokestatic 62, 3) := by decide +kernel
theorem dX3_ofPlane_4 : decode cX3_ofPlane 4 = .ok (.ifCond .ne 5, 3) := by decide +kernel
theorem dX3_ofPlane_7 : decode cX3_ofPlane 7 = .ok (.iconst (-1), 1) := by decide +kernel
theorem dX3_ofPlane_8 : decode cX3_ofPlane 8 = .ok (.ireturn, 1) := by decide +kernel
theorem dX3_ofPlane_9 : decode cX3_ofPlane 9 = .ok (.iload_n 2, 1) := by decide +kernel
theorem dX3_ofPlane_10 : decode cX3_ofPlane 10 = .ok (.tableswitch 100 0 5 #[38, 45, 52, 59, 75, 81], 38) := by decide +kernel
theorem dX3_ofPlane_48 : decode cX3_ofPlane 48 = .ok (.aload_n 0, 1) := by decide +kernel
theorem dX3_ofPlane_49 : decode cX3_ofPlane 49 = .ok (.getfield 11, 3) := by decide +kernel
theorem dX3_ofPlane_52 : decode cX3_ofPlane 52 = .ok (.iload_n 1, 1) := by decide +kernel
theorem dX3_ofPlane_53 : decode cX3_ofPlane 53 = .ok (.iaload, 1) := by decide +kernel
theorem dX3_ofPlane_54 : decode cX3_ofPlane 54 = .ok (.ireturn, 1) := by decide +kernel
theorem dX3_ofPlane_55 : decode cX3_ofPlane 55 = .ok (.aload_n 0, 1) := by decide +kernel
theorem dX3_ofPlane_56 : decode cX3_ofPlane 56 = .ok (.getfield 15, 3) := by decide +kernel
theorem dX3_ofPlane_59 : decode cX3_ofPlane 59 = .ok (.iload_n 1, 1) := by decide +kernel
theorem dX3_ofPlane_60 : decode cX3_ofPlane 60 = .ok (.iaload, 1) := by decide +kernel
theorem dX3_ofPlane_61 : decode cX3_ofPlane 61 = .ok (.ireturn, 1) := by decide +kernel
theorem dX3_ofPlane_62 : decode cX3_ofPlane 62 = .ok (.aload_n 0, 1) := by decide +kernel
theorem dX3_ofPlane_63 : decode cX3_ofPlane 63 = .ok (.getfield 18, 3) := by decide +kernel
theorem dX3_ofPlane_66 : decode cX3_ofPlane 66 = .ok (.iload_n 1, 1) := by decide +kernel
theorem dX3_ofPlane_67 : decode cX3_ofPlane 67 = .ok (.iaload, 1) := by decide +kernel
theorem dX3_ofPlane_68 : decode cX3_ofPlane 68 = .ok (.ireturn, 1) := by decide +kernel
theorem dX3_ofPlane_69 : decode cX3_ofPlane 69 = .ok (.aload_n 0, 1) := by decide +kernel
theorem dX3_ofPlane_70 : decode cX3_ofPlane 70 = .ok (.getfield 35, 3) := by decide +kernel
theorem dX3_ofPlane_73 : decode cX3_ofPlane 73 = .ok (.iload_n 1, 1) := by decide +kernel
theorem dX3_ofPlane_74 : decode cX3_ofPlane 74 = .ok (.aload_n 0, 1) := by decide +kernel
theorem dX3_ofPlane_75 : decode cX3_ofPlane 75 = .ok (.getfield 35, 3) := by decide +kernel
theorem dX3_ofPlane_78 : decode cX3_ofPlane 78 = .ok (.getfield 74, 3) := by decide +kernel
theorem dX3_ofPlane_81 : decode cX3_ofPlane 81 = .ok (.invokevirtual 78, 3) := by decide +kernel
theorem dX3_ofPlane_84 : decode cX3_ofPlane 84 = .ok (.ireturn, 1) := by decide +kernel
theorem dX3_ofPlane_85 : decode cX3_ofPlane 85 = .ok (.aload_n 0, 1) := by decide +kernel
theorem dX3_ofPlane_86 : decode cX3_ofPlane 86 = .ok (.iload_n 1, 1) := by decide +kernel
theorem dX3_ofPlane_87 : decode cX3_ofPlane 87 = .ok (.invokevirtual 82, 3) := by decide +kernel
theorem dX3_ofPlane_90 : decode cX3_ofPlane 90 = .ok (.ireturn, 1) := by decide +kernel
theorem dX3_ofPlane_91 : decode cX3_ofPlane 91 = .ok (.aload_n 0, 1) := by decide +kernel
theorem dX3_ofPlane_92 : decode cX3_ofPlane 92 = .ok (.getfield 35, 3) := by decide +kernel
theorem dX3_ofPlane_95 : decode cX3_ofPlane 95 = .ok (.iload_n 1, 1) := by decide +kernel
theorem dX3_ofPlane_96 : decode cX3_ofPlane 96 = .ok (.aload_n 0, 1) := by decide +kernel
theorem dX3_ofPlane_97 : decode cX3_ofPlane 97 = .ok (.getfield 86, 3) := by decide +kernel
theorem dX3_ofPlane_100 : decode cX3_ofPlane 100 = .ok (.invokevirtual 78, 3) := by decide +kernel
theorem dX3_ofPlane_103 : decode cX3_ofPlane 103 = .ok (.aload_n 0, 1) := by decide +kernel
theorem dX3_ofPlane_104 : decode cX3_ofPlane 104 = .ok (.iload_n 1, 1) := by decide +kernel
theorem dX3_ofPlane_105 : decode cX3_ofPlane 105 = .ok (.invokevirtual 82, 3) := by decide +kernel
theorem dX3_ofPlane_108 : decode cX3_ofPlane 108 = .ok (.isub, 1) := by decide +kernel
theorem dX3_ofPlane_109 : decode cX3_ofPlane 109 = .ok (.ireturn, 1) := by decide +kernel
theorem dX3_ofPlane_110 : decode cX3_ofPlane 110 = .ok (.bipush (-2), 2) := by decide +kernel
theorem dX3_ofPlane_112 : decode cX3_ofPlane 112 = .ok (.ireturn, 1) := by decide +kernel
theorem dX3_tune_0 : decode cX3_tune 0 = .ok (.iload_n 1, 1) := by decide +kernel
theorem dX3_tune_1 : decode cX3_tune 1 = .ok (.iconst 0, 1) := by decide +kernel
theorem dX3_tune_2 : decode cX3_tune 2 = .ok (.iconst 3, 1) := by decide +kernel
theorem dX3_tune_3 : decode cX3_tune 3 = .ok (.invokestatic 66, 3) := by decide +kernel
theorem dX3_tune_6 : decode cX3_tune 6 = .ok (.ifCond .ne 6, 3) := by decide +kernel
theorem dX3_tune_9 : decode cX3_tune 9 = .ok (.bipush (-2), 2) := by decide +kernel
theorem dX3_tune_11 : decode cX3_tune 11 = .ok (.ireturn, 1) := by decide +kernel
theorem dX3_tune_12 : decode cX3_tune 12 = .ok (.iload_n 2, 1) := by decide +kernel
theorem dX3_tune_13 : decode cX3_tune 13 = .ok (.getstatic 89, 3) := by decide +kernel
theorem dX3_tune_16 : decode cX3_tune 16 = .ok (.iload_n 1, 1) := by decide +kernel
theorem dX3_tune_17 : decode cX3_tune 17 = .ok (.iaload, 1) := by decide +kernel
theorem dX3_tune_18 : decode cX3_tune 18 = .ok (.getstatic 92, 3) := by decide +kernel
theorem dX3_tune_21 : decode cX3_tune 21 = .ok (.iload_n 1, 1) := by decide +kernel
theorem dX3_tune_22 : decode cX3_tune 22 = .ok (.iaload, 1) := by decide +kernel
theorem dX3_tune_23 : decode cX3_tune 23 = .ok (.invokestatic 66, 3) := by decide +kernel
theorem dX3_tune_26 : decode cX3_tune 26 = .ok (.ifCond .ne 6, 3) := by decide +kernel
theorem dX3_tune_29 : decode cX3_tune 29 = .ok (.bipush (-2), 2) := by decide +kernel
theorem dX3_tune_31 : decode cX3_tune 31 = .ok (.ireturn, 1) := by decide +kernel
theorem dX3_tune_32 : decode cX3_tune 32 = .ok (.aload_n 0, 1) := by decide +kernel
theorem dX3_tune_33 : decode cX3_tune 33 = .ok (.invokevirtual 70, 3) := by decide +kernel
theorem dX3_tune_36 : decode cX3_tune 36 = .ok (.ifCond .eq 6, 3) := by decide +kernel
theorem dX3_tune_39 : decode cX3_tune 39 = .ok (.bipush (-3), 2) := by decide +kernel
theorem dX3_tune_41 : decode cX3_tune 41 = .ok (.ireturn, 1) := by decide +kernel
theorem dX3_tune_42 : decode cX3_tune 42 = .ok (.aload_n 0, 1) := by decide +kernel
theorem dX3_tune_43 : decode cX3_tune 43 = .ok (.getfield 29, 3) := by decide +kernel
theorem dX3_tune_46 : decode cX3_tune 46 = .ok (.iload_n 1, 1) := by decide +kernel
theorem dX3_tune_47 : decode cX3_tune 47 = .ok (.iaload, 1) := by decide +kernel
theorem dX3_tune_48 : decode cX3_tune 48 = .ok (.istore_n 3, 1) := by decide +kernel
theorem dX3_tune_49 : decode cX3_tune 49 = .ok (.aload_n 0, 1) := by decide +kernel
theorem dX3_tune_50 : decode cX3_tune 50 = .ok (.getfield 29, 3) := by decide +kernel
theorem dX3_tune_53 : decode cX3_tune 53 = .ok (.iload_n 1, 1) := by decide +kernel
theorem dX3_tune_54 : decode cX3_tune 54 = .ok (.iload_n 2, 1) := by decide +kernel
theorem dX3_tune_55 : decode cX3_tune 55 = .ok (.iastore, 1) := by decide +kernel
theorem dX3_tune_56 : decode cX3_tune 56 = .ok (.iload_n 3, 1) := by decide +kernel
theorem dX3_tune_57 : decode cX3_tune 57 = .ok (.ireturn, 1) := by decide +kernel
theorem dX3_pulse_0 : decode cX3_pulse 0 = .ok (.iload_n 1, 1) := by decide +kernel
theorem dX3_pulse_1 : decode cX3_pulse 1 = .ok (.invokestatic 62, 3) := by decide +kernel
theorem dX3_pulse_4 : decode cX3_pulse 4 = .ok (.ifCond .ne 5, 3) := by decide +kernel
theorem dX3_pulse_7 : decode cX3_pulse 7 = .ok (.iconst (-1), 1) := by decide +kernel
theorem dX3_pulse_8 : decode cX3_pulse 8 = .ok (.ireturn, 1) := by decide +kernel
theorem dX3_pulse_9 : decode cX3_pulse 9 = .ok (.iload_n 2, 1) := by decide +kernel
theorem dX3_pulse_10 : decode cX3_pulse 10 = .ok (.iconst 0, 1) := by decide +kernel
theorem dX3_pulse_11 : decode cX3_pulse 11 = .ok (.sipush 9999, 3) := by decide +kernel
theorem dX3_pulse_14 : decode cX3_pulse 14 = .ok (.invokestatic 66, 3) := by decide +kernel
theorem dX3_pulse_17 : decode cX3_pulse 17 = .ok (.ifCond .eq 10, 3) := by decide +kernel
theorem dX3_pulse_20 : decode cX3_pulse 20 = .ok (.iload_n 3, 1) := by decide +kernel
theorem dX3_pulse_21 : decode cX3_pulse 21 = .ok (.invokestatic 95, 3) := by decide +kernel
theorem dX3_pulse_24 : decode cX3_pulse 24 = .ok (.ifCond .ne 6, 3) := by decide +kernel
theorem dX3_pulse_27 : decode cX3_pulse 27 = .ok (.bipush (-2), 2) := by decide +kernel
theorem dX3_pulse_29 : decode cX3_pulse 29 = .ok (.ireturn, 1) := by decide +kernel
theorem dX3_pulse_30 : decode cX3_pulse 30 = .ok (.aload_n 0, 1) := by decide +kernel
theorem dX3_pulse_31 : decode cX3_pulse 31 = .ok (.getfield 98, 3) := by decide +kernel
theorem dX3_pulse_34 : decode cX3_pulse 34 = .ok (.ifCond .eq 6, 3) := by decide +kernel
theorem dX3_pulse_37 : decode cX3_pulse 37 = .ok (.bipush (-3), 2) := by decide +kernel
theorem dX3_pulse_39 : decode cX3_pulse 39 = .ok (.ireturn, 1) := by decide +kernel
theorem dX3_pulse_40 : decode cX3_pulse 40 = .ok (.iload_n 2, 1) := by decide +kernel
theorem dX3_pulse_41 : decode cX3_pulse 41 = .ok (.aload_n 0, 1) := by decide +kernel
theorem dX3_pulse_42 : decode cX3_pulse 42 = .ok (.invokevirtual 102, 3) := by decide +kernel
theorem dX3_pulse_45 : decode cX3_pulse 45 = .ok (.if_icmp .ge 15, 3) := by decide +kernel
theorem dX3_pulse_48 : decode cX3_pulse 48 = .ok (.aload_n 0, 1) := by decide +kernel
theorem dX3_pulse_49 : decode cX3_pulse 49 = .ok (.dup, 1) := by decide +kernel
theorem dX3_pulse_50 : decode cX3_pulse 50 = .ok (.getfield 106, 3) := by decide +kernel
theorem dX3_pulse_53 : decode cX3_pulse 53 = .ok (.iconst 1, 1) := by decide +kernel
theorem dX3_pulse_54 : decode cX3_pulse 54 = .ok (.iadd, 1) := by decide +kernel
theorem dX3_pulse_55 : decode cX3_pulse 55 = .ok (.putfield 106, 3) := by decide +kernel
theorem dX3_pulse_58 : decode cX3_pulse 58 = .ok (.iconst 0, 1) := by decide +kernel
theorem dX3_pulse_59 : decode cX3_pulse 59 = .ok (.ireturn, 1) := by decide +kernel
theorem dX3_pulse_60 : decode cX3_pulse 60 = .ok (.aload_n 0, 1) := by decide +kernel
theorem dX3_pulse_61 : decode cX3_pulse 61 = .ok (.getfield 35, 3) := by decide +kernel
theorem dX3_pulse_64 : decode cX3_pulse 64 = .ok (.getfield 74, 3) := by decide +kernel
theorem dX3_pulse_67 : decode cX3_pulse 67 = .ok (.sipush 240, 3) := by decide +kernel
theorem dX3_pulse_70 : decode cX3_pulse 70 = .ok (.if_icmp .lt 6, 3) := by decide +kernel
theorem dX3_pulse_73 : decode cX3_pulse 73 = .ok (.bipush (-4), 2) := by decide +kernel
theorem dX3_pulse_75 : decode cX3_pulse 75 = .ok (.ireturn, 1) := by decide +kernel
theorem dX3_pulse_76 : decode cX3_pulse 76 = .ok (.aload_n 0, 1) := by decide +kernel
theorem dX3_pulse_77 : decode cX3_pulse 77 = .ok (.getfield 35, 3) := by decide +kernel
theorem dX3_pulse_80 : decode cX3_pulse 80 = .ok (.iload_n 2, 1) := by decide +kernel
theorem dX3_pulse_81 : decode cX3_pulse 81 = .ok (.iload_n 1, 1) := by decide +kernel
theorem dX3_pulse_82 : decode cX3_pulse 82 = .ok (.iload_n 3, 1) := by decide +kernel
theorem dX3_pulse_83 : decode cX3_pulse 83 = .ok (.invokevirtual 109, 3) := by decide +kernel
theorem dX3_pulse_86 : decode cX3_pulse 86 = .ok (.aload_n 0, 1) := by decide +kernel
theorem dX3_pulse_87 : decode cX3_pulse 87 = .ok (.invokevirtual 113, 3) := by decide +kernel
theorem dX3_pulse_90 : decode cX3_pulse 90 = .ok (.iconst 1, 1) := by decide +kernel
theorem dX3_pulse_91 : decode cX3_pulse 91 = .ok (.ireturn, 1) := by decide +kernel
theorem dX3_end_0 : decode cX3_end 0 = .ok (.aload_n 0, 1) := by decide +kernel
theorem dX3_end_1 : decode cX3_end 1 = .ok (.getfield 98, 3) := by decide +kernel
theorem dX3_end_4 : decode cX3_end 4 = .ok (.ifCond .eq 6, 3) := by decide +kernel
theorem dX3_end_7 : decode cX3_end 7 = .ok (.bipush (-3), 2) := by decide +kernel
theorem dX3_end_9 : decode cX3_end 9 = .ok (.ireturn, 1) := by decide +kernel
theorem dX3_end_10 : decode cX3_end 10 = .ok (.aload_n 0, 1) := by decide +kernel
theorem dX3_end_11 : decode cX3_end 11 = .ok (.getfield 86, 3) := by decide +kernel
theorem dX3_end_14 : decode cX3_end 14 = .ok (.istore_n 1, 1) := by decide +kernel
theorem dX3_end_15 : decode cX3_end 15 = .ok (.aload_n 0, 1) := by decide +kernel
theorem dX3_end_16 : decode cX3_end 16 = .ok (.iconst 1, 1) := by decide +kernel
theorem dX3_end_17 : decode cX3_end 17 = .ok (.putfield 98, 3) := by decide +kernel
theorem dX3_end_20 : decode cX3_end 20 = .ok (.aload_n 0, 1) := by decide +kernel
theorem dX3_end_21 : decode cX3_end 21 = .ok (.invokevirtual 113, 3) := by decide +kernel
theorem dX3_end_24 : decode cX3_end 24 = .ok (.aload_n 0, 1) := by decide +kernel
theorem dX3_end_25 : decode cX3_end 25 = .ok (.getfield 86, 3) := by decide +kernel
theorem dX3_end_28 : decode cX3_end 28 = .ok (.iload_n 1, 1) := by decide +kernel
theorem dX3_end_29 : decode cX3_end 29 = .ok (.isub, 1) := by decide +kernel
theorem dX3_end_30 : decode cX3_end 30 = .ok (.ireturn, 1) := by decide +kernel
theorem dX3_anew_0 : decode cX3_anew 0 = .ok (.aload_n 0, 1) := by decide +kernel
theorem dX3_anew_1 : decode cX3_anew 1 = .ok (.getfield 35, 3) := by decide +kernel
theorem dX3_anew_4 : decode cX3_anew 4 = .ok (.getfield 74, 3) := by decide +kernel
theorem dX3_anew_7 : decode cX3_anew 7 = .ok (.istore_n 1, 1) := by decide +kernel
theorem dX3_anew_8 : decode cX3_anew 8 = .ok (.aload_n 0, 1) := by decide +kernel
theorem dX3_anew_9 : decode cX3_anew 9 = .ok (.getfield 35, 3) := by decide +kernel
theorem dX3_anew_12 : decode cX3_anew 12 = .ok (.iconst 0, 1) := by decide +kernel
theorem dX3_anew_13 : decode cX3_anew 13 = .ok (.putfield 74, 3) := by decide +kernel
theorem dX3_anew_16 : decode cX3_anew 16 = .ok (.aload_n 0, 1) := by decide +kernel
theorem dX3_anew_17 : decode cX3_anew 17 = .ok (.getfield 39, 3) := by decide +kernel
theorem dX3_anew_20 : decode cX3_anew 20 = .ok (.iconst 0, 1) := by decide +kernel
theorem dX3_anew_21 : decode cX3_anew 21 = .ok (.putfield 74, 3) := by decide +kernel
theorem dX3_anew_24 : decode cX3_anew 24 = .ok (.aload_n 0, 1) := by decide +kernel
theorem dX3_anew_25 : decode cX3_anew 25 = .ok (.getfield 48, 3) := by decide +kernel
theorem dX3_anew_28 : decode cX3_anew 28 = .ok (.iconst 0, 1) := by decide +kernel
theorem dX3_anew_29 : decode cX3_anew 29 = .ok (.putfield 116, 3) := by decide +kernel
theorem dX3_anew_32 : decode cX3_anew 32 = .ok (.aload_n 0, 1) := by decide +kernel
theorem dX3_anew_33 : decode cX3_anew 33 = .ok (.getfield 59, 3) := by decide +kernel
theorem dX3_anew_36 : decode cX3_anew 36 = .ok (.iconst 0, 1) := by decide +kernel
theorem dX3_anew_37 : decode cX3_anew 37 = .ok (.invokestatic 117, 3) := by decide +kernel
theorem dX3_anew_40 : decode cX3_anew 40 = .ok (.aload_n 0, 1) := by decide +kernel
theorem dX3_anew_41 : decode cX3_anew 41 = .ok (.iconst 0, 1) := by decide +kernel
theorem dX3_anew_42 : decode cX3_anew 42 = .ok (.putfield 86, 3) := by decide +kernel
theorem dX3_anew_45 : decode cX3_anew 45 = .ok (.aload_n 0, 1) := by decide +kernel
theorem dX3_anew_46 : decode cX3_anew 46 = .ok (.iconst 0, 1) := by decide +kernel
theorem dX3_anew_47 : decode cX3_anew 47 = .ok (.putfield 123, 3) := by decide +kernel
theorem dX3_anew_50 : decode cX3_anew 50 = .ok (.aload_n 0, 1) := by decide +kernel
theorem dX3_anew_51 : decode cX3_anew 51 = .ok (.iconst 0, 1) := by decide +kernel
theorem dX3_anew_52 : decode cX3_anew 52 = .ok (.putfield 106, 3) := by decide +kernel
theorem dX3_anew_55 : decode cX3_anew 55 = .ok (.aload_n 0, 1) := by decide +kernel
theorem dX3_anew_56 : decode cX3_anew 56 = .ok (.iconst 0, 1) := by decide +kernel
theorem dX3_anew_57 : decode cX3_anew 57 = .ok (.putfield 98, 3) := by decide +kernel
theorem dX3_anew_60 : decode cX3_anew 60 = .ok (.iload_n 1, 1) := by decide +kernel
theorem dX3_anew_61 : decode cX3_anew 61 = .ok (.ireturn, 1) := by decide +kernel
theorem dX3_group_0 : decode cX3_group 0 = .ok (.aload_n 0, 1) := by decide +kernel
theorem dX3_group_1 : decode cX3_group 1 = .ok (.iload_n 1, 1) := by decide +kernel
theorem dX3_group_2 : decode cX3_group 2 = .ok (.invokevirtual 126, 3) := by decide +kernel
theorem dX3_group_5 : decode cX3_group 5 = .ok (.ifCond .ne 5, 3) := by decide +kernel
theorem dX3_group_8 : decode cX3_group 8 = .ok (.iconst (-1), 1) := by decide +kernel
theorem dX3_group_9 : decode cX3_group 9 = .ok (.ireturn, 1) := by decide +kernel
theorem dX3_group_10 : decode cX3_group 10 = .ok (.aload_n 0, 1) := by decide +kernel
theorem dX3_group_11 : decode cX3_group 11 = .ok (.getfield 48, 3) := by decide +kernel
theorem dX3_group_14 : decode cX3_group 14 = .ok (.iload_n 1, 1) := by decide +kernel
theorem dX3_group_15 : decode cX3_group 15 = .ok (.iconst 1, 1) := by decide +kernel
theorem dX3_group_16 : decode cX3_group 16 = .ok (.isub, 1) := by decide +kernel
theorem dX3_group_17 : decode cX3_group 17 = .ok (.invokevirtual 129, 3) := by decide +kernel
theorem dX3_group_20 : decode cX3_group 20 = .ok (.istore_n 3, 1) := by decide +kernel
theorem dX3_group_21 : decode cX3_group 21 = .ok (.aload_n 0, 1) := by decide +kernel
theorem dX3_group_22 : decode cX3_group 22 = .ok (.getfield 48, 3) := by decide +kernel
theorem dX3_group_25 : decode cX3_group 25 = .ok (.iload_n 1, 1) := by decide +kernel
theorem dX3_group_26 : decode cX3_group 26 = .ok (.invokevirtual 129, 3) := by decide +kernel
theorem dX3_group_29 : decode cX3_group 29 = .ok (.istore 4, 2) := by decide +kernel
theorem dX3_group_31 : decode cX3_group 31 = .ok (.iload_n 2, 1) := by decide +kernel
theorem dX3_group_32 : decode cX3_group 32 = .ok (.tableswitch 102 0 4 #[36, 48, 58, 63, 81], 36) := by decide +kernel
theorem dX3_group_68 : decode cX3_group 68 = .ok (.aload_n 0, 1) := by decide +kernel
theorem dX3_group_69 : decode cX3_group 69 = .ok (.getfield 39, 3) := by decide +kernel
theorem dX3_group_72 : decode cX3_group 72 = .ok (.iload_n 3, 1) := by decide +kernel
theorem dX3_group_73 : decode cX3_group 73 = .ok (.invokevirtual 132, 3) := by decide +kernel
theorem dX3_group_76 : decode cX3_group 76 = .ok (.bipush 100, 2) := by decide +kernel
theorem dX3_group_78 : decode cX3_group 78 = .ok (.iadd, 1) := by decide +kernel
theorem dX3_group_79 : decode cX3_group 79 = .ok (.ireturn, 1) := by decide +kernel
theorem dX3_group_80 : decode cX3_group 80 = .ok (.aload_n 0, 1) := by decide +kernel
theorem dX3_group_81 : decode cX3_group 81 = .ok (.getfield 48, 3) := by decide +kernel
theorem dX3_group_84 : decode cX3_group 84 = .ok (.getfield 135, 3) := by decide +kernel
theorem dX3_group_87 : decode cX3_group 87 = .ok (.iload_n 1, 1) := by decide +kernel
theorem dX3_group_88 : decode cX3_group 88 = .ok (.iaload, 1) := by decide +kernel
theorem dX3_group_89 : decode cX3_group 89 = .ok (.ireturn, 1) := by decide +kernel
theorem dX3_group_90 : decode cX3_group 90 = .ok (.iload 4, 2) := by decide +kernel
theorem dX3_group_92 : decode cX3_group 92 = .ok (.iload_n 3, 1) := by decide +kernel
theorem dX3_group_93 : decode cX3_group 93 = .ok (.isub, 1) := by decide +kernel
theorem dX3_group_94 : decode cX3_group 94 = .ok (.ireturn, 1) := by decide +kernel
theorem dX3_group_95 : decode cX3_group 95 = .ok (.iload 4, 2) := by decide +kernel
theorem dX3_group_97 : decode cX3_group 97 = .ok (.iload_n 3, 1) := by decide +kernel
theorem dX3_group_98 : decode cX3_group 98 = .ok (.isub, 1) := by decide +kernel
theorem dX3_group_99 : decode cX3_group 99 = .ok (.aload_n 0, 1) := by decide +kernel
theorem dX3_group_100 : decode cX3_group 100 = .ok (.getfield 48, 3) := by decide +kernel
theorem dX3_group_103 : decode cX3_group 103 = .ok (.getfield 135, 3) := by decide +kernel
theorem dX3_group_106 : decode cX3_group 106 = .ok (.iload_n 1, 1) := by decide +kernel
theorem dX3_group_107 : decode cX3_group 107 = .ok (.iaload, 1) := by decide +kernel
theorem dX3_group_108 : decode cX3_group 108 = .ok (.invokestatic 138, 3) := by decide +kernel
theorem dX3_group_111 : decode cX3_group 111 = .ok (.isub, 1) := by decide +kernel
theorem dX3_group_112 : decode cX3_group 112 = .ok (.ireturn, 1) := by decide +kernel
theorem dX3_group_113 : decode cX3_group 113 = .ok (.aload_n 0, 1) := by decide +kernel
theorem dX3_group_114 : decode cX3_group 114 = .ok (.getfield 39, 3) := by decide +kernel
theorem dX3_group_117 : decode cX3_group 117 = .ok (.iload 4, 2) := by decide +kernel
theorem dX3_group_119 : decode cX3_group 119 = .ok (.iconst 1, 1) := by decide +kernel
theorem dX3_group_120 : decode cX3_group 120 = .ok (.isub, 1) := by decide +kernel
theorem dX3_group_121 : decode cX3_group 121 = .ok (.invokevirtual 132, 3) := by decide +kernel
theorem dX3_group_124 : decode cX3_group 124 = .ok (.aload_n 0, 1) := by decide +kernel
theorem dX3_group_125 : decode cX3_group 125 = .ok (.getfield 39, 3) := by decide +kernel
theorem dX3_group_128 : decode cX3_group 128 = .ok (.iload_n 3, 1) := by decide +kernel
theorem dX3_group_129 : decode cX3_group 129 = .ok (.invokevirtual 132, 3) := by decide +kernel
theorem dX3_group_132 : decode cX3_group 132 = .ok (.isub, 1) := by decide +kernel
theorem dX3_group_133 : decode cX3_group 133 = .ok (.ireturn, 1) := by decide +kernel
theorem dX3_group_134 : decode cX3_group 134 = .ok (.bipush (-2), 2) := by decide +kernel
theorem dX3_group_136 : decode cX3_group 136 = .ok (.ireturn, 1) := by decide +kernel
theorem dX3_member_0 : decode cX3_member 0 = .ok (.aload_n 0, 1) := by decide +kernel
theorem dX3_member_1 : decode cX3_member 1 = .ok (.iload_n 1, 1) := by decide +kernel
theorem dX3_member_2 : decode cX3_member 2 = .ok (.invokevirtual 126, 3) := by decide +kernel
theorem dX3_member_5 : decode cX3_member 5 = .ok (.ifCond .eq 10, 3) := by decide +kernel
theorem dX3_member_8 : decode cX3_member 8 = .ok (.iload_n 2, 1) := by decide +kernel
theorem dX3_member_9 : decode cX3_member 9 = .ok (.invokestatic 62, 3) := by decide +kernel
theorem dX3_member_12 : decode cX3_member 12 = .ok (.ifCond .ne 5, 3) := by decide +kernel
theorem dX3_member_15 : decode cX3_member 15 = .ok (.iconst (-1), 1) := by decide +kernel
theorem dX3_member_16 : decode cX3_member 16 = .ok (.ireturn, 1) := by decide +kernel
theorem dX3_member_17 : decode cX3_member 17 = .ok (.iload_n 3, 1) := by decide +kernel
theorem dX3_member_18 : decode cX3_member 18 = .ok (.iconst 0, 1) := by decide +kernel
theorem dX3_member_19 : decode cX3_member 19 = .ok (.iconst 1, 1) := by decide +kernel
theorem dX3_member_20 : decode cX3_member 20 = .ok (.invokestatic 66, 3) := by decide +kernel
theorem dX3_member_23 : decode cX3_member 23 = .ok (.ifCond .ne 6, 3) := by decide +kernel
theorem dX3_member_26 : decode cX3_member 26 = .ok (.bipush (-2), 2) := by decide +kernel
theorem dX3_member_28 : decode cX3_member 28 = .ok (.ireturn, 1) := by decide +kernel
theorem dX3_member_29 : decode cX3_member 29 = .ok (.aload_n 0, 1) := by decide +kernel
theorem dX3_member_30 : decode cX3_member 30 = .ok (.getfield 39, 3) := by decide +kernel
theorem dX3_member_33 : decode cX3_member 33 = .ok (.iload_n 2, 1) := by decide +kernel
theorem dX3_member_34 : decode cX3_member 34 = .ok (.aload_n 0, 1) := by decide +kernel
theorem dX3_member_35 : decode cX3_member 35 = .ok (.getfield 48, 3) := by decide +kernel
theorem dX3_member_38 : decode cX3_member 38 = .ok (.iload_n 1, 1) := by decide +kernel
theorem dX3_member_39 : decode cX3_member 39 = .ok (.iconst 1, 1) := by decide +kernel
theorem dX3_member_40 : decode cX3_member 40 = .ok (.isub, 1) := by decide +kernel
theorem dX3_member_41 : decode cX3_member 41 = .ok (.invokevirtual 129, 3) := by decide +kernel
theorem dX3_member_44 : decode cX3_member 44 = .ok (.aload_n 0, 1) := by decide +kernel
theorem dX3_member_45 : decode cX3_member 45 = .ok (.getfield 48, 3) := by decide +kernel
theorem dX3_member_48 : decode cX3_member 48 = .ok (.iload_n 1, 1) := by decide +kernel
theorem dX3_member_49 : decode cX3_member 49 = .ok (.invokevirtual 129, 3) := by decide +kernel
theorem dX3_member_52 : decode cX3_member 52 = .ok (.invokevirtual 143, 3) := by decide +kernel
theorem dX3_member_55 : decode cX3_member 55 = .ok (.istore 4, 2) := by decide +kernel
theorem dX3_member_57 : decode cX3_member 57 = .ok (.aload_n 0, 1) := by decide +kernel
theorem dX3_member_58 : decode cX3_member 58 = .ok (.getfield 39, 3) := by decide +kernel
theorem dX3_member_61 : decode cX3_member 61 = .ok (.iload 4, 2) := by decide +kernel
theorem dX3_member_63 : decode cX3_member 63 = .ok (.invokevirtual 147, 3) := by decide +kernel
theorem dX3_member_66 : decode cX3_member 66 = .ok (.ifCond .ne 6, 3) := by decide +kernel
theorem dX3_member_69 : decode cX3_member 69 = .ok (.bipush (-9), 2) := by decide +kernel
theorem dX3_member_71 : decode cX3_member 71 = .ok (.ireturn, 1) := by decide +kernel
theorem dX3_member_72 : decode cX3_member 72 = .ok (.iload_n 3, 1) := by decide +kernel
theorem dX3_member_73 : decode cX3_member 73 = .ok (.ifCond .ne 23, 3) := by decide +kernel
theorem dX3_member_76 : decode cX3_member 76 = .ok (.aload_n 0, 1) := by decide +kernel
theorem dX3_member_77 : decode cX3_member 77 = .ok (.getfield 39, 3) := by decide +kernel
theorem dX3_member_80 : decode cX3_member 80 = .ok (.getfield 150, 3) := by decide +kernel
theorem dX3_member_83 : decode cX3_member 83 = .ok (.iload 4, 2) := by decide +kernel
theorem dX3_member_85 : decode cX3_member 85 = .ok (.iaload, 1) := by decide +kernel
theorem dX3_member_86 : decode cX3_member 86 = .ok (.aload_n 0, 1) := by decide +kernel
theorem dX3_member_87 : decode cX3_member 87 = .ok (.getfield 11, 3) := by decide +kernel
theorem dX3_member_90 : decode cX3_member 90 = .ok (.iload_n 2, 1) := by decide +kernel
theorem dX3_member_91 : decode cX3_member 91 = .ok (.iaload, 1) := by decide +kernel
theorem dX3_member_92 : decode cX3_member 92 = .ok (.iadd, 1) := by decide +kernel
theorem dX3_member_93 : decode cX3_member 93 = .ok (.goto 13, 3) := by decide +kernel
theorem dX3_member_96 : decode cX3_member 96 = .ok (.aload_n 0, 1) := by decide +kernel
theorem dX3_member_97 : decode cX3_member 97 = .ok (.getfield 39, 3) := by decide +kernel
theorem dX3_member_100 : decode cX3_member 100 = .ok (.getfield 153, 3) := by decide +kernel
theorem dX3_member_103 : decode cX3_member 103 = .ok (.iload 4, 2) := by decide +kernel
theorem dX3_member_105 : decode cX3_member 105 = .ok (.iaload, 1) := by decide +kernel
theorem dX3_member_106 : decode cX3_member 106 = .ok (.ireturn, 1) := by decide +kernel
theorem dX3_having_0 : decode cX3_having 0 = .ok (.iload_n 1, 1) := by decide +kernel
theorem dX3_having_1 : decode cX3_having 1 = .ok (.iconst 0, 1) := by decide +kernel
theorem dX3_having_2 : decode cX3_having 2 = .ok (.bipush 63, 2) := by decide +kernel
theorem dX3_having_4 : decode cX3_having 4 = .ok (.invokestatic 66, 3) := by decide +kernel
theorem dX3_having_7 : decode cX3_having 7 = .ok (.ifCond .eq 12, 3) := by decide +kernel
theorem dX3_having_10 : decode cX3_having 10 = .ok (.iload_n 2, 1) := by decide +kernel
theorem dX3_having_11 : decode cX3_having 11 = .ok (.iconst 0, 1) := by decide +kernel
theorem dX3_having_12 : decode cX3_having 12 = .ok (.iconst 2, 1) := by decide +kernel
theorem dX3_having_13 : decode cX3_having 13 = .ok (.invokestatic 66, 3) := by decide +kernel
theorem dX3_having_16 : decode cX3_having 16 = .ok (.ifCond .ne 6, 3) := by decide +kernel
theorem dX3_having_19 : decode cX3_having 19 = .ok (.bipush (-2), 2) := by decide +kernel
theorem dX3_having_21 : decode cX3_having 21 = .ok (.ireturn, 1) := by decide +kernel
theorem dX3_having_22 : decode cX3_having 22 = .ok (.iconst 0, 1) := by decide +kernel
theorem dX3_having_23 : decode cX3_having 23 = .ok (.istore_n 3, 1) := by decide +kernel
theorem dX3_having_24 : decode cX3_having 24 = .ok (.iconst 0, 1) := by decide +kernel
theorem dX3_having_25 : decode cX3_having 25 = .ok (.istore 4, 2) := by decide +kernel
theorem dX3_having_27 : decode cX3_having 27 = .ok (.iload 4, 2) := by decide +kernel
theorem dX3_having_29 : decode cX3_having 29 = .ok (.aload_n 0, 1) := by decide +kernel
theorem dX3_having_30 : decode cX3_having 30 = .ok (.getfield 48, 3) := by decide +kernel
theorem dX3_having_33 : decode cX3_having 33 = .ok (.getfield 116, 3) := by decide +kernel
theorem dX3_having_36 : decode cX3_having 36 = .ok (.if_icmp .ge 79, 3) := by decide +kernel
theorem dX3_having_39 : decode cX3_having 39 = .ok (.aload_n 0, 1) := by decide +kernel
theorem dX3_having_40 : decode cX3_having 40 = .ok (.getfield 48, 3) := by decide +kernel
theorem dX3_having_43 : decode cX3_having 43 = .ok (.getfield 135, 3) := by decide +kernel
