theorem dX9_triesAll_10 : decode cX9_triesAll 10 = .ok (.aload_n 0, 1) := by decide +kernel
theorem dX9_triesAll_11 : decode cX9_triesAll 11 = .ok (.iconst 5, 1) := by decide +kernel
theorem dX9_triesAll_12 : decode cX9_triesAll 12 = .ok (.putfield 268, 3) := by decide +kernel
theorem dX9_triesAll_15 : decode cX9_triesAll 15 = .ok (.aload_n 0, 1) := by decide +kernel
theorem dX9_triesAll_16 : decode cX9_triesAll 16 = .ok (.iconst 0, 1) := by decide +kernel
theorem dX9_triesAll_17 : decode cX9_triesAll 17 = .ok (.putfield 271, 3) := by decide +kernel
theorem dX9_triesAll_20 : decode cX9_triesAll 20 = .ok (.aload_n 0, 1) := by decide +kernel
theorem dX9_triesAll_21 : decode cX9_triesAll 21 = .ok (.iconst 0, 1) := by decide +kernel
theorem dX9_triesAll_22 : decode cX9_triesAll 22 = .ok (.aload_n 0, 1) := by decide +kernel
theorem dX9_triesAll_23 : decode cX9_triesAll 23 = .ok (.iload_n 1, 1) := by decide +kernel
theorem dX9_triesAll_24 : decode cX9_triesAll 24 = .ok (.invokevirtual 288, 3) := by decide +kernel
theorem dX9_triesAll_27 : decode cX9_triesAll 27 = .ok (.iconst 0, 1) := by decide +kernel
theorem dX9_triesAll_28 : decode cX9_triesAll 28 = .ok (.iconst 0, 1) := by decide +kernel
theorem dX9_triesAll_29 : decode cX9_triesAll 29 = .ok (.iload_n 2, 1) := by decide +kernel
theorem dX9_triesAll_30 : decode cX9_triesAll 30 = .ok (.invokevirtual 281, 3) := by decide +kernel
theorem dX9_triesAll_33 : decode cX9_triesAll 33 = .ok (.return_, 1) := by decide +kernel
theorem dX9_isPlan_0 : decode cX9_isPlan 0 = .ok (.iload_n 0, 1) := by decide +kernel
theorem dX9_isPlan_1 : decode cX9_isPlan 1 = .ok (.iconst 0, 1) := by decide +kernel
theorem dX9_isPlan_2 : decode cX9_isPlan 2 = .ok (.iconst 4, 1) := by decide +kernel
theorem dX9_isPlan_3 : decode cX9_isPlan 3 = .ok (.invokestatic 71, 3) := by decide +kernel
theorem dX9_isPlan_6 : decode cX9_isPlan 6 = .ok (.ireturn, 1) := by decide +kernel
theorem dX9_best_0 : decode cX9_best 0 = .ok (.iload_n 1, 1) := by decide +kernel
theorem dX9_best_1 : decode cX9_best 1 = .ok (.invokestatic 291, 3) := by decide +kernel
theorem dX9_best_4 : decode cX9_best 4 = .ok (.ifCond .ne 5, 3) := by decide +kernel
theorem dX9_best_7 : decode cX9_best 7 = .ok (.iconst (-1), 1) := by decide +kernel
theorem dX9_best_8 : decode cX9_best 8 = .ok (.ireturn, 1) := by decide +kernel
theorem dX9_best_9 : decode cX9_best 9 = .ok (.aload_n 0, 1) := by decide +kernel
theorem dX9_best_10 : decode cX9_best 10 = .ok (.iload_n 1, 1) := by decide +kernel
theorem dX9_best_11 : decode cX9_best 11 = .ok (.iconst 0, 1) := by decide +kernel
theorem dX9_best_12 : decode cX9_best 12 = .ok (.invokevirtual 294, 3) := by decide +kernel
theorem dX9_best_15 : decode cX9_best 15 = .ok (.aload_n 0, 1) := by decide +kernel
theorem dX9_best_16 : decode cX9_best 16 = .ok (.getfield 262, 3) := by decide +kernel
theorem dX9_best_19 : decode cX9_best 19 = .ok (.ireturn, 1) := by decide +kernel
theorem dX9_ith_0 : decode cX9_ith 0 = .ok (.iload_n 1, 1) := by decide +kernel
theorem dX9_ith_1 : decode cX9_ith 1 = .ok (.invokestatic 291, 3) := by decide +kernel
theorem dX9_ith_4 : decode cX9_ith 4 = .ok (.ifCond .eq 12, 3) := by decide +kernel
theorem dX9_ith_7 : decode cX9_ith 7 = .ok (.iload_n 2, 1) := by decide +kernel
theorem dX9_ith_8 : decode cX9_ith 8 = .ok (.iconst 0, 1) := by decide +kernel
theorem dX9_ith_9 : decode cX9_ith 9 = .ok (.iconst 3, 1) := by decide +kernel
theorem dX9_ith_10 : decode cX9_ith 10 = .ok (.invokestatic 71, 3) := by decide +kernel
theorem dX9_ith_13 : decode cX9_ith 13 = .ok (.ifCond .ne 5, 3) := by decide +kernel
theorem dX9_ith_16 : decode cX9_ith 16 = .ok (.iconst (-1), 1) := by decide +kernel
theorem dX9_ith_17 : decode cX9_ith 17 = .ok (.ireturn, 1) := by decide +kernel
theorem dX9_ith_18 : decode cX9_ith 18 = .ok (.aload_n 0, 1) := by decide +kernel
theorem dX9_ith_19 : decode cX9_ith 19 = .ok (.iload_n 1, 1) := by decide +kernel
theorem dX9_ith_20 : decode cX9_ith 20 = .ok (.iconst 0, 1) := by decide +kernel
theorem dX9_ith_21 : decode cX9_ith 21 = .ok (.invokevirtual 294, 3) := by decide +kernel
theorem dX9_ith_24 : decode cX9_ith 24 = .ok (.iload_n 2, 1) := by decide +kernel
theorem dX9_ith_25 : decode cX9_ith 25 = .ok (.aload_n 0, 1) := by decide +kernel
theorem dX9_ith_26 : decode cX9_ith 26 = .ok (.iload_n 1, 1) := by decide +kernel
theorem dX9_ith_27 : decode cX9_ith 27 = .ok (.invokevirtual 288, 3) := by decide +kernel
theorem dX9_ith_30 : decode cX9_ith 30 = .ok (.if_icmp .ge 12, 3) := by decide +kernel
theorem dX9_ith_33 : decode cX9_ith 33 = .ok (.aload_n 0, 1) := by decide +kernel
theorem dX9_ith_34 : decode cX9_ith 34 = .ok (.getfield 41, 3) := by decide +kernel
theorem dX9_ith_37 : decode cX9_ith 37 = .ok (.iload_n 2, 1) := by decide +kernel
theorem dX9_ith_38 : decode cX9_ith 38 = .ok (.iaload, 1) := by decide +kernel
theorem dX9_ith_39 : decode cX9_ith 39 = .ok (.goto 5, 3) := by decide +kernel
theorem dX9_ith_42 : decode cX9_ith 42 = .ok (.bipush (-3), 2) := by decide +kernel
theorem dX9_ith_44 : decode cX9_ith 44 = .ok (.ireturn, 1) := by decide +kernel
theorem dX9_ways_0 : decode cX9_ways 0 = .ok (.iload_n 1, 1) := by decide +kernel
theorem dX9_ways_1 : decode cX9_ways 1 = .ok (.invokestatic 291, 3) := by decide +kernel
theorem dX9_ways_4 : decode cX9_ways 4 = .ok (.ifCond .ne 5, 3) := by decide +kernel
theorem dX9_ways_7 : decode cX9_ways 7 = .ok (.iconst (-1), 1) := by decide +kernel
theorem dX9_ways_8 : decode cX9_ways 8 = .ok (.ireturn, 1) := by decide +kernel
theorem dX9_ways_9 : decode cX9_ways 9 = .ok (.aload_n 0, 1) := by decide +kernel
theorem dX9_ways_10 : decode cX9_ways 10 = .ok (.iload_n 1, 1) := by decide +kernel
theorem dX9_ways_11 : decode cX9_ways 11 = .ok (.iconst 0, 1) := by decide +kernel
theorem dX9_ways_12 : decode cX9_ways 12 = .ok (.invokevirtual 294, 3) := by decide +kernel
theorem dX9_ways_15 : decode cX9_ways 15 = .ok (.aload_n 0, 1) := by decide +kernel
theorem dX9_ways_16 : decode cX9_ways 16 = .ok (.getfield 265, 3) := by decide +kernel
theorem dX9_ways_19 : decode cX9_ways 19 = .ok (.ireturn, 1) := by decide +kernel
theorem dX9_isSet_0 : decode cX9_isSet 0 = .ok (.iload_n 1, 1) := by decide +kernel
theorem dX9_isSet_1 : decode cX9_isSet 1 = .ok (.iconst 0, 1) := by decide +kernel
theorem dX9_isSet_2 : decode cX9_isSet 2 = .ok (.iconst 1, 1) := by decide +kernel
theorem dX9_isSet_3 : decode cX9_isSet 3 = .ok (.aload_n 0, 1) := by decide +kernel
theorem dX9_isSet_4 : decode cX9_isSet 4 = .ok (.getfield 9, 3) := by decide +kernel
theorem dX9_isSet_7 : decode cX9_isSet 7 = .ok (.iconst 4, 1) := by decide +kernel
theorem dX9_isSet_8 : decode cX9_isSet 8 = .ok (.iaload, 1) := by decide +kernel
theorem dX9_isSet_9 : decode cX9_isSet 9 = .ok (.ishl, 1) := by decide +kernel
theorem dX9_isSet_10 : decode cX9_isSet 10 = .ok (.iconst 1, 1) := by decide +kernel
theorem dX9_isSet_11 : decode cX9_isSet 11 = .ok (.isub, 1) := by decide +kernel
theorem dX9_isSet_12 : decode cX9_isSet 12 = .ok (.invokestatic 71, 3) := by decide +kernel
theorem dX9_isSet_15 : decode cX9_isSet 15 = .ok (.ireturn, 1) := by decide +kernel
theorem dX9_log_0 : decode cX9_log 0 = .ok (.iload_n 1, 1) := by decide +kernel
theorem dX9_log_1 : decode cX9_log 1 = .ok (.invokestatic 291, 3) := by decide +kernel
theorem dX9_log_4 : decode cX9_log 4 = .ok (.ifCond .eq 11, 3) := by decide +kernel
theorem dX9_log_7 : decode cX9_log 7 = .ok (.aload_n 0, 1) := by decide +kernel
theorem dX9_log_8 : decode cX9_log 8 = .ok (.iload_n 2, 1) := by decide +kernel
theorem dX9_log_9 : decode cX9_log 9 = .ok (.invokevirtual 298, 3) := by decide +kernel
theorem dX9_log_12 : decode cX9_log 12 = .ok (.ifCond .ne 5, 3) := by decide +kernel
theorem dX9_log_15 : decode cX9_log 15 = .ok (.iconst (-1), 1) := by decide +kernel
theorem dX9_log_16 : decode cX9_log 16 = .ok (.ireturn, 1) := by decide +kernel
theorem dX9_log_17 : decode cX9_log 17 = .ok (.aload_n 0, 1) := by decide +kernel
theorem dX9_log_18 : decode cX9_log 18 = .ok (.iload_n 1, 1) := by decide +kernel
theorem dX9_log_19 : decode cX9_log 19 = .ok (.iload_n 2, 1) := by decide +kernel
theorem dX9_log_20 : decode cX9_log 20 = .ok (.invokevirtual 294, 3) := by decide +kernel
theorem dX9_log_23 : decode cX9_log 23 = .ok (.aload_n 0, 1) := by decide +kernel
theorem dX9_log_24 : decode cX9_log 24 = .ok (.getfield 268, 3) := by decide +kernel
theorem dX9_log_27 : decode cX9_log 27 = .ok (.iconst 4, 1) := by decide +kernel
theorem dX9_log_28 : decode cX9_log 28 = .ok (.if_icmp .le 8, 3) := by decide +kernel
theorem dX9_log_31 : decode cX9_log 31 = .ok (.bipush (-3), 2) := by decide +kernel
theorem dX9_log_33 : decode cX9_log 33 = .ok (.goto 7, 3) := by decide +kernel
theorem dX9_log_36 : decode cX9_log 36 = .ok (.aload_n 0, 1) := by decide +kernel
theorem dX9_log_37 : decode cX9_log 37 = .ok (.getfield 268, 3) := by decide +kernel
theorem dX9_log_40 : decode cX9_log 40 = .ok (.ireturn, 1) := by decide +kernel
theorem dX9_bars_0 : decode cX9_bars 0 = .ok (.iload_n 1, 1) := by decide +kernel
theorem dX9_bars_1 : decode cX9_bars 1 = .ok (.invokestatic 291, 3) := by decide +kernel
theorem dX9_bars_4 : decode cX9_bars 4 = .ok (.ifCond .eq 11, 3) := by decide +kernel
theorem dX9_bars_7 : decode cX9_bars 7 = .ok (.aload_n 0, 1) := by decide +kernel
theorem dX9_bars_8 : decode cX9_bars 8 = .ok (.iload_n 2, 1) := by decide +kernel
theorem dX9_bars_9 : decode cX9_bars 9 = .ok (.invokevirtual 298, 3) := by decide +kernel
theorem dX9_bars_12 : decode cX9_bars 12 = .ok (.ifCond .ne 5, 3) := by decide +kernel
theorem dX9_bars_15 : decode cX9_bars 15 = .ok (.iconst (-1), 1) := by decide +kernel
theorem dX9_bars_16 : decode cX9_bars 16 = .ok (.ireturn, 1) := by decide +kernel
theorem dX9_bars_17 : decode cX9_bars 17 = .ok (.aload_n 0, 1) := by decide +kernel
theorem dX9_bars_18 : decode cX9_bars 18 = .ok (.iload_n 1, 1) := by decide +kernel
theorem dX9_bars_19 : decode cX9_bars 19 = .ok (.iload_n 2, 1) := by decide +kernel
theorem dX9_bars_20 : decode cX9_bars 20 = .ok (.invokevirtual 294, 3) := by decide +kernel
theorem dX9_bars_23 : decode cX9_bars 23 = .ok (.iload_n 2, 1) := by decide +kernel
theorem dX9_bars_24 : decode cX9_bars 24 = .ok (.aload_n 0, 1) := by decide +kernel
theorem dX9_bars_25 : decode cX9_bars 25 = .ok (.getfield 271, 3) := by decide +kernel
theorem dX9_bars_28 : decode cX9_bars 28 = .ok (.iconst (-1), 1) := by decide +kernel
theorem dX9_bars_29 : decode cX9_bars 29 = .ok (.ixor, 1) := by decide +kernel
theorem dX9_bars_30 : decode cX9_bars 30 = .ok (.iand, 1) := by decide +kernel
theorem dX9_bars_31 : decode cX9_bars 31 = .ok (.istore_n 3, 1) := by decide +kernel
theorem dX9_bars_32 : decode cX9_bars 32 = .ok (.iconst 0, 1) := by decide +kernel
theorem dX9_bars_33 : decode cX9_bars 33 = .ok (.istore 4, 2) := by decide +kernel
theorem dX9_bars_35 : decode cX9_bars 35 = .ok (.iload 4, 2) := by decide +kernel
theorem dX9_bars_37 : decode cX9_bars 37 = .ok (.aload_n 0, 1) := by decide +kernel
theorem dX9_bars_38 : decode cX9_bars 38 = .ok (.getfield 9, 3) := by decide +kernel
theorem dX9_bars_41 : decode cX9_bars 41 = .ok (.iconst 4, 1) := by decide +kernel
theorem dX9_bars_42 : decode cX9_bars 42 = .ok (.iaload, 1) := by decide +kernel
theorem dX9_bars_43 : decode cX9_bars 43 = .ok (.if_icmp .ge 18, 3) := by decide +kernel
theorem dX9_bars_46 : decode cX9_bars 46 = .ok (.iload_n 3, 1) := by decide +kernel
theorem dX9_bars_47 : decode cX9_bars 47 = .ok (.iload 4, 2) := by decide +kernel
theorem dX9_bars_49 : decode cX9_bars 49 = .ok (.ishr, 1) := by decide +kernel
theorem dX9_bars_50 : decode cX9_bars 50 = .ok (.iconst 1, 1) := by decide +kernel
theorem dX9_bars_51 : decode cX9_bars 51 = .ok (.iand, 1) := by decide +kernel
theorem dX9_bars_52 : decode cX9_bars 52 = .ok (.ifCond .ne 9, 3) := by decide +kernel
theorem dX9_bars_55 : decode cX9_bars 55 = .ok (.iinc 4 1, 3) := by decide +kernel
theorem dX9_bars_58 : decode cX9_bars 58 = .ok (.goto (-23), 3) := by decide +kernel
theorem dX9_bars_61 : decode cX9_bars 61 = .ok (.iload 4, 2) := by decide +kernel
theorem dX9_bars_63 : decode cX9_bars 63 = .ok (.aload_n 0, 1) := by decide +kernel
theorem dX9_bars_64 : decode cX9_bars 64 = .ok (.getfield 9, 3) := by decide +kernel
theorem dX9_bars_67 : decode cX9_bars 67 = .ok (.iconst 4, 1) := by decide +kernel
theorem dX9_bars_68 : decode cX9_bars 68 = .ok (.iaload, 1) := by decide +kernel
theorem dX9_bars_69 : decode cX9_bars 69 = .ok (.if_icmp .ge 8, 3) := by decide +kernel
theorem dX9_bars_72 : decode cX9_bars 72 = .ok (.iload 4, 2) := by decide +kernel
theorem dX9_bars_74 : decode cX9_bars 74 = .ok (.goto 5, 3) := by decide +kernel
theorem dX9_bars_77 : decode cX9_bars 77 = .ok (.bipush (-3), 2) := by decide +kernel
theorem dX9_bars_79 : decode cX9_bars 79 = .ok (.ireturn, 1) := by decide +kernel
theorem dX9_playedFrom_0 : decode cX9_playedFrom 0 = .ok (.iload_n 1, 1) := by decide +kernel
theorem dX9_playedFrom_1 : decode cX9_playedFrom 1 = .ok (.iload_n 2, 1) := by decide +kernel
theorem dX9_playedFrom_2 : decode cX9_playedFrom 2 = .ok (.if_icmp .ne 5, 3) := by decide +kernel
theorem dX9_playedFrom_5 : decode cX9_playedFrom 5 = .ok (.iconst 0, 1) := by decide +kernel
theorem dX9_playedFrom_6 : decode cX9_playedFrom 6 = .ok (.ireturn, 1) := by decide +kernel
theorem dX9_playedFrom_7 : decode cX9_playedFrom 7 = .ok (.aload_n 0, 1) := by decide +kernel
theorem dX9_playedFrom_8 : decode cX9_playedFrom 8 = .ok (.iload_n 1, 1) := by decide +kernel
theorem dX9_playedFrom_9 : decode cX9_playedFrom 9 = .ok (.invokevirtual 278, 3) := by decide +kernel
theorem dX9_playedFrom_12 : decode cX9_playedFrom 12 = .ok (.iconst 0, 1) := by decide +kernel
theorem dX9_playedFrom_13 : decode cX9_playedFrom 13 = .ok (.istore_n 3, 1) := by decide +kernel
theorem dX9_playedFrom_14 : decode cX9_playedFrom 14 = .ok (.iconst (-1), 1) := by decide +kernel
theorem dX9_playedFrom_15 : decode cX9_playedFrom 15 = .ok (.istore 4, 2) := by decide +kernel
theorem dX9_playedFrom_17 : decode cX9_playedFrom 17 = .ok (.iconst 0, 1) := by decide +kernel
theorem dX9_playedFrom_18 : decode cX9_playedFrom 18 = .ok (.istore 5, 2) := by decide +kernel
theorem dX9_playedFrom_20 : decode cX9_playedFrom 20 = .ok (.iload 5, 2) := by decide +kernel
theorem dX9_playedFrom_22 : decode cX9_playedFrom 22 = .ok (.aload_n 0, 1) := by decide +kernel
theorem dX9_playedFrom_23 : decode cX9_playedFrom 23 = .ok (.getfield 9, 3) := by decide +kernel
theorem dX9_playedFrom_26 : decode cX9_playedFrom 26 = .ok (.iconst 4, 1) := by decide +kernel
theorem dX9_playedFrom_27 : decode cX9_playedFrom 27 = .ok (.iaload, 1) := by decide +kernel
theorem dX9_playedFrom_28 : decode cX9_playedFrom 28 = .ok (.if_icmp .gt 94, 3) := by decide +kernel
theorem dX9_playedFrom_31 : decode cX9_playedFrom 31 = .ok (.aload_n 0, 1) := by decide +kernel
theorem dX9_playedFrom_32 : decode cX9_playedFrom 32 = .ok (.iload 5, 2) := by decide +kernel
theorem dX9_playedFrom_34 : decode cX9_playedFrom 34 = .ok (.invokevirtual 238, 3) := by decide +kernel
theorem dX9_playedFrom_37 : decode cX9_playedFrom 37 = .ok (.istore 6, 2) := by decide +kernel
theorem dX9_playedFrom_39 : decode cX9_playedFrom 39 = .ok (.iload 6, 2) := by decide +kernel
theorem dX9_playedFrom_41 : decode cX9_playedFrom 41 = .ok (.aload_n 0, 1) := by decide +kernel
theorem dX9_playedFrom_42 : decode cX9_playedFrom 42 = .ok (.iload_n 1, 1) := by decide +kernel
theorem dX9_playedFrom_43 : decode cX9_playedFrom 43 = .ok (.iconst 1, 1) := by decide +kernel
theorem dX9_playedFrom_44 : decode cX9_playedFrom 44 = .ok (.iadd, 1) := by decide +kernel
theorem dX9_playedFrom_45 : decode cX9_playedFrom 45 = .ok (.iload_n 2, 1) := by decide +kernel
theorem dX9_playedFrom_46 : decode cX9_playedFrom 46 = .ok (.invokevirtual 301, 3) := by decide +kernel
theorem dX9_playedFrom_49 : decode cX9_playedFrom 49 = .ok (.iadd, 1) := by decide +kernel
theorem dX9_playedFrom_50 : decode cX9_playedFrom 50 = .ok (.istore 7, 2) := by decide +kernel
theorem dX9_playedFrom_52 : decode cX9_playedFrom 52 = .ok (.aload_n 0, 1) := by decide +kernel
theorem dX9_playedFrom_53 : decode cX9_playedFrom 53 = .ok (.iload_n 1, 1) := by decide +kernel
theorem dX9_playedFrom_54 : decode cX9_playedFrom 54 = .ok (.invokevirtual 285, 3) := by decide +kernel
theorem dX9_playedFrom_57 : decode cX9_playedFrom 57 = .ok (.iload 4, 2) := by decide +kernel
theorem dX9_playedFrom_59 : decode cX9_playedFrom 59 = .ok (.ifCond .lt 24, 3) := by decide +kernel
theorem dX9_playedFrom_62 : decode cX9_playedFrom 62 = .ok (.iload_n 1, 1) := by decide +kernel
theorem dX9_playedFrom_63 : decode cX9_playedFrom 63 = .ok (.iconst 2, 1) := by decide +kernel
theorem dX9_playedFrom_64 : decode cX9_playedFrom 64 = .ok (.irem, 1) := by decide +kernel
theorem dX9_playedFrom_65 : decode cX9_playedFrom 65 = .ok (.ifCond .ne 12, 3) := by decide +kernel
theorem dX9_playedFrom_68 : decode cX9_playedFrom 68 = .ok (.iload 7, 2) := by decide +kernel
theorem dX9_playedFrom_70 : decode cX9_playedFrom 70 = .ok (.iload_n 3, 1) := by decide +kernel
theorem dX9_playedFrom_71 : decode cX9_playedFrom 71 = .ok (.if_icmp .le 16, 3) := by decide +kernel
theorem dX9_playedFrom_74 : decode cX9_playedFrom 74 = .ok (.goto 9, 3) := by decide +kernel
theorem dX9_playedFrom_77 : decode cX9_playedFrom 77 = .ok (.iload 7, 2) := by decide +kernel
theorem dX9_playedFrom_79 : decode cX9_playedFrom 79 = .ok (.iload_n 3, 1) := by decide +kernel
theorem dX9_playedFrom_80 : decode cX9_playedFrom 80 = .ok (.if_icmp .ge 7, 3) := by decide +kernel
theorem dX9_playedFrom_83 : decode cX9_playedFrom 83 = .ok (.iconst 1, 1) := by decide +kernel
theorem dX9_playedFrom_84 : decode cX9_playedFrom 84 = .ok (.goto 4, 3) := by decide +kernel
theorem dX9_playedFrom_87 : decode cX9_playedFrom 87 = .ok (.iconst 0, 1) := by decide +kernel
theorem dX9_playedFrom_88 : decode cX9_playedFrom 88 = .ok (.istore 8, 2) := by decide +kernel
theorem dX9_playedFrom_90 : decode cX9_playedFrom 90 = .ok (.iload 8, 2) := by decide +kernel
theorem dX9_playedFrom_92 : decode cX9_playedFrom 92 = .ok (.ifCond .eq 8, 3) := by decide +kernel
theorem dX9_playedFrom_95 : decode cX9_playedFrom 95 = .ok (.iload 5, 2) := by decide +kernel
theorem dX9_playedFrom_97 : decode cX9_playedFrom 97 = .ok (.goto 5, 3) := by decide +kernel
theorem dX9_playedFrom_100 : decode cX9_playedFrom 100 = .ok (.iload 4, 2) := by decide +kernel
theorem dX9_playedFrom_102 : decode cX9_playedFrom 102 = .ok (.istore 4, 2) := by decide +kernel
theorem dX9_playedFrom_104 : decode cX9_playedFrom 104 = .ok (.iload 8, 2) := by decide +kernel
theorem dX9_playedFrom_106 : decode cX9_playedFrom 106 = .ok (.ifCond .eq 8, 3) := by decide +kernel
theorem dX9_playedFrom_109 : decode cX9_playedFrom 109 = .ok (.iload 7, 2) := by decide +kernel
theorem dX9_playedFrom_111 : decode cX9_playedFrom 111 = .ok (.goto 4, 3) := by decide +kernel
theorem dX9_playedFrom_114 : decode cX9_playedFrom 114 = .ok (.iload_n 3, 1) := by decide +kernel
theorem dX9_playedFrom_115 : decode cX9_playedFrom 115 = .ok (.istore_n 3, 1) := by decide +kernel
theorem dX9_playedFrom_116 : decode cX9_playedFrom 116 = .ok (.iinc 5 1, 3) := by decide +kernel
theorem dX9_playedFrom_119 : decode cX9_playedFrom 119 = .ok (.goto (-99), 3) := by decide +kernel
theorem dX9_playedFrom_122 : decode cX9_playedFrom 122 = .ok (.aload_n 0, 1) := by decide +kernel
theorem dX9_playedFrom_123 : decode cX9_playedFrom 123 = .ok (.getfield 38, 3) := by decide +kernel
theorem dX9_playedFrom_126 : decode cX9_playedFrom 126 = .ok (.iload_n 1, 1) := by decide +kernel
theorem dX9_playedFrom_127 : decode cX9_playedFrom 127 = .ok (.iload 4, 2) := by decide +kernel
theorem dX9_playedFrom_129 : decode cX9_playedFrom 129 = .ok (.iastore, 1) := by decide +kernel
theorem dX9_playedFrom_130 : decode cX9_playedFrom 130 = .ok (.iload_n 3, 1) := by decide +kernel
theorem dX9_playedFrom_131 : decode cX9_playedFrom 131 = .ok (.ireturn, 1) := by decide +kernel
theorem dX9_game_0 : decode cX9_game 0 = .ok (.iload_n 1, 1) := by decide +kernel
theorem dX9_game_1 : decode cX9_game 1 = .ok (.iconst 1, 1) := by decide +kernel
theorem dX9_game_2 : decode cX9_game 2 = .ok (.iconst 4, 1) := by decide +kernel
theorem dX9_game_3 : decode cX9_game 3 = .ok (.invokestatic 71, 3) := by decide +kernel
theorem dX9_game_6 : decode cX9_game 6 = .ok (.ifCond .eq 16, 3) := by decide +kernel
theorem dX9_game_9 : decode cX9_game 9 = .ok (.aload_n 0, 1) := by decide +kernel
theorem dX9_game_10 : decode cX9_game 10 = .ok (.iconst 0, 1) := by decide +kernel
theorem dX9_game_11 : decode cX9_game 11 = .ok (.aload_n 0, 1) := by decide +kernel
theorem dX9_game_12 : decode cX9_game 12 = .ok (.iload_n 1, 1) := by decide +kernel
theorem dX9_game_13 : decode cX9_game 13 = .ok (.invokevirtual 288, 3) := by decide +kernel
theorem dX9_game_16 : decode cX9_game 16 = .ok (.invokevirtual 301, 3) := by decide +kernel
theorem dX9_game_19 : decode cX9_game 19 = .ok (.goto 4, 3) := by decide +kernel
theorem dX9_game_22 : decode cX9_game 22 = .ok (.iconst (-1), 1) := by decide +kernel
theorem dX9_game_23 : decode cX9_game 23 = .ok (.ireturn, 1) := by decide +kernel
theorem dX9_play_0 : decode cX9_play 0 = .ok (.iload_n 1, 1) := by decide +kernel
theorem dX9_play_1 : decode cX9_play 1 = .ok (.iconst 1, 1) := by decide +kernel
theorem dX9_play_2 : decode cX9_play 2 = .ok (.iconst 4, 1) := by decide +kernel
theorem dX9_play_3 : decode cX9_play 3 = .ok (.invokestatic 71, 3) := by decide +kernel
theorem dX9_play_6 : decode cX9_play 6 = .ok (.ifCond .ne 5, 3) := by decide +kernel
theorem dX9_play_9 : decode cX9_play 9 = .ok (.iconst (-1), 1) := by decide +kernel
theorem dX9_play_10 : decode cX9_play 10 = .ok (.ireturn, 1) := by decide +kernel
theorem dX9_play_11 : decode cX9_play 11 = .ok (.aload_n 0, 1) := by decide +kernel
theorem dX9_play_12 : decode cX9_play 12 = .ok (.invokevirtual 232, 3) := by decide +kernel
theorem dX9_play_15 : decode cX9_play 15 = .ok (.ifCond .eq 6, 3) := by decide +kernel
theorem dX9_play_18 : decode cX9_play 18 = .ok (.bipush (-3), 2) := by decide +kernel
theorem dX9_play_20 : decode cX9_play 20 = .ok (.ireturn, 1) := by decide +kernel
theorem dX9_play_21 : decode cX9_play 21 = .ok (.aload_n 0, 1) := by decide +kernel
theorem dX9_play_22 : decode cX9_play 22 = .ok (.iconst 0, 1) := by decide +kernel
theorem dX9_play_23 : decode cX9_play 23 = .ok (.aload_n 0, 1) := by decide +kernel
theorem dX9_play_24 : decode cX9_play 24 = .ok (.iload_n 1, 1) := by decide +kernel
theorem dX9_play_25 : decode cX9_play 25 = .ok (.invokevirtual 288, 3) := by decide +kernel
theorem dX9_play_28 : decode cX9_play 28 = .ok (.invokevirtual 301, 3) := by decide +kernel
theorem dX9_play_31 : decode cX9_play 31 = .ok (.istore_n 2, 1) := by decide +kernel
theorem dX9_play_32 : decode cX9_play 32 = .ok (.iload_n 2, 1) := by decide +kernel
theorem dX9_play_33 : decode cX9_play 33 = .ok (.ifCond .ge 8, 3) := by decide +kernel
theorem dX9_play_36 : decode cX9_play 36 = .ok (.bipush (-3), 2) := by decide +kernel
theorem dX9_play_38 : decode cX9_play 38 = .ok (.goto 9, 3) := by decide +kernel
theorem dX9_play_41 : decode cX9_play 41 = .ok (.aload_n 0, 1) := by decide +kernel
theorem dX9_play_42 : decode cX9_play 42 = .ok (.getfield 38, 3) := by decide +kernel
theorem dX9_play_45 : decode cX9_play 45 = .ok (.iconst 0, 1) := by decide +kernel
theorem dX9_play_46 : decode cX9_play 46 = .ok (.iaload, 1) := by decide +kernel
theorem dX9_play_47 : decode cX9_play 47 = .ok (.ireturn, 1) := by decide +kernel
theorem dX9_report_0 : decode cX9_report 0 = .ok (.iload_n 2, 1) := by decide +kernel
theorem dX9_report_1 : decode cX9_report 1 = .ok (.ifCond .ne 8, 3) := by decide +kernel
theorem dX9_report_4 : decode cX9_report 4 = .ok (.bipush 99, 2) := by decide +kernel
theorem dX9_report_6 : decode cX9_report 6 = .ok (.goto 5, 3) := by decide +kernel
theorem dX9_report_9 : decode cX9_report 9 = .ok (.bipush 16, 2) := by decide +kernel
theorem dX9_report_11 : decode cX9_report 11 = .ok (.istore 5, 2) := by decide +kernel
theorem dX9_report_13 : decode cX9_report 13 = .ok (.iload_n 1, 1) := by decide +kernel
theorem dX9_report_14 : decode cX9_report 14 = .ok (.iconst 0, 1) := by decide +kernel
theorem dX9_report_15 : decode cX9_report 15 = .ok (.bipush 15, 2) := by decide +kernel
theorem dX9_report_17 : decode cX9_report 17 = .ok (.invokestatic 71, 3) := by decide +kernel
theorem dX9_report_20 : decode cX9_report 20 = .ok (.ifCond .eq 33, 3) := by decide +kernel
theorem dX9_report_23 : decode cX9_report 23 = .ok (.iload_n 2, 1) := by decide +kernel
theorem dX9_report_24 : decode cX9_report 24 = .ok (.iconst 0, 1) := by decide +kernel
theorem dX9_report_25 : decode cX9_report 25 = .ok (.iconst 1, 1) := by decide +kernel
theorem dX9_report_26 : decode cX9_report 26 = .ok (.invokestatic 71, 3) := by decide +kernel
theorem dX9_report_29 : decode cX9_report 29 = .ok (.ifCond .eq 24, 3) := by decide +kernel
theorem dX9_report_32 : decode cX9_report 32 = .ok (.iload_n 3, 1) := by decide +kernel
theorem dX9_report_33 : decode cX9_report 33 = .ok (.iconst 0, 1) := by decide +kernel
theorem dX9_report_34 : decode cX9_report 34 = .ok (.iload 5, 2) := by decide +kernel
theorem dX9_report_36 : decode cX9_report 36 = .ok (.invokestatic 71, 3) := by decide +kernel
theorem dX9_report_39 : decode cX9_report 39 = .ok (.ifCond .eq 14, 3) := by decide +kernel
theorem dX9_report_42 : decode cX9_report 42 = .ok (.iload 4, 2) := by decide +kernel
theorem dX9_report_44 : decode cX9_report 44 = .ok (.iload_n 3, 1) := by decide +kernel
theorem dX9_report_45 : decode cX9_report 45 = .ok (.iload 5, 2) := by decide +kernel
theorem dX9_report_47 : decode cX9_report 47 = .ok (.invokestatic 71, 3) := by decide +kernel
theorem dX9_report_50 : decode cX9_report 50 = .ok (.ifCond .ne 5, 3) := by decide +kernel
theorem dX9_report_53 : decode cX9_report 53 = .ok (.iconst (-1), 1) := by decide +kernel
theorem dX9_report_54 : decode cX9_report 54 = .ok (.ireturn, 1) := by decide +kernel
theorem dX9_report_55 : decode cX9_report 55 = .ok (.aload_n 0, 1) := by decide +kernel
theorem dX9_report_56 : decode cX9_report 56 = .ok (.getfield 9, 3) := by decide +kernel
theorem dX9_report_59 : decode cX9_report 59 = .ok (.bipush 6, 2) := by decide +kernel
theorem dX9_report_61 : decode cX9_report 61 = .ok (.iaload, 1) := by decide +kernel
theorem dX9_report_62 : decode cX9_report 62 = .ok (.bipush 6, 2) := by decide +kernel
theorem dX9_report_64 : decode cX9_report 64 = .ok (.if_icmp .ne 6, 3) := by decide +kernel
theorem dX9_report_67 : decode cX9_report 67 = .ok (.bipush (-2), 2) := by decide +kernel
theorem dX9_report_69 : decode cX9_report 69 = .ok (.ireturn, 1) := by decide +kernel
theorem dX9_report_70 : decode cX9_report 70 = .ok (.bipush 65, 2) := by decide +kernel
theorem dX9_report_72 : decode cX9_report 72 = .ok (.iconst 4, 1) := by decide +kernel
theorem dX9_report_73 : decode cX9_report 73 = .ok (.aload_n 0, 1) := by decide +kernel
theorem dX9_report_74 : decode cX9_report 74 = .ok (.getfield 9, 3) := by decide +kernel
theorem dX9_report_77 : decode cX9_report 77 = .ok (.bipush 6, 2) := by decide +kernel
theorem dX9_report_79 : decode cX9_report 79 = .ok (.iaload, 1) := by decide +kernel
theorem dX9_report_80 : decode cX9_report 80 = .ok (.imul, 1) := by decide +kernel
theorem dX9_report_81 : decode cX9_report 81 = .ok (.iadd, 1) := by decide +kernel
theorem dX9_report_82 : decode cX9_report 82 = .ok (.istore 6, 2) := by decide +kernel
theorem dX9_report_84 : decode cX9_report 84 = .ok (.aload_n 0, 1) := by decide +kernel
theorem dX9_report_85 : decode cX9_report 85 = .ok (.getfield 9, 3) := by decide +kernel
theorem dX9_report_88 : decode cX9_report 88 = .ok (.iload 6, 2) := by decide +kernel
theorem dX9_report_90 : decode cX9_report 90 = .ok (.iload_n 1, 1) := by decide +kernel
theorem dX9_report_91 : decode cX9_report 91 = .ok (.iastore, 1) := by decide +kernel
theorem dX9_report_92 : decode cX9_report 92 = .ok (.aload_n 0, 1) := by decide +kernel
theorem dX9_report_93 : decode cX9_report 93 = .ok (.getfield 9, 3) := by decide +kernel
theorem dX9_report_96 : decode cX9_report 96 = .ok (.iload 6, 2) := by decide +kernel
theorem dX9_report_98 : decode cX9_report 98 = .ok (.iconst 1, 1) := by decide +kernel
theorem dX9_report_99 : decode cX9_report 99 = .ok (.iadd, 1) := by decide +kernel
theorem dX9_report_100 : decode cX9_report 100 = .ok (.iload_n 2, 1) := by decide +kernel
theorem dX9_report_101 : decode cX9_report 101 = .ok (.iastore, 1) := by decide +kernel
theorem dX9_report_102 : decode cX9_report 102 = .ok (.aload_n 0, 1) := by decide +kernel
theorem dX9_report_103 : decode cX9_report 103 = .ok (.getfield 9, 3) := by decide +kernel
theorem dX9_report_106 : decode cX9_report 106 = .ok (.iload 6, 2) := by decide +kernel
theorem dX9_report_108 : decode cX9_report 108 = .ok (.iconst 2, 1) := by decide +kernel
theorem dX9_report_109 : decode cX9_report 109 = .ok (.iadd, 1) := by decide +kernel
theorem dX9_report_110 : decode cX9_report 110 = .ok (.iload_n 3, 1) := by decide +kernel
theorem dX9_report_111 : decode cX9_report 111 = .ok (.iastore, 1) := by decide +kernel
theorem dX9_report_112 : decode cX9_report 112 = .ok (.aload_n 0, 1) := by decide +kernel
theorem dX9_report_113 : decode cX9_report 113 = .ok (.getfield 9, 3) := by decide +kernel
theorem dX9_report_116 : decode cX9_report 116 = .ok (.iload 6, 2) := by decide +kernel
theorem dX9_report_118 : decode cX9_report 118 = .ok (.iconst 3, 1) := by decide +kernel
theorem dX9_report_119 : decode cX9_report 119 = .ok (.iadd, 1) := by decide +kernel
theorem dX9_report_120 : decode cX9_report 120 = .ok (.iload 4, 2) := by decide +kernel
theorem dX9_report_122 : decode cX9_report 122 = .ok (.iastore, 1) := by decide +kernel
theorem dX9_report_123 : decode cX9_report 123 = .ok (.aload_n 0, 1) := by decide +kernel
theorem dX9_report_124 : decode cX9_report 124 = .ok (.getfield 9, 3) := by decide +kernel
theorem dX9_report_127 : decode cX9_report 127 = .ok (.bipush 6, 2) := by decide +kernel
theorem dX9_report_129 : decode cX9_report 129 = .ok (.dup2, 1) := by decide +kernel
theorem dX9_report_130 : decode cX9_report 130 = .ok (.iaload, 1) := by decide +kernel
theorem dX9_report_131 : decode cX9_report 131 = .ok (.iconst 1, 1) := by decide +kernel
theorem dX9_report_132 : decode cX9_report 132 = .ok (.iadd, 1) := by decide +kernel
theorem dX9_report_133 : decode cX9_report 133 = .ok (.iastore, 1) := by decide +kernel
theorem dX9_report_134 : decode cX9_report 134 = .ok (.aload_n 0, 1) := by decide +kernel
theorem dX9_report_135 : decode cX9_report 135 = .ok (.getfield 9, 3) := by decide +kernel
theorem dX9_report_138 : decode cX9_report 138 = .ok (.bipush 6, 2) := by decide +kernel
theorem dX9_report_140 : decode cX9_report 140 = .ok (.iaload, 1) := by decide +kernel
theorem dX9_report_141 : decode cX9_report 141 = .ok (.iconst 1, 1) := by decide +kernel
theorem dX9_report_142 : decode cX9_report 142 = .ok (.isub, 1) := by decide +kernel
theorem dX9_report_143 : decode cX9_report 143 = .ok (.ireturn, 1) := by decide +kernel
theorem dX9_forget_0 : decode cX9_forget 0 = .ok (.aload_n 0, 1) := by decide +kernel
theorem dX9_forget_1 : decode cX9_forget 1 = .ok (.bipush 6, 2) := by decide +kernel
theorem dX9_forget_3 : decode cX9_forget 3 = .ok (.iconst 0, 1) := by decide +kernel
theorem dX9_forget_4 : decode cX9_forget 4 = .ok (.invokevirtual 229, 3) := by decide +kernel
theorem dX9_forget_7 : decode cX9_forget 7 = .ok (.ireturn, 1) := by decide +kernel
theorem dX9_tellsLone_0 : decode cX9_tellsLone 0 = .ok (.iload_n 3, 1) := by decide +kernel
theorem dX9_tellsLone_1 : decode cX9_tellsLone 1 = .ok (.istore 4, 2) := by decide +kernel
theorem dX9_tellsLone_3 : decode cX9_tellsLone 3 = .ok (.iconst 0, 1) := by decide +kernel
theorem dX9_tellsLone_4 : decode cX9_tellsLone 4 = .ok (.istore 5, 2) := by decide +kernel
theorem dX9_tellsLone_6 : decode cX9_tellsLone 6 = .ok (.iconst 0, 1) := by decide +kernel
theorem dX9_tellsLone_7 : decode cX9_tellsLone 7 = .ok (.istore 6, 2) := by decide +kernel
theorem dX9_tellsLone_9 : decode cX9_tellsLone 9 = .ok (.iload 6, 2) := by decide +kernel
theorem dX9_tellsLone_11 : decode cX9_tellsLone 11 = .ok (.bipush 16, 2) := by decide +kernel
theorem dX9_tellsLone_13 : decode cX9_tellsLone 13 = .ok (.if_icmp .ge 92, 3) := by decide +kernel
theorem dX9_tellsLone_16 : decode cX9_tellsLone 16 = .ok (.aload_n 0, 1) := by decide +kernel
theorem dX9_tellsLone_17 : decode cX9_tellsLone 17 = .ok (.getfield 44, 3) := by decide +kernel
theorem dX9_tellsLone_20 : decode cX9_tellsLone 20 = .ok (.iload 6, 2) := by decide +kernel
theorem dX9_tellsLone_22 : decode cX9_tellsLone 22 = .ok (.iload 4, 2) := by decide +kernel
theorem dX9_tellsLone_24 : decode cX9_tellsLone 24 = .ok (.iastore, 1) := by decide +kernel
theorem dX9_tellsLone_25 : decode cX9_tellsLone 25 = .ok (.aload_n 0, 1) := by decide +kernel
theorem dX9_tellsLone_26 : decode cX9_tellsLone 26 = .ok (.getfield 47, 3) := by decide +kernel
theorem dX9_tellsLone_29 : decode cX9_tellsLone 29 = .ok (.iload 6, 2) := by decide +kernel
theorem dX9_tellsLone_31 : decode cX9_tellsLone 31 = .ok (.iload 5, 2) := by decide +kernel
theorem dX9_tellsLone_33 : decode cX9_tellsLone 33 = .ok (.iastore, 1) := by decide +kernel
theorem dX9_tellsLone_34 : decode cX9_tellsLone 34 = .ok (.aload_n 0, 1) := by decide +kernel
theorem dX9_tellsLone_35 : decode cX9_tellsLone 35 = .ok (.getfield 9, 3) := by decide +kernel
theorem dX9_tellsLone_38 : decode cX9_tellsLone 38 = .ok (.bipush 7, 2) := by decide +kernel
theorem dX9_tellsLone_40 : decode cX9_tellsLone 40 = .ok (.iload 6, 2) := by decide +kernel
theorem dX9_tellsLone_42 : decode cX9_tellsLone 42 = .ok (.iadd, 1) := by decide +kernel
theorem dX9_tellsLone_43 : decode cX9_tellsLone 43 = .ok (.iaload, 1) := by decide +kernel
theorem dX9_tellsLone_44 : decode cX9_tellsLone 44 = .ok (.istore 7, 2) := by decide +kernel
theorem dX9_tellsLone_46 : decode cX9_tellsLone 46 = .ok (.iload 5, 2) := by decide +kernel
theorem dX9_tellsLone_48 : decode cX9_tellsLone 48 = .ok (.iload 4, 2) := by decide +kernel
theorem dX9_tellsLone_50 : decode cX9_tellsLone 50 = .ok (.ifCond .le 21, 3) := by decide +kernel
theorem dX9_tellsLone_53 : decode cX9_tellsLone 53 = .ok (.iload 4, 2) := by decide +kernel
theorem dX9_tellsLone_55 : decode cX9_tellsLone 55 = .ok (.iload_n 1, 1) := by decide +kernel
theorem dX9_tellsLone_56 : decode cX9_tellsLone 56 = .ok (.iload_n 2, 1) := by decide +kernel
theorem dX9_tellsLone_57 : decode cX9_tellsLone 57 = .ok (.iload 7, 2) := by decide +kernel
theorem dX9_tellsLone_59 : decode cX9_tellsLone 59 = .ok (.iconst 4, 1) := by decide +kernel
theorem dX9_tellsLone_60 : decode cX9_tellsLone 60 = .ok (.idiv, 1) := by decide +kernel
theorem dX9_tellsLone_61 : decode cX9_tellsLone 61 = .ok (.invokestatic 91, 3) := by decide +kernel
theorem dX9_tellsLone_64 : decode cX9_tellsLone 64 = .ok (.if_icmp .gt 7, 3) := by decide +kernel
theorem dX9_tellsLone_67 : decode cX9_tellsLone 67 = .ok (.iconst 1, 1) := by decide +kernel
theorem dX9_tellsLone_68 : decode cX9_tellsLone 68 = .ok (.goto 4, 3) := by decide +kernel
theorem dX9_tellsLone_71 : decode cX9_tellsLone 71 = .ok (.iconst 0, 1) := by decide +kernel
theorem dX9_tellsLone_72 : decode cX9_tellsLone 72 = .ok (.iadd, 1) := by decide +kernel
theorem dX9_tellsLone_73 : decode cX9_tellsLone 73 = .ok (.istore 5, 2) := by decide +kernel
theorem dX9_tellsLone_75 : decode cX9_tellsLone 75 = .ok (.iload 4, 2) := by decide +kernel
theorem dX9_tellsLone_77 : decode cX9_tellsLone 77 = .ok (.iload_n 1, 1) := by decide +kernel
theorem dX9_tellsLone_78 : decode cX9_tellsLone 78 = .ok (.iload 7, 2) := by decide +kernel
theorem dX9_tellsLone_80 : decode cX9_tellsLone 80 = .ok (.iconst 4, 1) := by decide +kernel
theorem dX9_tellsLone_81 : decode cX9_tellsLone 81 = .ok (.idiv, 1) := by decide +kernel
theorem dX9_tellsLone_82 : decode cX9_tellsLone 82 = .ok (.iload 7, 2) := by decide +kernel
theorem dX9_tellsLone_84 : decode cX9_tellsLone 84 = .ok (.iconst 4, 1) := by decide +kernel
theorem dX9_tellsLone_85 : decode cX9_tellsLone 85 = .ok (.irem, 1) := by decide +kernel
theorem dX9_tellsLone_86 : decode cX9_tellsLone 86 = .ok (.iload 6, 2) := by decide +kernel
theorem dX9_tellsLone_88 : decode cX9_tellsLone 88 = .ok (.invokestatic 87, 3) := by decide +kernel
theorem dX9_tellsLone_91 : decode cX9_tellsLone 91 = .ok (.isub, 1) := by decide +kernel
theorem dX9_tellsLone_92 : decode cX9_tellsLone 92 = .ok (.bipush 99, 2) := by decide +kernel
theorem dX9_tellsLone_94 : decode cX9_tellsLone 94 = .ok (.invokestatic 202, 3) := by decide +kernel
theorem dX9_tellsLone_97 : decode cX9_tellsLone 97 = .ok (.istore 4, 2) := by decide +kernel
theorem dX9_tellsLone_99 : decode cX9_tellsLone 99 = .ok (.iinc 6 1, 3) := by decide +kernel
theorem dX9_tellsLone_102 : decode cX9_tellsLone 102 = .ok (.goto (-93), 3) := by decide +kernel
theorem dX9_tellsLone_105 : decode cX9_tellsLone 105 = .ok (.return_, 1) := by decide +kernel
theorem dX9_isSo_0 : decode cX9_isSo 0 = .ok (.bipush 65, 2) := by decide +kernel
theorem dX9_isSo_2 : decode cX9_isSo 2 = .ok (.iconst 4, 1) := by decide +kernel
theorem dX9_isSo_3 : decode cX9_isSo 3 = .ok (.iload_n 1, 1) := by decide +kernel
theorem dX9_isSo_4 : decode cX9_isSo 4 = .ok (.imul, 1) := by decide +kernel
theorem dX9_isSo_5 : decode cX9_isSo 5 = .ok (.iadd, 1) := by decide +kernel
theorem dX9_isSo_6 : decode cX9_isSo 6 = .ok (.istore_n 2, 1) := by decide +kernel
theorem dX9_isSo_7 : decode cX9_isSo 7 = .ok (.aload_n 0, 1) := by decide +kernel
theorem dX9_isSo_8 : decode cX9_isSo 8 = .ok (.getfield 9, 3) := by decide +kernel
theorem dX9_isSo_11 : decode cX9_isSo 11 = .ok (.iload_n 2, 1) := by decide +kernel
theorem dX9_isSo_12 : decode cX9_isSo 12 = .ok (.iconst 1, 1) := by decide +kernel
theorem dX9_isSo_13 : decode cX9_isSo 13 = .ok (.iadd, 1) := by decide +kernel
theorem dX9_isSo_14 : decode cX9_isSo 14 = .ok (.iaload, 1) := by decide +kernel
theorem dX9_isSo_15 : decode cX9_isSo 15 = .ok (.ifCond .ne 17, 3) := by decide +kernel
theorem dX9_isSo_18 : decode cX9_isSo 18 = .ok (.aload_n 0, 1) := by decide +kernel
theorem dX9_isSo_19 : decode cX9_isSo 19 = .ok (.getfield 44, 3) := by decide +kernel
theorem dX9_isSo_22 : decode cX9_isSo 22 = .ok (.aload_n 0, 1) := by decide +kernel
theorem dX9_isSo_23 : decode cX9_isSo 23 = .ok (.getfield 9, 3) := by decide +kernel
theorem dX9_isSo_26 : decode cX9_isSo 26 = .ok (.iload_n 2, 1) := by decide +kernel
theorem dX9_isSo_27 : decode cX9_isSo 27 = .ok (.iaload, 1) := by decide +kernel
theorem dX9_isSo_28 : decode cX9_isSo 28 = .ok (.iaload, 1) := by decide +kernel
theorem dX9_isSo_29 : decode cX9_isSo 29 = .ok (.goto 14, 3) := by decide +kernel
theorem dX9_isSo_32 : decode cX9_isSo 32 = .ok (.aload_n 0, 1) := by decide +kernel
theorem dX9_isSo_33 : decode cX9_isSo 33 = .ok (.getfield 47, 3) := by decide +kernel
theorem dX9_isSo_36 : decode cX9_isSo 36 = .ok (.aload_n 0, 1) := by decide +kernel
theorem dX9_isSo_37 : decode cX9_isSo 37 = .ok (.getfield 9, 3) := by decide +kernel
theorem dX9_isSo_40 : decode cX9_isSo 40 = .ok (.iload_n 2, 1) := by decide +kernel
theorem dX9_isSo_41 : decode cX9_isSo 41 = .ok (.iaload, 1) := by decide +kernel
theorem dX9_isSo_42 : decode cX9_isSo 42 = .ok (.iaload, 1) := by decide +kernel
theorem dX9_isSo_43 : decode cX9_isSo 43 = .ok (.aload_n 0, 1) := by decide +kernel
theorem dX9_isSo_44 : decode cX9_isSo 44 = .ok (.getfield 9, 3) := by decide +kernel
theorem dX9_isSo_47 : decode cX9_isSo 47 = .ok (.iload_n 2, 1) := by decide +kernel
theorem dX9_isSo_48 : decode cX9_isSo 48 = .ok (.iconst 2, 1) := by decide +kernel
theorem dX9_isSo_49 : decode cX9_isSo 49 = .ok (.iadd, 1) := by decide +kernel
theorem dX9_isSo_50 : decode cX9_isSo 50 = .ok (.iaload, 1) := by decide +kernel
theorem dX9_isSo_51 : decode cX9_isSo 51 = .ok (.aload_n 0, 1) := by decide +kernel
theorem dX9_isSo_52 : decode cX9_isSo 52 = .ok (.getfield 9, 3) := by decide +kernel
theorem dX9_isSo_55 : decode cX9_isSo 55 = .ok (.iload_n 2, 1) := by decide +kernel
theorem dX9_isSo_56 : decode cX9_isSo 56 = .ok (.iconst 3, 1) := by decide +kernel
theorem dX9_isSo_57 : decode cX9_isSo 57 = .ok (.iadd, 1) := by decide +kernel
theorem dX9_isSo_58 : decode cX9_isSo 58 = .ok (.iaload, 1) := by decide +kernel
theorem dX9_isSo_59 : decode cX9_isSo 59 = .ok (.invokestatic 71, 3) := by decide +kernel
theorem dX9_isSo_62 : decode cX9_isSo 62 = .ok (.ireturn, 1) := by decide +kernel
theorem dX9_fitting_0 : decode cX9_fitting 0 = .ok (.iconst 0, 1) := by decide +kernel
theorem dX9_fitting_1 : decode cX9_fitting 1 = .ok (.istore_n 2, 1) := by decide +kernel
theorem dX9_fitting_2 : decode cX9_fitting 2 = .ok (.aload_n 0, 1) := by decide +kernel
theorem dX9_fitting_3 : decode cX9_fitting 3 = .ok (.iconst (-1), 1) := by decide +kernel
theorem dX9_fitting_4 : decode cX9_fitting 4 = .ok (.putfield 304, 3) := by decide +kernel
theorem dX9_fitting_7 : decode cX9_fitting 7 = .ok (.iconst 0, 1) := by decide +kernel
theorem dX9_fitting_8 : decode cX9_fitting 8 = .ok (.istore_n 3, 1) := by decide +kernel
theorem dX9_fitting_9 : decode cX9_fitting 9 = .ok (.iload_n 3, 1) := by decide +kernel
theorem dX9_fitting_10 : decode cX9_fitting 10 = .ok (.sipush 500, 3) := by decide +kernel
theorem dX9_fitting_13 : decode cX9_fitting 13 = .ok (.if_icmp .ge 124, 3) := by decide +kernel
theorem dX9_fitting_16 : decode cX9_fitting 16 = .ok (.aload_n 0, 1) := by decide +kernel
theorem dX9_fitting_17 : decode cX9_fitting 17 = .ok (.iconst 1, 1) := by decide +kernel
theorem dX9_fitting_18 : decode cX9_fitting 18 = .ok (.iload_n 3, 1) := by decide +kernel
theorem dX9_fitting_19 : decode cX9_fitting 19 = .ok (.bipush 100, 2) := by decide +kernel
theorem dX9_fitting_21 : decode cX9_fitting 21 = .ok (.idiv, 1) := by decide +kernel
theorem dX9_fitting_22 : decode cX9_fitting 22 = .ok (.iadd, 1) := by decide +kernel
theorem dX9_fitting_23 : decode cX9_fitting 23 = .ok (.iload_n 3, 1) := by decide +kernel
theorem dX9_fitting_24 : decode cX9_fitting 24 = .ok (.bipush 10, 2) := by decide +kernel
theorem dX9_fitting_26 : decode cX9_fitting 26 = .ok (.idiv, 1) := by decide +kernel
theorem dX9_fitting_27 : decode cX9_fitting 27 = .ok (.bipush 10, 2) := by decide +kernel
theorem dX9_fitting_29 : decode cX9_fitting 29 = .ok (.irem, 1) := by decide +kernel
theorem dX9_fitting_30 : decode cX9_fitting 30 = .ok (.bipush 9, 2) := by decide +kernel
theorem dX9_fitting_32 : decode cX9_fitting 32 = .ok (.iload_n 3, 1) := by decide +kernel
theorem dX9_fitting_33 : decode cX9_fitting 33 = .ok (.bipush 10, 2) := by decide +kernel
theorem dX9_fitting_35 : decode cX9_fitting 35 = .ok (.irem, 1) := by decide +kernel
theorem dX9_fitting_36 : decode cX9_fitting 36 = .ok (.imul, 1) := by decide +kernel
theorem dX9_fitting_37 : decode cX9_fitting 37 = .ok (.bipush 9, 2) := by decide +kernel
theorem dX9_fitting_39 : decode cX9_fitting 39 = .ok (.iadd, 1) := by decide +kernel
theorem dX9_fitting_40 : decode cX9_fitting 40 = .ok (.invokevirtual 307, 3) := by decide +kernel
theorem dX9_fitting_43 : decode cX9_fitting 43 = .ok (.iconst 1, 1) := by decide +kernel
theorem dX9_fitting_44 : decode cX9_fitting 44 = .ok (.istore 4, 2) := by decide +kernel
theorem dX9_fitting_46 : decode cX9_fitting 46 = .ok (.iconst 0, 1) := by decide +kernel
theorem dX9_fitting_47 : decode cX9_fitting 47 = .ok (.istore 5, 2) := by decide +kernel
theorem dX9_fitting_49 : decode cX9_fitting 49 = .ok (.iload 5, 2) := by decide +kernel
theorem dX9_fitting_51 : decode cX9_fitting 51 = .ok (.aload_n 0, 1) := by decide +kernel
theorem dX9_fitting_52 : decode cX9_fitting 52 = .ok (.getfield 9, 3) := by decide +kernel
theorem dX9_fitting_55 : decode cX9_fitting 55 = .ok (.bipush 6, 2) := by decide +kernel
theorem dX9_fitting_57 : decode cX9_fitting 57 = .ok (.iaload, 1) := by decide +kernel
theorem dX9_fitting_58 : decode cX9_fitting 58 = .ok (.if_icmp .ge 36, 3) := by decide +kernel
theorem dX9_fitting_61 : decode cX9_fitting 61 = .ok (.iload 4, 2) := by decide +kernel
theorem dX9_fitting_63 : decode cX9_fitting 63 = .ok (.ifCond .eq 31, 3) := by decide +kernel
theorem dX9_fitting_66 : decode cX9_fitting 66 = .ok (.iload 5, 2) := by decide +kernel
theorem dX9_fitting_68 : decode cX9_fitting 68 = .ok (.iload_n 1, 1) := by decide +kernel
theorem dX9_fitting_69 : decode cX9_fitting 69 = .ok (.if_icmp .eq 12, 3) := by decide +kernel
theorem dX9_fitting_72 : decode cX9_fitting 72 = .ok (.aload_n 0, 1) := by decide +kernel
theorem dX9_fitting_73 : decode cX9_fitting 73 = .ok (.iload 5, 2) := by decide +kernel
theorem dX9_fitting_75 : decode cX9_fitting 75 = .ok (.invokevirtual 310, 3) := by decide +kernel
theorem dX9_fitting_78 : decode cX9_fitting 78 = .ok (.ifCond .eq 7, 3) := by decide +kernel
theorem dX9_fitting_81 : decode cX9_fitting 81 = .ok (.iconst 1, 1) := by decide +kernel
theorem dX9_fitting_82 : decode cX9_fitting 82 = .ok (.goto 4, 3) := by decide +kernel
theorem dX9_fitting_85 : decode cX9_fitting 85 = .ok (.iconst 0, 1) := by decide +kernel
theorem dX9_fitting_86 : decode cX9_fitting 86 = .ok (.istore 4, 2) := by decide +kernel
theorem dX9_fitting_88 : decode cX9_fitting 88 = .ok (.iinc 5 1, 3) := by decide +kernel
theorem dX9_fitting_91 : decode cX9_fitting 91 = .ok (.goto (-42), 3) := by decide +kernel
theorem dX9_fitting_94 : decode cX9_fitting 94 = .ok (.iload_n 2, 1) := by decide +kernel
theorem dX9_fitting_95 : decode cX9_fitting 95 = .ok (.iload 4, 2) := by decide +kernel
theorem dX9_fitting_97 : decode cX9_fitting 97 = .ok (.ifCond .eq 7, 3) := by decide +kernel
theorem dX9_fitting_100 : decode cX9_fitting 100 = .ok (.iconst 1, 1) := by decide +kernel
theorem dX9_fitting_101 : decode cX9_fitting 101 = .ok (.goto 4, 3) := by decide +kernel
theorem dX9_fitting_104 : decode cX9_fitting 104 = .ok (.iconst 0, 1) := by decide +kernel
theorem dX9_fitting_105 : decode cX9_fitting 105 = .ok (.iadd, 1) := by decide +kernel
theorem dX9_fitting_106 : decode cX9_fitting 106 = .ok (.istore_n 2, 1) := by decide +kernel
theorem dX9_fitting_107 : decode cX9_fitting 107 = .ok (.aload_n 0, 1) := by decide +kernel
theorem dX9_fitting_108 : decode cX9_fitting 108 = .ok (.iload 4, 2) := by decide +kernel
theorem dX9_fitting_110 : decode cX9_fitting 110 = .ok (.ifCond .eq 14, 3) := by decide +kernel
theorem dX9_fitting_113 : decode cX9_fitting 113 = .ok (.aload_n 0, 1) := by decide +kernel
theorem dX9_fitting_114 : decode cX9_fitting 114 = .ok (.getfield 304, 3) := by decide +kernel
theorem dX9_fitting_117 : decode cX9_fitting 117 = .ok (.ifCond .ge 7, 3) := by decide +kernel
theorem dX9_fitting_120 : decode cX9_fitting 120 = .ok (.iload_n 3, 1) := by decide +kernel
theorem dX9_fitting_121 : decode cX9_fitting 121 = .ok (.goto 7, 3) := by decide +kernel
theorem dX9_fitting_124 : decode cX9_fitting 124 = .ok (.aload_n 0, 1) := by decide +kernel
theorem dX9_fitting_125 : decode cX9_fitting 125 = .ok (.getfield 304, 3) := by decide +kernel
theorem dX9_fitting_128 : decode cX9_fitting 128 = .ok (.putfield 304, 3) := by decide +kernel
theorem dX9_fitting_131 : decode cX9_fitting 131 = .ok (.iinc 3 1, 3) := by decide +kernel
theorem dX9_fitting_134 : decode cX9_fitting 134 = .ok (.goto (-125), 3) := by decide +kernel
theorem dX9_fitting_137 : decode cX9_fitting 137 = .ok (.iload_n 2, 1) := by decide +kernel
theorem dX9_fitting_138 : decode cX9_fitting 138 = .ok (.ireturn, 1) := by decide +kernel
theorem dX9_lone_0 : decode cX9_lone 0 = .ok (.iload_n 1, 1) := by decide +kernel
theorem dX9_lone_1 : decode cX9_lone 1 = .ok (.iconst 0, 1) := by decide +kernel
theorem dX9_lone_2 : decode cX9_lone 2 = .ok (.iconst 3, 1) := by decide +kernel
theorem dX9_lone_3 : decode cX9_lone 3 = .ok (.invokestatic 71, 3) := by decide +kernel
theorem dX9_lone_6 : decode cX9_lone 6 = .ok (.ifCond .ne 5, 3) := by decide +kernel
theorem dX9_lone_9 : decode cX9_lone 9 = .ok (.iconst (-1), 1) := by decide +kernel
theorem dX9_lone_10 : decode cX9_lone 10 = .ok (.ireturn, 1) := by decide +kernel
theorem dX9_lone_11 : decode cX9_lone 11 = .ok (.aload_n 0, 1) := by decide +kernel
theorem dX9_lone_12 : decode cX9_lone 12 = .ok (.iconst (-1), 1) := by decide +kernel
theorem dX9_lone_13 : decode cX9_lone 13 = .ok (.invokevirtual 313, 3) := by decide +kernel
theorem dX9_lone_16 : decode cX9_lone 16 = .ok (.istore_n 2, 1) := by decide +kernel
theorem dX9_lone_17 : decode cX9_lone 17 = .ok (.iload_n 1, 1) := by decide +kernel
theorem dX9_lone_18 : decode cX9_lone 18 = .ok (.ifCond .le 10, 3) := by decide +kernel
theorem dX9_lone_21 : decode cX9_lone 21 = .ok (.iload_n 2, 1) := by decide +kernel
theorem dX9_lone_22 : decode cX9_lone 22 = .ok (.ifCond .ne 6, 3) := by decide +kernel
theorem dX9_lone_25 : decode cX9_lone 25 = .ok (.bipush (-3), 2) := by decide +kernel
theorem dX9_lone_27 : decode cX9_lone 27 = .ok (.ireturn, 1) := by decide +kernel
theorem dX9_lone_28 : decode cX9_lone 28 = .ok (.iload_n 1, 1) := by decide +kernel
theorem dX9_lone_29 : decode cX9_lone 29 = .ok (.ifCond .ne 7, 3) := by decide +kernel
theorem dX9_lone_32 : decode cX9_lone 32 = .ok (.iload_n 2, 1) := by decide +kernel
theorem dX9_lone_33 : decode cX9_lone 33 = .ok (.goto 51, 3) := by decide +kernel
theorem dX9_lone_36 : decode cX9_lone 36 = .ok (.iload_n 1, 1) := by decide +kernel
theorem dX9_lone_37 : decode cX9_lone 37 = .ok (.iconst 1, 1) := by decide +kernel
theorem dX9_lone_38 : decode cX9_lone 38 = .ok (.if_icmp .ne 15, 3) := by decide +kernel
theorem dX9_lone_41 : decode cX9_lone 41 = .ok (.iconst 1, 1) := by decide +kernel
theorem dX9_lone_42 : decode cX9_lone 42 = .ok (.aload_n 0, 1) := by decide +kernel
theorem dX9_lone_43 : decode cX9_lone 43 = .ok (.getfield 304, 3) := by decide +kernel
theorem dX9_lone_46 : decode cX9_lone 46 = .ok (.bipush 100, 2) := by decide +kernel
theorem dX9_lone_48 : decode cX9_lone 48 = .ok (.idiv, 1) := by decide +kernel
theorem dX9_lone_49 : decode cX9_lone 49 = .ok (.iadd, 1) := by decide +kernel
theorem dX9_lone_50 : decode cX9_lone 50 = .ok (.goto 34, 3) := by decide +kernel
theorem dX9_lone_53 : decode cX9_lone 53 = .ok (.iload_n 1, 1) := by decide +kernel
theorem dX9_lone_54 : decode cX9_lone 54 = .ok (.iconst 2, 1) := by decide +kernel
theorem dX9_lone_55 : decode cX9_lone 55 = .ok (.if_icmp .ne 16, 3) := by decide +kernel
theorem dX9_lone_58 : decode cX9_lone 58 = .ok (.aload_n 0, 1) := by decide +kernel
theorem dX9_lone_59 : decode cX9_lone 59 = .ok (.getfield 304, 3) := by decide +kernel
theorem dX9_lone_62 : decode cX9_lone 62 = .ok (.bipush 10, 2) := by decide +kernel
theorem dX9_lone_64 : decode cX9_lone 64 = .ok (.idiv, 1) := by decide +kernel
theorem dX9_lone_65 : decode cX9_lone 65 = .ok (.bipush 10, 2) := by decide +kernel
theorem dX9_lone_67 : decode cX9_lone 67 = .ok (.irem, 1) := by decide +kernel
theorem dX9_lone_68 : decode cX9_lone 68 = .ok (.goto 16, 3) := by decide +kernel
theorem dX9_lone_71 : decode cX9_lone 71 = .ok (.bipush 9, 2) := by decide +kernel
theorem dX9_lone_73 : decode cX9_lone 73 = .ok (.aload_n 0, 1) := by decide +kernel
theorem dX9_lone_74 : decode cX9_lone 74 = .ok (.getfield 304, 3) := by decide +kernel
theorem dX9_lone_77 : decode cX9_lone 77 = .ok (.bipush 10, 2) := by decide +kernel
theorem dX9_lone_79 : decode cX9_lone 79 = .ok (.irem, 1) := by decide +kernel
theorem dX9_lone_80 : decode cX9_lone 80 = .ok (.imul, 1) := by decide +kernel
theorem dX9_lone_81 : decode cX9_lone 81 = .ok (.bipush 9, 2) := by decide +kernel
theorem dX9_lone_83 : decode cX9_lone 83 = .ok (.iadd, 1) := by decide +kernel
theorem dX9_lone_84 : decode cX9_lone 84 = .ok (.ireturn, 1) := by decide +kernel
theorem dX9_liar_0 : decode cX9_liar 0 = .ok (.aload_n 0, 1) := by decide +kernel
theorem dX9_liar_1 : decode cX9_liar 1 = .ok (.iconst (-1), 1) := by decide +kernel
theorem dX9_liar_2 : decode cX9_liar 2 = .ok (.invokevirtual 313, 3) := by decide +kernel
theorem dX9_liar_5 : decode cX9_liar 5 = .ok (.ifCond .le 6, 3) := by decide +kernel
theorem dX9_liar_8 : decode cX9_liar 8 = .ok (.bipush (-3), 2) := by decide +kernel
theorem dX9_liar_10 : decode cX9_liar 10 = .ok (.ireturn, 1) := by decide +kernel
theorem dX9_liar_11 : decode cX9_liar 11 = .ok (.iconst 0, 1) := by decide +kernel
theorem dX9_liar_12 : decode cX9_liar 12 = .ok (.istore_n 1, 1) := by decide +kernel
theorem dX9_liar_13 : decode cX9_liar 13 = .ok (.iload_n 1, 1) := by decide +kernel
theorem dX9_liar_14 : decode cX9_liar 14 = .ok (.aload_n 0, 1) := by decide +kernel
theorem dX9_liar_15 : decode cX9_liar 15 = .ok (.getfield 9, 3) := by decide +kernel
theorem dX9_liar_18 : decode cX9_liar 18 = .ok (.bipush 6, 2) := by decide +kernel
theorem dX9_liar_20 : decode cX9_liar 20 = .ok (.iaload, 1) := by decide +kernel
theorem dX9_liar_21 : decode cX9_liar 21 = .ok (.if_icmp .ge 19, 3) := by decide +kernel
theorem dX9_liar_24 : decode cX9_liar 24 = .ok (.aload_n 0, 1) := by decide +kernel
theorem dX9_liar_25 : decode cX9_liar 25 = .ok (.iload_n 1, 1) := by decide +kernel
theorem dX9_liar_26 : decode cX9_liar 26 = .ok (.invokevirtual 313, 3) := by decide +kernel
theorem dX9_liar_29 : decode cX9_liar 29 = .ok (.ifCond .le 5, 3) := by decide +kernel
theorem dX9_liar_32 : decode cX9_liar 32 = .ok (.iload_n 1, 1) := by decide +kernel
theorem dX9_liar_33 : decode cX9_liar 33 = .ok (.ireturn, 1) := by decide +kernel
theorem dX9_liar_34 : decode cX9_liar 34 = .ok (.iinc 1 1, 3) := by decide +kernel
theorem dX9_liar_37 : decode cX9_liar 37 = .ok (.goto (-24), 3) := by decide +kernel
theorem dX9_liar_40 : decode cX9_liar 40 = .ok (.bipush (-3), 2) := by decide +kernel
theorem dX9_liar_42 : decode cX9_liar 42 = .ok (.ireturn, 1) := by decide +kernel
theorem dX9_seed_0 : decode cX9_seed 0 = .ok (.aload_n 0, 1) := by decide +kernel
theorem dX9_seed_1 : decode cX9_seed 1 = .ok (.iconst 3, 1) := by decide +kernel
theorem dX9_seed_2 : decode cX9_seed 2 = .ok (.iload_n 1, 1) := by decide +kernel
theorem dX9_seed_3 : decode cX9_seed 3 = .ok (.invokevirtual 229, 3) := by decide +kernel
theorem dX9_seed_6 : decode cX9_seed 6 = .ok (.ireturn, 1) := by decide +kernel
theorem dX9_byLot_0 : decode cX9_byLot 0 = .ok (.aload_n 0, 1) := by decide +kernel
theorem dX9_byLot_1 : decode cX9_byLot 1 = .ok (.getfield 9, 3) := by decide +kernel
theorem dX9_byLot_4 : decode cX9_byLot 4 = .ok (.iconst 3, 1) := by decide +kernel
theorem dX9_byLot_5 : decode cX9_byLot 5 = .ok (.aload_n 0, 1) := by decide +kernel
theorem dX9_byLot_6 : decode cX9_byLot 6 = .ok (.getfield 9, 3) := by decide +kernel
theorem dX9_byLot_9 : decode cX9_byLot 9 = .ok (.iconst 3, 1) := by decide +kernel
theorem dX9_byLot_10 : decode cX9_byLot 10 = .ok (.iaload, 1) := by decide +kernel
theorem dX9_byLot_11 : decode cX9_byLot 11 = .ok (.ldc_w 316, 3) := by decide +kernel
theorem dX9_byLot_14 : decode cX9_byLot 14 = .ok (.imul, 1) := by decide +kernel
theorem dX9_byLot_15 : decode cX9_byLot 15 = .ok (.sipush 12345, 3) := by decide +kernel
theorem dX9_byLot_18 : decode cX9_byLot 18 = .ok (.iadd, 1) := by decide +kernel
theorem dX9_byLot_19 : decode cX9_byLot 19 = .ok (.iastore, 1) := by decide +kernel
theorem dX9_byLot_20 : decode cX9_byLot 20 = .ok (.aload_n 0, 1) := by decide +kernel
theorem dX9_byLot_21 : decode cX9_byLot 21 = .ok (.aload_n 0, 1) := by decide +kernel
theorem dX9_byLot_22 : decode cX9_byLot 22 = .ok (.getfield 9, 3) := by decide +kernel
theorem dX9_byLot_25 : decode cX9_byLot 25 = .ok (.iconst 3, 1) := by decide +kernel
theorem dX9_byLot_26 : decode cX9_byLot 26 = .ok (.iaload, 1) := by decide +kernel
theorem dX9_byLot_27 : decode cX9_byLot 27 = .ok (.bipush 16, 2) := by decide +kernel
theorem dX9_byLot_29 : decode cX9_byLot 29 = .ok (.iushr, 1) := by decide +kernel
theorem dX9_byLot_30 : decode cX9_byLot 30 = .ok (.aload_n 0, 1) := by decide +kernel
theorem dX9_byLot_31 : decode cX9_byLot 31 = .ok (.getfield 9, 3) := by decide +kernel
theorem dX9_byLot_34 : decode cX9_byLot 34 = .ok (.iconst 4, 1) := by decide +kernel
theorem dX9_byLot_35 : decode cX9_byLot 35 = .ok (.iaload, 1) := by decide +kernel
theorem dX9_byLot_36 : decode cX9_byLot 36 = .ok (.iconst 1, 1) := by decide +kernel
theorem dX9_byLot_37 : decode cX9_byLot 37 = .ok (.iadd, 1) := by decide +kernel
theorem dX9_byLot_38 : decode cX9_byLot 38 = .ok (.irem, 1) := by decide +kernel
theorem dX9_byLot_39 : decode cX9_byLot 39 = .ok (.invokevirtual 238, 3) := by decide +kernel
theorem dX9_byLot_42 : decode cX9_byLot 42 = .ok (.ireturn, 1) := by decide +kernel
theorem dX9_lot_0 : decode cX9_lot 0 = .ok (.aload_n 0, 1) := by decide +kernel
theorem dX9_lot_1 : decode cX9_lot 1 = .ok (.invokevirtual 232, 3) := by decide +kernel
theorem dX9_lot_4 : decode cX9_lot 4 = .ok (.ifCond .eq 8, 3) := by decide +kernel
theorem dX9_lot_7 : decode cX9_lot 7 = .ok (.bipush (-4), 2) := by decide +kernel
theorem dX9_lot_9 : decode cX9_lot 9 = .ok (.goto 7, 3) := by decide +kernel
theorem dX9_lot_12 : decode cX9_lot 12 = .ok (.aload_n 0, 1) := by decide +kernel
theorem dX9_lot_13 : decode cX9_lot 13 = .ok (.invokevirtual 317, 3) := by decide +kernel
theorem dX9_lot_16 : decode cX9_lot 16 = .ok (.ireturn, 1) := by decide +kernel
theorem dX9_times_0 : decode cX9_times 0 = .ok (.iload_n 1, 1) := by decide +kernel
theorem dX9_times_1 : decode cX9_times 1 = .ok (.iconst 1, 1) := by decide +kernel
theorem dX9_times_2 : decode cX9_times 2 = .ok (.bipush 40, 2) := by decide +kernel
theorem dX9_times_4 : decode cX9_times 4 = .ok (.invokestatic 71, 3) := by decide +kernel
theorem dX9_times_7 : decode cX9_times 7 = .ok (.ifCond .eq 14, 3) := by decide +kernel
theorem dX9_times_10 : decode cX9_times 10 = .ok (.iload_n 2, 1) := by decide +kernel
theorem dX9_times_11 : decode cX9_times 11 = .ok (.iconst 0, 1) := by decide +kernel
theorem dX9_times_12 : decode cX9_times 12 = .ok (.sipush 999, 3) := by decide +kernel
theorem dX9_times_15 : decode cX9_times 15 = .ok (.invokestatic 71, 3) := by decide +kernel
theorem dX9_times_18 : decode cX9_times 18 = .ok (.ifCond .ne 5, 3) := by decide +kernel
theorem dX9_times_21 : decode cX9_times 21 = .ok (.iconst (-1), 1) := by decide +kernel
theorem dX9_times_22 : decode cX9_times 22 = .ok (.ireturn, 1) := by decide +kernel
theorem dX9_times_23 : decode cX9_times 23 = .ok (.aload_n 0, 1) := by decide +kernel
theorem dX9_times_24 : decode cX9_times 24 = .ok (.invokevirtual 241, 3) := by decide +kernel
theorem dX9_times_27 : decode cX9_times 27 = .ok (.iconst 0, 1) := by decide +kernel
theorem dX9_times_28 : decode cX9_times 28 = .ok (.istore_n 3, 1) := by decide +kernel
theorem dX9_times_29 : decode cX9_times 29 = .ok (.iconst 0, 1) := by decide +kernel
theorem dX9_times_30 : decode cX9_times 30 = .ok (.istore 4, 2) := by decide +kernel
theorem dX9_times_32 : decode cX9_times 32 = .ok (.iload 4, 2) := by decide +kernel
theorem dX9_times_34 : decode cX9_times 34 = .ok (.iload_n 1, 1) := by decide +kernel
theorem dX9_times_35 : decode cX9_times 35 = .ok (.if_icmp .ge 65, 3) := by decide +kernel
theorem dX9_times_38 : decode cX9_times 38 = .ok (.iconst 0, 1) := by decide +kernel
theorem dX9_times_39 : decode cX9_times 39 = .ok (.istore 5, 2) := by decide +kernel
theorem dX9_times_41 : decode cX9_times 41 = .ok (.aload_n 0, 1) := by decide +kernel
theorem dX9_times_42 : decode cX9_times 42 = .ok (.invokevirtual 232, 3) := by decide +kernel
theorem dX9_times_45 : decode cX9_times 45 = .ok (.ifCond .ne 15, 3) := by decide +kernel
theorem dX9_times_48 : decode cX9_times 48 = .ok (.iload 5, 2) := by decide +kernel
theorem dX9_times_50 : decode cX9_times 50 = .ok (.aload_n 0, 1) := by decide +kernel
theorem dX9_times_51 : decode cX9_times 51 = .ok (.invokevirtual 317, 3) := by decide +kernel
theorem dX9_times_54 : decode cX9_times 54 = .ok (.iadd, 1) := by decide +kernel
theorem dX9_times_55 : decode cX9_times 55 = .ok (.istore 5, 2) := by decide +kernel
theorem dX9_times_57 : decode cX9_times 57 = .ok (.goto (-16), 3) := by decide +kernel
theorem dX9_times_60 : decode cX9_times 60 = .ok (.iload_n 3, 1) := by decide +kernel
theorem dX9_times_61 : decode cX9_times 61 = .ok (.iload 5, 2) := by decide +kernel
theorem dX9_times_63 : decode cX9_times 63 = .ok (.iload_n 2, 1) := by decide +kernel
theorem dX9_times_64 : decode cX9_times 64 = .ok (.if_icmp .lt 7, 3) := by decide +kernel
theorem dX9_times_67 : decode cX9_times 67 = .ok (.iconst 1, 1) := by decide +kernel
theorem dX9_times_68 : decode cX9_times 68 = .ok (.goto 4, 3) := by decide +kernel
theorem dX9_times_71 : decode cX9_times 71 = .ok (.iconst 0, 1) := by decide +kernel
theorem dX9_times_72 : decode cX9_times 72 = .ok (.iadd, 1) := by decide +kernel
theorem dX9_times_73 : decode cX9_times 73 = .ok (.istore_n 3, 1) := by decide +kernel
theorem dX9_times_74 : decode cX9_times 74 = .ok (.aload_n 0, 1) := by decide +kernel
theorem dX9_times_75 : decode cX9_times 75 = .ok (.getfield 9, 3) := by decide +kernel
theorem dX9_times_78 : decode cX9_times 78 = .ok (.iconst 3, 1) := by decide +kernel
theorem dX9_times_79 : decode cX9_times 79 = .ok (.iaload, 1) := by decide +kernel
theorem dX9_times_80 : decode cX9_times 80 = .ok (.istore 6, 2) := by decide +kernel
theorem dX9_times_82 : decode cX9_times 82 = .ok (.aload_n 0, 1) := by decide +kernel
theorem dX9_times_83 : decode cX9_times 83 = .ok (.invokevirtual 247, 3) := by decide +kernel
theorem dX9_times_86 : decode cX9_times 86 = .ok (.aload_n 0, 1) := by decide +kernel
theorem dX9_times_87 : decode cX9_times 87 = .ok (.getfield 9, 3) := by decide +kernel
theorem dX9_times_90 : decode cX9_times 90 = .ok (.iconst 3, 1) := by decide +kernel
theorem dX9_times_91 : decode cX9_times 91 = .ok (.iload 6, 2) := by decide +kernel
theorem dX9_times_93 : decode cX9_times 93 = .ok (.iastore, 1) := by decide +kernel
theorem dX9_times_94 : decode cX9_times 94 = .ok (.iinc 4 1, 3) := by decide +kernel
theorem dX9_times_97 : decode cX9_times 97 = .ok (.goto (-65), 3) := by decide +kernel
theorem dX9_times_100 : decode cX9_times 100 = .ok (.aload_n 0, 1) := by decide +kernel
theorem dX9_times_101 : decode cX9_times 101 = .ok (.invokevirtual 247, 3) := by decide +kernel
theorem dX9_times_104 : decode cX9_times 104 = .ok (.iload_n 3, 1) := by decide +kernel
theorem dX9_times_105 : decode cX9_times 105 = .ok (.ireturn, 1) := by decide +kernel
theorem dX9_prove_0 : decode cX9_prove 0 = .ok (.iload_n 1, 1) := by decide +kernel
theorem dX9_prove_1 : decode cX9_prove 1 = .ok (.invokestatic 291, 3) := by decide +kernel
theorem dX9_prove_4 : decode cX9_prove 4 = .ok (.ifCond .ne 5, 3) := by decide +kernel
theorem dX9_prove_7 : decode cX9_prove 7 = .ok (.iconst (-1), 1) := by decide +kernel
theorem dX9_prove_8 : decode cX9_prove 8 = .ok (.ireturn, 1) := by decide +kernel
theorem dX9_prove_9 : decode cX9_prove 9 = .ok (.aload_n 0, 1) := by decide +kernel
theorem dX9_prove_10 : decode cX9_prove 10 = .ok (.iload_n 1, 1) := by decide +kernel
theorem dX9_prove_11 : decode cX9_prove 11 = .ok (.iconst 0, 1) := by decide +kernel
theorem dX9_prove_12 : decode cX9_prove 12 = .ok (.invokevirtual 294, 3) := by decide +kernel
theorem dX9_prove_15 : decode cX9_prove 15 = .ok (.aload_n 0, 1) := by decide +kernel
theorem dX9_prove_16 : decode cX9_prove 16 = .ok (.aload_n 0, 1) := by decide +kernel
theorem dX9_prove_17 : decode cX9_prove 17 = .ok (.iload_n 1, 1) := by decide +kernel
theorem dX9_prove_18 : decode cX9_prove 18 = .ok (.invokevirtual 288, 3) := by decide +kernel
theorem dX9_prove_21 : decode cX9_prove 21 = .ok (.putfield 320, 3) := by decide +kernel
theorem dX9_prove_24 : decode cX9_prove 24 = .ok (.aload_n 0, 1) := by decide +kernel
theorem dX9_prove_25 : decode cX9_prove 25 = .ok (.invokevirtual 241, 3) := by decide +kernel
theorem dX9_prove_28 : decode cX9_prove 28 = .ok (.iconst 0, 1) := by decide +kernel
theorem dX9_prove_29 : decode cX9_prove 29 = .ok (.istore_n 2, 1) := by decide +kernel
theorem dX9_prove_30 : decode cX9_prove 30 = .ok (.iload_n 2, 1) := by decide +kernel
theorem dX9_prove_31 : decode cX9_prove 31 = .ok (.aload_n 0, 1) := by decide +kernel
theorem dX9_prove_32 : decode cX9_prove 32 = .ok (.getfield 320, 3) := by decide +kernel
theorem dX9_prove_35 : decode cX9_prove 35 = .ok (.if_icmp .ge 58, 3) := by decide +kernel
theorem dX9_prove_38 : decode cX9_prove 38 = .ok (.aload_n 0, 1) := by decide +kernel
theorem dX9_prove_39 : decode cX9_prove 39 = .ok (.getfield 50, 3) := by decide +kernel
theorem dX9_prove_42 : decode cX9_prove 42 = .ok (.iconst 3, 1) := by decide +kernel
theorem dX9_prove_43 : decode cX9_prove 43 = .ok (.iload_n 2, 1) := by decide +kernel
theorem dX9_prove_44 : decode cX9_prove 44 = .ok (.imul, 1) := by decide +kernel
theorem dX9_prove_45 : decode cX9_prove 45 = .ok (.aload_n 0, 1) := by decide +kernel
theorem dX9_prove_46 : decode cX9_prove 46 = .ok (.getfield 41, 3) := by decide +kernel
theorem dX9_prove_49 : decode cX9_prove 49 = .ok (.iload_n 2, 1) := by decide +kernel
theorem dX9_prove_50 : decode cX9_prove 50 = .ok (.iaload, 1) := by decide +kernel
theorem dX9_prove_51 : decode cX9_prove 51 = .ok (.iastore, 1) := by decide +kernel
theorem dX9_prove_52 : decode cX9_prove 52 = .ok (.aload_n 0, 1) := by decide +kernel
theorem dX9_prove_53 : decode cX9_prove 53 = .ok (.getfield 50, 3) := by decide +kernel
theorem dX9_prove_56 : decode cX9_prove 56 = .ok (.iconst 3, 1) := by decide +kernel
theorem dX9_prove_57 : decode cX9_prove 57 = .ok (.iload_n 2, 1) := by decide +kernel
theorem dX9_prove_58 : decode cX9_prove 58 = .ok (.imul, 1) := by decide +kernel
theorem dX9_prove_59 : decode cX9_prove 59 = .ok (.iconst 1, 1) := by decide +kernel
theorem dX9_prove_60 : decode cX9_prove 60 = .ok (.iadd, 1) := by decide +kernel
theorem dX9_prove_61 : decode cX9_prove 61 = .ok (.aload_n 0, 1) := by decide +kernel
theorem dX9_prove_62 : decode cX9_prove 62 = .ok (.aload_n 0, 1) := by decide +kernel
theorem dX9_prove_63 : decode cX9_prove 63 = .ok (.getfield 41, 3) := by decide +kernel
theorem dX9_prove_66 : decode cX9_prove 66 = .ok (.iload_n 2, 1) := by decide +kernel
theorem dX9_prove_67 : decode cX9_prove 67 = .ok (.iaload, 1) := by decide +kernel
theorem dX9_prove_68 : decode cX9_prove 68 = .ok (.invokevirtual 238, 3) := by decide +kernel
theorem dX9_prove_71 : decode cX9_prove 71 = .ok (.iastore, 1) := by decide +kernel
theorem dX9_prove_72 : decode cX9_prove 72 = .ok (.aload_n 0, 1) := by decide +kernel
theorem dX9_prove_73 : decode cX9_prove 73 = .ok (.getfield 50, 3) := by decide +kernel
theorem dX9_prove_76 : decode cX9_prove 76 = .ok (.iconst 3, 1) := by decide +kernel
theorem dX9_prove_77 : decode cX9_prove 77 = .ok (.iload_n 2, 1) := by decide +kernel
theorem dX9_prove_78 : decode cX9_prove 78 = .ok (.imul, 1) := by decide +kernel
theorem dX9_prove_79 : decode cX9_prove 79 = .ok (.iconst 2, 1) := by decide +kernel
theorem dX9_prove_80 : decode cX9_prove 80 = .ok (.iadd, 1) := by decide +kernel
theorem dX9_prove_81 : decode cX9_prove 81 = .ok (.aload_n 0, 1) := by decide +kernel
theorem dX9_prove_82 : decode cX9_prove 82 = .ok (.iconst 4, 1) := by decide +kernel
theorem dX9_prove_83 : decode cX9_prove 83 = .ok (.invokevirtual 235, 3) := by decide +kernel
theorem dX9_prove_86 : decode cX9_prove 86 = .ok (.iastore, 1) := by decide +kernel
theorem dX9_prove_87 : decode cX9_prove 87 = .ok (.iinc 2 1, 3) := by decide +kernel
theorem dX9_prove_90 : decode cX9_prove 90 = .ok (.goto (-60), 3) := by decide +kernel
theorem dX9_prove_93 : decode cX9_prove 93 = .ok (.aload_n 0, 1) := by decide +kernel
theorem dX9_prove_94 : decode cX9_prove 94 = .ok (.invokevirtual 247, 3) := by decide +kernel
theorem dX9_prove_97 : decode cX9_prove 97 = .ok (.aload_n 0, 1) := by decide +kernel
theorem dX9_prove_98 : decode cX9_prove 98 = .ok (.getfield 320, 3) := by decide +kernel
theorem dX9_prove_101 : decode cX9_prove 101 = .ok (.ireturn, 1) := by decide +kernel
theorem dX9_isRow_0 : decode cX9_isRow 0 = .ok (.iload_n 1, 1) := by decide +kernel
theorem dX9_isRow_1 : decode cX9_isRow 1 = .ok (.iconst 0, 1) := by decide +kernel
theorem dX9_isRow_2 : decode cX9_isRow 2 = .ok (.aload_n 0, 1) := by decide +kernel
theorem dX9_isRow_3 : decode cX9_isRow 3 = .ok (.getfield 320, 3) := by decide +kernel
theorem dX9_isRow_6 : decode cX9_isRow 6 = .ok (.iconst 1, 1) := by decide +kernel
theorem dX9_isRow_7 : decode cX9_isRow 7 = .ok (.isub, 1) := by decide +kernel
theorem dX9_isRow_8 : decode cX9_isRow 8 = .ok (.invokestatic 71, 3) := by decide +kernel
theorem dX9_isRow_11 : decode cX9_isRow 11 = .ok (.ifCond .eq 16, 3) := by decide +kernel
theorem dX9_isRow_14 : decode cX9_isRow 14 = .ok (.iload_n 2, 1) := by decide +kernel
theorem dX9_isRow_15 : decode cX9_isRow 15 = .ok (.iconst 0, 1) := by decide +kernel
theorem dX9_isRow_16 : decode cX9_isRow 16 = .ok (.iconst 2, 1) := by decide +kernel
theorem dX9_isRow_17 : decode cX9_isRow 17 = .ok (.invokestatic 71, 3) := by decide +kernel
theorem dX9_isRow_20 : decode cX9_isRow 20 = .ok (.ifCond .eq 7, 3) := by decide +kernel
theorem dX9_isRow_23 : decode cX9_isRow 23 = .ok (.iconst 1, 1) := by decide +kernel
theorem dX9_isRow_24 : decode cX9_isRow 24 = .ok (.goto 4, 3) := by decide +kernel
theorem dX9_isRow_27 : decode cX9_isRow 27 = .ok (.iconst 0, 1) := by decide +kernel
theorem dX9_isRow_28 : decode cX9_isRow 28 = .ok (.ireturn, 1) := by decide +kernel
theorem dX9_row_0 : decode cX9_row 0 = .ok (.aload_n 0, 1) := by decide +kernel
theorem dX9_row_1 : decode cX9_row 1 = .ok (.iload_n 1, 1) := by decide +kernel
theorem dX9_row_2 : decode cX9_row 2 = .ok (.iload_n 2, 1) := by decide +kernel
theorem dX9_row_3 : decode cX9_row 3 = .ok (.invokevirtual 323, 3) := by decide +kernel
theorem dX9_row_6 : decode cX9_row 6 = .ok (.ifCond .eq 16, 3) := by decide +kernel
theorem dX9_row_9 : decode cX9_row 9 = .ok (.aload_n 0, 1) := by decide +kernel
theorem dX9_row_10 : decode cX9_row 10 = .ok (.getfield 50, 3) := by decide +kernel
theorem dX9_row_13 : decode cX9_row 13 = .ok (.iconst 3, 1) := by decide +kernel
theorem dX9_row_14 : decode cX9_row 14 = .ok (.iload_n 1, 1) := by decide +kernel
theorem dX9_row_15 : decode cX9_row 15 = .ok (.imul, 1) := by decide +kernel
theorem dX9_row_16 : decode cX9_row 16 = .ok (.iload_n 2, 1) := by decide +kernel
theorem dX9_row_17 : decode cX9_row 17 = .ok (.iadd, 1) := by decide +kernel
theorem dX9_row_18 : decode cX9_row 18 = .ok (.iaload, 1) := by decide +kernel
theorem dX9_row_19 : decode cX9_row 19 = .ok (.goto 5, 3) := by decide +kernel
theorem dX9_row_22 : decode cX9_row 22 = .ok (.bipush (-9), 2) := by decide +kernel
theorem dX9_row_24 : decode cX9_row 24 = .ok (.ireturn, 1) := by decide +kernel
theorem dX9_alterRow_0 : decode cX9_alterRow 0 = .ok (.aload_n 0, 1) := by decide +kernel
theorem dX9_alterRow_1 : decode cX9_alterRow 1 = .ok (.iload_n 1, 1) := by decide +kernel
theorem dX9_alterRow_2 : decode cX9_alterRow 2 = .ok (.iload_n 2, 1) := by decide +kernel
theorem dX9_alterRow_3 : decode cX9_alterRow 3 = .ok (.invokevirtual 323, 3) := by decide +kernel
theorem dX9_alterRow_6 : decode cX9_alterRow 6 = .ok (.ifCond .ne 6, 3) := by decide +kernel
theorem dX9_alterRow_9 : decode cX9_alterRow 9 = .ok (.bipush (-9), 2) := by decide +kernel
theorem dX9_alterRow_11 : decode cX9_alterRow 11 = .ok (.ireturn, 1) := by decide +kernel
theorem dX9_alterRow_12 : decode cX9_alterRow 12 = .ok (.aload_n 0, 1) := by decide +kernel
theorem dX9_alterRow_13 : decode cX9_alterRow 13 = .ok (.getfield 50, 3) := by decide +kernel
theorem dX9_alterRow_16 : decode cX9_alterRow 16 = .ok (.iconst 3, 1) := by decide +kernel
theorem dX9_alterRow_17 : decode cX9_alterRow 17 = .ok (.iload_n 1, 1) := by decide +kernel
theorem dX9_alterRow_18 : decode cX9_alterRow 18 = .ok (.imul, 1) := by decide +kernel
theorem dX9_alterRow_19 : decode cX9_alterRow 19 = .ok (.iload_n 2, 1) := by decide +kernel
theorem dX9_alterRow_20 : decode cX9_alterRow 20 = .ok (.iadd, 1) := by decide +kernel
theorem dX9_alterRow_21 : decode cX9_alterRow 21 = .ok (.iaload, 1) := by decide +kernel
theorem dX9_alterRow_22 : decode cX9_alterRow 22 = .ok (.istore 4, 2) := by decide +kernel
theorem dX9_alterRow_24 : decode cX9_alterRow 24 = .ok (.aload_n 0, 1) := by decide +kernel
theorem dX9_alterRow_25 : decode cX9_alterRow 25 = .ok (.getfield 50, 3) := by decide +kernel
theorem dX9_alterRow_28 : decode cX9_alterRow 28 = .ok (.iconst 3, 1) := by decide +kernel
theorem dX9_alterRow_29 : decode cX9_alterRow 29 = .ok (.iload_n 1, 1) := by decide +kernel
theorem dX9_alterRow_30 : decode cX9_alterRow 30 = .ok (.imul, 1) := by decide +kernel
theorem dX9_alterRow_31 : decode cX9_alterRow 31 = .ok (.iload_n 2, 1) := by decide +kernel
theorem dX9_alterRow_32 : decode cX9_alterRow 32 = .ok (.iadd, 1) := by decide +kernel
theorem dX9_alterRow_33 : decode cX9_alterRow 33 = .ok (.iload_n 3, 1) := by decide +kernel
theorem dX9_alterRow_34 : decode cX9_alterRow 34 = .ok (.iastore, 1) := by decide +kernel
theorem dX9_alterRow_35 : decode cX9_alterRow 35 = .ok (.iload 4, 2) := by decide +kernel
theorem dX9_alterRow_37 : decode cX9_alterRow 37 = .ok (.ireturn, 1) := by decide +kernel
theorem dX9_judge_0 : decode cX9_judge 0 = .ok (.aload_n 0, 1) := by decide +kernel
theorem dX9_judge_1 : decode cX9_judge 1 = .ok (.invokevirtual 241, 3) := by decide +kernel
theorem dX9_judge_4 : decode cX9_judge 4 = .ok (.iconst 0, 1) := by decide +kernel
theorem dX9_judge_5 : decode cX9_judge 5 = .ok (.istore_n 1, 1) := by decide +kernel
theorem dX9_judge_6 : decode cX9_judge 6 = .ok (.iconst 0, 1) := by decide +kernel
theorem dX9_judge_7 : decode cX9_judge 7 = .ok (.istore_n 2, 1) := by decide +kernel
theorem dX9_judge_8 : decode cX9_judge 8 = .ok (.iload_n 2, 1) := by decide +kernel
theorem dX9_judge_9 : decode cX9_judge 9 = .ok (.aload_n 0, 1) := by decide +kernel
theorem dX9_judge_10 : decode cX9_judge 10 = .ok (.getfield 320, 3) := by decide +kernel
theorem dX9_judge_13 : decode cX9_judge 13 = .ok (.if_icmp .ge 120, 3) := by decide +kernel
theorem dX9_judge_16 : decode cX9_judge 16 = .ok (.iload_n 1, 1) := by decide +kernel
theorem dX9_judge_17 : decode cX9_judge 17 = .ok (.ifCond .ne 116, 3) := by decide +kernel
theorem dX9_judge_20 : decode cX9_judge 20 = .ok (.aload_n 0, 1) := by decide +kernel
theorem dX9_judge_21 : decode cX9_judge 21 = .ok (.aload_n 0, 1) := by decide +kernel
theorem dX9_judge_22 : decode cX9_judge 22 = .ok (.getfield 50, 3) := by decide +kernel
theorem dX9_judge_25 : decode cX9_judge 25 = .ok (.iconst 3, 1) := by decide +kernel
theorem dX9_judge_26 : decode cX9_judge 26 = .ok (.iload_n 2, 1) := by decide +kernel
theorem dX9_judge_27 : decode cX9_judge 27 = .ok (.imul, 1) := by decide +kernel
theorem dX9_judge_28 : decode cX9_judge 28 = .ok (.iaload, 1) := by decide +kernel
theorem dX9_judge_29 : decode cX9_judge 29 = .ok (.invokevirtual 326, 3) := by decide +kernel
theorem dX9_judge_32 : decode cX9_judge 32 = .ok (.ifCond .eq 14, 3) := by decide +kernel
theorem dX9_judge_35 : decode cX9_judge 35 = .ok (.aload_n 0, 1) := by decide +kernel
theorem dX9_judge_36 : decode cX9_judge 36 = .ok (.invokevirtual 232, 3) := by decide +kernel
theorem dX9_judge_39 : decode cX9_judge 39 = .ok (.ifCond .ne 7, 3) := by decide +kernel
theorem dX9_judge_42 : decode cX9_judge 42 = .ok (.iconst 1, 1) := by decide +kernel
theorem dX9_judge_43 : decode cX9_judge 43 = .ok (.goto 4, 3) := by decide +kernel
theorem dX9_judge_46 : decode cX9_judge 46 = .ok (.iconst 0, 1) := by decide +kernel
theorem dX9_judge_47 : decode cX9_judge 47 = .ok (.istore_n 3, 1) := by decide +kernel
theorem dX9_judge_48 : decode cX9_judge 48 = .ok (.iload_n 3, 1) := by decide +kernel
theorem dX9_judge_49 : decode cX9_judge 49 = .ok (.ifCond .eq 18, 3) := by decide +kernel
theorem dX9_judge_52 : decode cX9_judge 52 = .ok (.aload_n 0, 1) := by decide +kernel
theorem dX9_judge_53 : decode cX9_judge 53 = .ok (.aload_n 0, 1) := by decide +kernel
theorem dX9_judge_54 : decode cX9_judge 54 = .ok (.getfield 50, 3) := by decide +kernel
theorem dX9_judge_57 : decode cX9_judge 57 = .ok (.iconst 3, 1) := by decide +kernel
theorem dX9_judge_58 : decode cX9_judge 58 = .ok (.iload_n 2, 1) := by decide +kernel
theorem dX9_judge_59 : decode cX9_judge 59 = .ok (.imul, 1) := by decide +kernel
theorem dX9_judge_60 : decode cX9_judge 60 = .ok (.iaload, 1) := by decide +kernel
theorem dX9_judge_61 : decode cX9_judge 61 = .ok (.invokevirtual 238, 3) := by decide +kernel
theorem dX9_judge_64 : decode cX9_judge 64 = .ok (.goto 4, 3) := by decide +kernel
theorem dX9_judge_67 : decode cX9_judge 67 = .ok (.iconst 0, 1) := by decide +kernel
theorem dX9_judge_68 : decode cX9_judge 68 = .ok (.istore 4, 2) := by decide +kernel
theorem dX9_judge_70 : decode cX9_judge 70 = .ok (.iload_n 3, 1) := by decide +kernel
theorem dX9_judge_71 : decode cX9_judge 71 = .ok (.ifCond .eq 40, 3) := by decide +kernel
theorem dX9_judge_74 : decode cX9_judge 74 = .ok (.iload 4, 2) := by decide +kernel
theorem dX9_judge_76 : decode cX9_judge 76 = .ok (.aload_n 0, 1) := by decide +kernel
theorem dX9_judge_77 : decode cX9_judge 77 = .ok (.getfield 50, 3) := by decide +kernel
theorem dX9_judge_80 : decode cX9_judge 80 = .ok (.iconst 3, 1) := by decide +kernel
theorem dX9_judge_81 : decode cX9_judge 81 = .ok (.iload_n 2, 1) := by decide +kernel
theorem dX9_judge_82 : decode cX9_judge 82 = .ok (.imul, 1) := by decide +kernel
theorem dX9_judge_83 : decode cX9_judge 83 = .ok (.iconst 1, 1) := by decide +kernel
theorem dX9_judge_84 : decode cX9_judge 84 = .ok (.iadd, 1) := by decide +kernel
theorem dX9_judge_85 : decode cX9_judge 85 = .ok (.iaload, 1) := by decide +kernel
theorem dX9_judge_86 : decode cX9_judge 86 = .ok (.if_icmp .ne 25, 3) := by decide +kernel
theorem dX9_judge_89 : decode cX9_judge 89 = .ok (.aload_n 0, 1) := by decide +kernel
theorem dX9_judge_90 : decode cX9_judge 90 = .ok (.iconst 4, 1) := by decide +kernel
theorem dX9_judge_91 : decode cX9_judge 91 = .ok (.invokevirtual 235, 3) := by decide +kernel
theorem dX9_judge_94 : decode cX9_judge 94 = .ok (.aload_n 0, 1) := by decide +kernel
theorem dX9_judge_95 : decode cX9_judge 95 = .ok (.getfield 50, 3) := by decide +kernel
theorem dX9_judge_98 : decode cX9_judge 98 = .ok (.iconst 3, 1) := by decide +kernel
theorem dX9_judge_99 : decode cX9_judge 99 = .ok (.iload_n 2, 1) := by decide +kernel
theorem dX9_judge_100 : decode cX9_judge 100 = .ok (.imul, 1) := by decide +kernel
theorem dX9_judge_101 : decode cX9_judge 101 = .ok (.iconst 2, 1) := by decide +kernel
theorem dX9_judge_102 : decode cX9_judge 102 = .ok (.iadd, 1) := by decide +kernel
theorem dX9_judge_103 : decode cX9_judge 103 = .ok (.iaload, 1) := by decide +kernel
theorem dX9_judge_104 : decode cX9_judge 104 = .ok (.if_icmp .ne 7, 3) := by decide +kernel
theorem dX9_judge_107 : decode cX9_judge 107 = .ok (.iconst 1, 1) := by decide +kernel
theorem dX9_judge_108 : decode cX9_judge 108 = .ok (.goto 4, 3) := by decide +kernel
theorem dX9_judge_111 : decode cX9_judge 111 = .ok (.iconst 0, 1) := by decide +kernel
theorem dX9_judge_112 : decode cX9_judge 112 = .ok (.istore 5, 2) := by decide +kernel
theorem dX9_judge_114 : decode cX9_judge 114 = .ok (.iload 5, 2) := by decide +kernel
theorem dX9_judge_116 : decode cX9_judge 116 = .ok (.ifCond .eq 7, 3) := by decide +kernel
theorem dX9_judge_119 : decode cX9_judge 119 = .ok (.iconst 0, 1) := by decide +kernel
theorem dX9_judge_120 : decode cX9_judge 120 = .ok (.goto 6, 3) := by decide +kernel
theorem dX9_judge_123 : decode cX9_judge 123 = .ok (.iconst 1, 1) := by decide +kernel
theorem dX9_judge_124 : decode cX9_judge 124 = .ok (.iload_n 2, 1) := by decide +kernel
theorem dX9_judge_125 : decode cX9_judge 125 = .ok (.iadd, 1) := by decide +kernel
theorem dX9_judge_126 : decode cX9_judge 126 = .ok (.istore_n 1, 1) := by decide +kernel
theorem dX9_judge_127 : decode cX9_judge 127 = .ok (.iinc 2 1, 3) := by decide +kernel
theorem dX9_judge_130 : decode cX9_judge 130 = .ok (.goto (-122), 3) := by decide +kernel
theorem dX9_judge_133 : decode cX9_judge 133 = .ok (.aload_n 0, 1) := by decide +kernel
theorem dX9_judge_134 : decode cX9_judge 134 = .ok (.invokevirtual 247, 3) := by decide +kernel
theorem dX9_judge_137 : decode cX9_judge 137 = .ok (.iload_n 1, 1) := by decide +kernel
theorem dX9_judge_138 : decode cX9_judge 138 = .ok (.ireturn, 1) := by decide +kernel
theorem dX9_isSheet_0 : decode cX9_isSheet 0 = .ok (.iload_n 0, 1) := by decide +kernel
theorem dX9_isSheet_1 : decode cX9_isSheet 1 = .ok (.iconst 0, 1) := by decide +kernel
theorem dX9_isSheet_2 : decode cX9_isSheet 2 = .ok (.iconst 3, 1) := by decide +kernel
theorem dX9_isSheet_3 : decode cX9_isSheet 3 = .ok (.invokestatic 71, 3) := by decide +kernel
theorem dX9_isSheet_6 : decode cX9_isSheet 6 = .ok (.ireturn, 1) := by decide +kernel
theorem dX9_sheet_0 : decode cX9_sheet 0 = .ok (.iload_n 1, 1) := by decide +kernel
theorem dX9_sheet_1 : decode cX9_sheet 1 = .ok (.invokestatic 329, 3) := by decide +kernel
theorem dX9_sheet_4 : decode cX9_sheet 4 = .ok (.ifCond .eq 22, 3) := by decide +kernel
theorem dX9_sheet_7 : decode cX9_sheet 7 = .ok (.iload_n 2, 1) := by decide +kernel
theorem dX9_sheet_8 : decode cX9_sheet 8 = .ok (.iconst (-1), 1) := by decide +kernel
theorem dX9_sheet_9 : decode cX9_sheet 9 = .ok (.iconst 4, 1) := by decide +kernel
theorem dX9_sheet_10 : decode cX9_sheet 10 = .ok (.invokestatic 71, 3) := by decide +kernel
theorem dX9_sheet_13 : decode cX9_sheet 13 = .ok (.ifCond .eq 13, 3) := by decide +kernel
theorem dX9_sheet_16 : decode cX9_sheet 16 = .ok (.iload_n 2, 1) := by decide +kernel
theorem dX9_sheet_17 : decode cX9_sheet 17 = .ok (.ifCond .lt 11, 3) := by decide +kernel
theorem dX9_sheet_20 : decode cX9_sheet 20 = .ok (.iload_n 3, 1) := by decide +kernel
theorem dX9_sheet_21 : decode cX9_sheet 21 = .ok (.bipush 40, 2) := by decide +kernel
theorem dX9_sheet_23 : decode cX9_sheet 23 = .ok (.if_icmp .le 5, 3) := by decide +kernel
theorem dX9_sheet_26 : decode cX9_sheet 26 = .ok (.iconst (-1), 1) := by decide +kernel
theorem dX9_sheet_27 : decode cX9_sheet 27 = .ok (.ireturn, 1) := by decide +kernel
theorem dX9_sheet_28 : decode cX9_sheet 28 = .ok (.iload_n 2, 1) := by decide +kernel
theorem dX9_sheet_29 : decode cX9_sheet 29 = .ok (.ifCond .lt 10, 3) := by decide +kernel
theorem dX9_sheet_32 : decode cX9_sheet 32 = .ok (.iload_n 3, 1) := by decide +kernel
theorem dX9_sheet_33 : decode cX9_sheet 33 = .ok (.ifCond .ge 6, 3) := by decide +kernel
theorem dX9_sheet_36 : decode cX9_sheet 36 = .ok (.bipush (-14), 2) := by decide +kernel
theorem dX9_sheet_38 : decode cX9_sheet 38 = .ok (.ireturn, 1) := by decide +kernel
theorem dX9_sheet_39 : decode cX9_sheet 39 = .ok (.aload_n 0, 1) := by decide +kernel
theorem dX9_sheet_40 : decode cX9_sheet 40 = .ok (.getfield 53, 3) := by decide +kernel
theorem dX9_sheet_43 : decode cX9_sheet 43 = .ok (.iload_n 1, 1) := by decide +kernel
theorem dX9_sheet_44 : decode cX9_sheet 44 = .ok (.iload_n 2, 1) := by decide +kernel
theorem dX9_sheet_45 : decode cX9_sheet 45 = .ok (.iastore, 1) := by decide +kernel
theorem dX9_sheet_46 : decode cX9_sheet 46 = .ok (.aload_n 0, 1) := by decide +kernel
theorem dX9_sheet_47 : decode cX9_sheet 47 = .ok (.getfield 56, 3) := by decide +kernel
theorem dX9_sheet_50 : decode cX9_sheet 50 = .ok (.iload_n 1, 1) := by decide +kernel
theorem dX9_sheet_51 : decode cX9_sheet 51 = .ok (.iload_n 2, 1) := by decide +kernel
theorem dX9_sheet_52 : decode cX9_sheet 52 = .ok (.ifCond .ge 7, 3) := by decide +kernel
theorem dX9_sheet_55 : decode cX9_sheet 55 = .ok (.iconst 0, 1) := by decide +kernel
theorem dX9_sheet_56 : decode cX9_sheet 56 = .ok (.goto 4, 3) := by decide +kernel
theorem dX9_sheet_59 : decode cX9_sheet 59 = .ok (.iload_n 3, 1) := by decide +kernel
theorem dX9_sheet_60 : decode cX9_sheet 60 = .ok (.iastore, 1) := by decide +kernel
theorem dX9_sheet_61 : decode cX9_sheet 61 = .ok (.iconst 0, 1) := by decide +kernel
theorem dX9_sheet_62 : decode cX9_sheet 62 = .ok (.istore 4, 2) := by decide +kernel
theorem dX9_sheet_64 : decode cX9_sheet 64 = .ok (.iload 4, 2) := by decide +kernel
theorem dX9_sheet_66 : decode cX9_sheet 66 = .ok (.bipush 40, 2) := by decide +kernel
theorem dX9_sheet_68 : decode cX9_sheet 68 = .ok (.if_icmp .ge 22, 3) := by decide +kernel
theorem dX9_sheet_71 : decode cX9_sheet 71 = .ok (.aload_n 0, 1) := by decide +kernel
theorem dX9_sheet_72 : decode cX9_sheet 72 = .ok (.getfield 59, 3) := by decide +kernel
theorem dX9_sheet_75 : decode cX9_sheet 75 = .ok (.bipush 40, 2) := by decide +kernel
theorem dX9_sheet_77 : decode cX9_sheet 77 = .ok (.iload_n 1, 1) := by decide +kernel
theorem dX9_sheet_78 : decode cX9_sheet 78 = .ok (.imul, 1) := by decide +kernel
theorem dX9_sheet_79 : decode cX9_sheet 79 = .ok (.iload 4, 2) := by decide +kernel
theorem dX9_sheet_81 : decode cX9_sheet 81 = .ok (.iadd, 1) := by decide +kernel
theorem dX9_sheet_82 : decode cX9_sheet 82 = .ok (.iconst 0, 1) := by decide +kernel
theorem dX9_sheet_83 : decode cX9_sheet 83 = .ok (.iastore, 1) := by decide +kernel
theorem dX9_sheet_84 : decode cX9_sheet 84 = .ok (.iinc 4 1, 3) := by decide +kernel
theorem dX9_sheet_87 : decode cX9_sheet 87 = .ok (.goto (-23), 3) := by decide +kernel
theorem dX9_sheet_90 : decode cX9_sheet 90 = .ok (.iconst 1, 1) := by decide +kernel
theorem dX9_sheet_91 : decode cX9_sheet 91 = .ok (.ireturn, 1) := by decide +kernel
theorem dX9_narrowed_0 : decode cX9_narrowed 0 = .ok (.iload_n 1, 1) := by decide +kernel
theorem dX9_narrowed_1 : decode cX9_narrowed 1 = .ok (.ifCond .ne 8, 3) := by decide +kernel
theorem dX9_narrowed_4 : decode cX9_narrowed 4 = .ok (.iload_n 0, 1) := by decide +kernel
theorem dX9_narrowed_5 : decode cX9_narrowed 5 = .ok (.i2b, 1) := by decide +kernel
theorem dX9_narrowed_6 : decode cX9_narrowed 6 = .ok (.goto 31, 3) := by decide +kernel
theorem dX9_narrowed_9 : decode cX9_narrowed 9 = .ok (.iload_n 1, 1) := by decide +kernel
theorem dX9_narrowed_10 : decode cX9_narrowed 10 = .ok (.iconst 1, 1) := by decide +kernel
theorem dX9_narrowed_11 : decode cX9_narrowed 11 = .ok (.if_icmp .ne 8, 3) := by decide +kernel
theorem dX9_narrowed_14 : decode cX9_narrowed 14 = .ok (.iload_n 0, 1) := by decide +kernel
theorem dX9_narrowed_15 : decode cX9_narrowed 15 = .ok (.i2s, 1) := by decide +kernel
theorem dX9_narrowed_16 : decode cX9_narrowed 16 = .ok (.goto 21, 3) := by decide +kernel
theorem dX9_narrowed_19 : decode cX9_narrowed 19 = .ok (.iload_n 1, 1) := by decide +kernel
theorem dX9_narrowed_20 : decode cX9_narrowed 20 = .ok (.iconst 4, 1) := by decide +kernel
theorem dX9_narrowed_21 : decode cX9_narrowed 21 = .ok (.if_icmp .ne 15, 3) := by decide +kernel
theorem dX9_narrowed_24 : decode cX9_narrowed 24 = .ok (.iload_n 0, 1) := by decide +kernel
theorem dX9_narrowed_25 : decode cX9_narrowed 25 = .ok (.ifCond .eq 7, 3) := by decide +kernel
theorem dX9_narrowed_28 : decode cX9_narrowed 28 = .ok (.iconst 1, 1) := by decide +kernel
theorem dX9_narrowed_29 : decode cX9_narrowed 29 = .ok (.goto 8, 3) := by decide +kernel
theorem dX9_narrowed_32 : decode cX9_narrowed 32 = .ok (.iconst 0, 1) := by decide +kernel
theorem dX9_narrowed_33 : decode cX9_narrowed 33 = .ok (.goto 4, 3) := by decide +kernel
theorem dX9_narrowed_36 : decode cX9_narrowed 36 = .ok (.iload_n 0, 1) := by decide +kernel
theorem dX9_narrowed_37 : decode cX9_narrowed 37 = .ok (.ireturn, 1) := by decide +kernel
theorem dX9_write_0 : decode cX9_write 0 = .ok (.iload_n 1, 1) := by decide +kernel
theorem dX9_write_1 : decode cX9_write 1 = .ok (.invokestatic 329, 3) := by decide +kernel
theorem dX9_write_4 : decode cX9_write 4 = .ok (.ifCond .ne 5, 3) := by decide +kernel
theorem dX9_write_7 : decode cX9_write 7 = .ok (.iconst (-1), 1) := by decide +kernel
theorem dX9_write_8 : decode cX9_write 8 = .ok (.ireturn, 1) := by decide +kernel
theorem dX9_write_9 : decode cX9_write 9 = .ok (.aload_n 0, 1) := by decide +kernel
theorem dX9_write_10 : decode cX9_write 10 = .ok (.getfield 53, 3) := by decide +kernel
theorem dX9_write_13 : decode cX9_write 13 = .ok (.iload_n 1, 1) := by decide +kernel
theorem dX9_write_14 : decode cX9_write 14 = .ok (.iaload, 1) := by decide +kernel
theorem dX9_write_15 : decode cX9_write 15 = .ok (.ifCond .ge 6, 3) := by decide +kernel
theorem dX9_write_18 : decode cX9_write 18 = .ok (.bipush (-11), 2) := by decide +kernel
theorem dX9_write_20 : decode cX9_write 20 = .ok (.ireturn, 1) := by decide +kernel
theorem dX9_write_21 : decode cX9_write 21 = .ok (.iload_n 2, 1) := by decide +kernel
theorem dX9_write_22 : decode cX9_write 22 = .ok (.iconst 0, 1) := by decide +kernel
theorem dX9_write_23 : decode cX9_write 23 = .ok (.aload_n 0, 1) := by decide +kernel
theorem dX9_write_24 : decode cX9_write 24 = .ok (.getfield 56, 3) := by decide +kernel
theorem dX9_write_27 : decode cX9_write 27 = .ok (.iload_n 1, 1) := by decide +kernel
theorem dX9_write_28 : decode cX9_write 28 = .ok (.iaload, 1) := by decide +kernel
theorem dX9_write_29 : decode cX9_write 29 = .ok (.iconst 1, 1) := by decide +kernel
theorem dX9_write_30 : decode cX9_write 30 = .ok (.isub, 1) := by decide +kernel
theorem dX9_write_31 : decode cX9_write 31 = .ok (.invokestatic 71, 3) := by decide +kernel
theorem dX9_write_34 : decode cX9_write 34 = .ok (.ifCond .ne 6, 3) := by decide +kernel
theorem dX9_write_37 : decode cX9_write 37 = .ok (.bipush (-12), 2) := by decide +kernel
theorem dX9_write_39 : decode cX9_write 39 = .ok (.ireturn, 1) := by decide +kernel
theorem dX9_write_40 : decode cX9_write 40 = .ok (.aload_n 0, 1) := by decide +kernel
theorem dX9_write_41 : decode cX9_write 41 = .ok (.getfield 59, 3) := by decide +kernel
theorem dX9_write_44 : decode cX9_write 44 = .ok (.bipush 40, 2) := by decide +kernel
theorem dX9_write_46 : decode cX9_write 46 = .ok (.iload_n 1, 1) := by decide +kernel
theorem dX9_write_47 : decode cX9_write 47 = .ok (.imul, 1) := by decide +kernel
theorem dX9_write_48 : decode cX9_write 48 = .ok (.iload_n 2, 1) := by decide +kernel
theorem dX9_write_49 : decode cX9_write 49 = .ok (.iadd, 1) := by decide +kernel
theorem dX9_write_50 : decode cX9_write 50 = .ok (.iload_n 3, 1) := by decide +kernel
theorem dX9_write_51 : decode cX9_write 51 = .ok (.aload_n 0, 1) := by decide +kernel
theorem dX9_write_52 : decode cX9_write 52 = .ok (.getfield 53, 3) := by decide +kernel
theorem dX9_write_55 : decode cX9_write 55 = .ok (.iload_n 1, 1) := by decide +kernel
theorem dX9_write_56 : decode cX9_write 56 = .ok (.iaload, 1) := by decide +kernel
theorem dX9_write_57 : decode cX9_write 57 = .ok (.invokestatic 332, 3) := by decide +kernel
theorem dX9_write_60 : decode cX9_write 60 = .ok (.iastore, 1) := by decide +kernel
theorem dX9_write_61 : decode cX9_write 61 = .ok (.iconst 1, 1) := by decide +kernel
theorem dX9_write_62 : decode cX9_write 62 = .ok (.ireturn, 1) := by decide +kernel
theorem dX9_lacks_0 : decode cX9_lacks 0 = .ok (.aload_n 0, 1) := by decide +kernel
theorem dX9_lacks_1 : decode cX9_lacks 1 = .ok (.getfield 53, 3) := by decide +kernel
theorem dX9_lacks_4 : decode cX9_lacks 4 = .ok (.iload_n 1, 1) := by decide +kernel
theorem dX9_lacks_5 : decode cX9_lacks 5 = .ok (.iaload, 1) := by decide +kernel
theorem dX9_lacks_6 : decode cX9_lacks 6 = .ok (.ifCond .ge 8, 3) := by decide +kernel
theorem dX9_lacks_9 : decode cX9_lacks 9 = .ok (.bipush (-11), 2) := by decide +kernel
theorem dX9_lacks_11 : decode cX9_lacks 11 = .ok (.goto 19, 3) := by decide +kernel
theorem dX9_lacks_14 : decode cX9_lacks 14 = .ok (.aload_n 0, 1) := by decide +kernel
theorem dX9_lacks_15 : decode cX9_lacks 15 = .ok (.getfield 53, 3) := by decide +kernel
theorem dX9_lacks_18 : decode cX9_lacks 18 = .ok (.iload_n 1, 1) := by decide +kernel
theorem dX9_lacks_19 : decode cX9_lacks 19 = .ok (.iaload, 1) := by decide +kernel
theorem dX9_lacks_20 : decode cX9_lacks 20 = .ok (.iload_n 2, 1) := by decide +kernel
theorem dX9_lacks_21 : decode cX9_lacks 21 = .ok (.if_icmp .eq 8, 3) := by decide +kernel
theorem dX9_lacks_24 : decode cX9_lacks 24 = .ok (.bipush (-13), 2) := by decide +kernel
theorem dX9_lacks_26 : decode cX9_lacks 26 = .ok (.goto 4, 3) := by decide +kernel
theorem dX9_lacks_29 : decode cX9_lacks 29 = .ok (.iconst 0, 1) := by decide +kernel
theorem dX9_lacks_30 : decode cX9_lacks 30 = .ok (.ireturn, 1) := by decide +kernel
theorem dX9_item_0 : decode cX9_item 0 = .ok (.iload_n 1, 1) := by decide +kernel
theorem dX9_item_1 : decode cX9_item 1 = .ok (.invokestatic 329, 3) := by decide +kernel
theorem dX9_item_4 : decode cX9_item 4 = .ok (.ifCond .eq 12, 3) := by decide +kernel
theorem dX9_item_7 : decode cX9_item 7 = .ok (.iload_n 2, 1) := by decide +kernel
theorem dX9_item_8 : decode cX9_item 8 = .ok (.iconst 0, 1) := by decide +kernel
theorem dX9_item_9 : decode cX9_item 9 = .ok (.iconst 4, 1) := by decide +kernel
theorem dX9_item_10 : decode cX9_item 10 = .ok (.invokestatic 71, 3) := by decide +kernel
theorem dX9_item_13 : decode cX9_item 13 = .ok (.ifCond .ne 5, 3) := by decide +kernel
theorem dX9_item_16 : decode cX9_item 16 = .ok (.iconst (-1), 1) := by decide +kernel
theorem dX9_item_17 : decode cX9_item 17 = .ok (.ireturn, 1) := by decide +kernel
theorem dX9_item_18 : decode cX9_item 18 = .ok (.aload_n 0, 1) := by decide +kernel
theorem dX9_item_19 : decode cX9_item 19 = .ok (.iload_n 1, 1) := by decide +kernel
theorem dX9_item_20 : decode cX9_item 20 = .ok (.iload_n 2, 1) := by decide +kernel
theorem dX9_item_21 : decode cX9_item 21 = .ok (.invokevirtual 335, 3) := by decide +kernel
theorem dX9_item_24 : decode cX9_item 24 = .ok (.istore 4, 2) := by decide +kernel
theorem dX9_item_26 : decode cX9_item 26 = .ok (.iload 4, 2) := by decide +kernel
theorem dX9_item_28 : decode cX9_item 28 = .ok (.ifCond .eq 8, 3) := by decide +kernel
theorem dX9_item_31 : decode cX9_item 31 = .ok (.iload 4, 2) := by decide +kernel
theorem dX9_item_33 : decode cX9_item 33 = .ok (.goto 35, 3) := by decide +kernel
theorem dX9_item_36 : decode cX9_item 36 = .ok (.iload_n 3, 1) := by decide +kernel
theorem dX9_item_37 : decode cX9_item 37 = .ok (.iconst 0, 1) := by decide +kernel
theorem dX9_item_38 : decode cX9_item 38 = .ok (.aload_n 0, 1) := by decide +kernel
theorem dX9_item_39 : decode cX9_item 39 = .ok (.getfield 56, 3) := by decide +kernel
theorem dX9_item_42 : decode cX9_item 42 = .ok (.iload_n 1, 1) := by decide +kernel
theorem dX9_item_43 : decode cX9_item 43 = .ok (.iaload, 1) := by decide +kernel
theorem dX9_item_44 : decode cX9_item 44 = .ok (.iconst 1, 1) := by decide +kernel
theorem dX9_item_45 : decode cX9_item 45 = .ok (.isub, 1) := by decide +kernel
theorem dX9_item_46 : decode cX9_item 46 = .ok (.invokestatic 71, 3) := by decide +kernel
theorem dX9_item_49 : decode cX9_item 49 = .ok (.ifCond .eq 17, 3) := by decide +kernel
theorem dX9_item_52 : decode cX9_item 52 = .ok (.aload_n 0, 1) := by decide +kernel
theorem dX9_item_53 : decode cX9_item 53 = .ok (.getfield 59, 3) := by decide +kernel
theorem dX9_item_56 : decode cX9_item 56 = .ok (.bipush 40, 2) := by decide +kernel
theorem dX9_item_58 : decode cX9_item 58 = .ok (.iload_n 1, 1) := by decide +kernel
theorem dX9_item_59 : decode cX9_item 59 = .ok (.imul, 1) := by decide +kernel
theorem dX9_item_60 : decode cX9_item 60 = .ok (.iload_n 3, 1) := by decide +kernel
theorem dX9_item_61 : decode cX9_item 61 = .ok (.iadd, 1) := by decide +kernel
theorem dX9_item_62 : decode cX9_item 62 = .ok (.iaload, 1) := by decide +kernel
theorem dX9_item_63 : decode cX9_item 63 = .ok (.goto 5, 3) := by decide +kernel
theorem dX9_item_66 : decode cX9_item 66 = .ok (.bipush (-12), 2) := by decide +kernel
theorem dX9_item_68 : decode cX9_item 68 = .ok (.ireturn, 1) := by decide +kernel
theorem dX9_isItem_0 : decode cX9_isItem 0 = .ok (.iload_n 2, 1) := by decide +kernel
theorem dX9_isItem_1 : decode cX9_isItem 1 = .ok (.ifCond .lt 19, 3) := by decide +kernel
theorem dX9_isItem_4 : decode cX9_isItem 4 = .ok (.iload_n 2, 1) := by decide +kernel
theorem dX9_isItem_5 : decode cX9_isItem 5 = .ok (.aload_n 0, 1) := by decide +kernel
theorem dX9_isItem_6 : decode cX9_isItem 6 = .ok (.getfield 56, 3) := by decide +kernel
theorem dX9_isItem_9 : decode cX9_isItem 9 = .ok (.iload_n 1, 1) := by decide +kernel
theorem dX9_isItem_10 : decode cX9_isItem 10 = .ok (.iaload, 1) := by decide +kernel
theorem dX9_isItem_11 : decode cX9_isItem 11 = .ok (.iload_n 3, 1) := by decide +kernel
theorem dX9_isItem_12 : decode cX9_isItem 12 = .ok (.isub, 1) := by decide +kernel
theorem dX9_isItem_13 : decode cX9_isItem 13 = .ok (.if_icmp .ge 7, 3) := by decide +kernel
theorem dX9_isItem_16 : decode cX9_isItem 16 = .ok (.iconst 1, 1) := by decide +kernel
theorem dX9_isItem_17 : decode cX9_isItem 17 = .ok (.goto 4, 3) := by decide +kernel
theorem dX9_isItem_20 : decode cX9_isItem 20 = .ok (.iconst 0, 1) := by decide +kernel
theorem dX9_isItem_21 : decode cX9_isItem 21 = .ok (.ireturn, 1) := by decide +kernel
theorem dX9_goAll_0 : decode cX9_goAll 0 = .ok (.iload_n 1, 1) := by decide +kernel
theorem dX9_goAll_1 : decode cX9_goAll 1 = .ok (.invokestatic 329, 3) := by decide +kernel
theorem dX9_goAll_4 : decode cX9_goAll 4 = .ok (.ifCond .eq 13, 3) := by decide +kernel
theorem dX9_goAll_7 : decode cX9_goAll 7 = .ok (.iload_n 3, 1) := by decide +kernel
theorem dX9_goAll_8 : decode cX9_goAll 8 = .ok (.iconst 0, 1) := by decide +kernel
theorem dX9_goAll_9 : decode cX9_goAll 9 = .ok (.bipush 20, 2) := by decide +kernel
theorem dX9_goAll_11 : decode cX9_goAll 11 = .ok (.invokestatic 71, 3) := by decide +kernel
theorem dX9_goAll_14 : decode cX9_goAll 14 = .ok (.ifCond .ne 5, 3) := by decide +kernel
theorem dX9_goAll_17 : decode cX9_goAll 17 = .ok (.iconst (-1), 1) := by decide +kernel
theorem dX9_goAll_18 : decode cX9_goAll 18 = .ok (.ireturn, 1) := by decide +kernel
theorem dX9_goAll_19 : decode cX9_goAll 19 = .ok (.aload_n 0, 1) := by decide +kernel
theorem dX9_goAll_20 : decode cX9_goAll 20 = .ok (.iload_n 1, 1) := by decide +kernel
theorem dX9_goAll_21 : decode cX9_goAll 21 = .ok (.iconst 0, 1) := by decide +kernel
theorem dX9_goAll_22 : decode cX9_goAll 22 = .ok (.invokevirtual 335, 3) := by decide +kernel
theorem dX9_goAll_25 : decode cX9_goAll 25 = .ok (.istore 4, 2) := by decide +kernel
theorem dX9_goAll_27 : decode cX9_goAll 27 = .ok (.iload 4, 2) := by decide +kernel
theorem dX9_goAll_29 : decode cX9_goAll 29 = .ok (.ifCond .eq 6, 3) := by decide +kernel
theorem dX9_goAll_32 : decode cX9_goAll 32 = .ok (.iload 4, 2) := by decide +kernel
theorem dX9_goAll_34 : decode cX9_goAll 34 = .ok (.ireturn, 1) := by decide +kernel
theorem dX9_goAll_35 : decode cX9_goAll 35 = .ok (.iconst 0, 1) := by decide +kernel
theorem dX9_goAll_36 : decode cX9_goAll 36 = .ok (.istore 5, 2) := by decide +kernel
theorem dX9_goAll_38 : decode cX9_goAll 38 = .ok (.iconst 0, 1) := by decide +kernel
theorem dX9_goAll_39 : decode cX9_goAll 39 = .ok (.istore 6, 2) := by decide +kernel
theorem dX9_goAll_41 : decode cX9_goAll 41 = .ok (.iload 6, 2) := by decide +kernel
theorem dX9_goAll_43 : decode cX9_goAll 43 = .ok (.iload_n 3, 1) := by decide +kernel
theorem dX9_goAll_44 : decode cX9_goAll 44 = .ok (.if_icmp .ge 70, 3) := by decide +kernel
theorem dX9_goAll_47 : decode cX9_goAll 47 = .ok (.aload_n 0, 1) := by decide +kernel
theorem dX9_goAll_48 : decode cX9_goAll 48 = .ok (.iload_n 1, 1) := by decide +kernel
theorem dX9_goAll_49 : decode cX9_goAll 49 = .ok (.iload_n 2, 1) := by decide +kernel
theorem dX9_goAll_50 : decode cX9_goAll 50 = .ok (.iload 6, 2) := by decide +kernel
theorem dX9_goAll_52 : decode cX9_goAll 52 = .ok (.invokevirtual 338, 3) := by decide +kernel
theorem dX9_goAll_55 : decode cX9_goAll 55 = .ok (.ifCond .ne 6, 3) := by decide +kernel
theorem dX9_goAll_58 : decode cX9_goAll 58 = .ok (.bipush (-12), 2) := by decide +kernel
theorem dX9_goAll_60 : decode cX9_goAll 60 = .ok (.ireturn, 1) := by decide +kernel
theorem dX9_goAll_61 : decode cX9_goAll 61 = .ok (.aload_n 0, 1) := by decide +kernel
theorem dX9_goAll_62 : decode cX9_goAll 62 = .ok (.getfield 59, 3) := by decide +kernel
theorem dX9_goAll_65 : decode cX9_goAll 65 = .ok (.bipush 40, 2) := by decide +kernel
theorem dX9_goAll_67 : decode cX9_goAll 67 = .ok (.iload_n 1, 1) := by decide +kernel
theorem dX9_goAll_68 : decode cX9_goAll 68 = .ok (.imul, 1) := by decide +kernel
theorem dX9_goAll_69 : decode cX9_goAll 69 = .ok (.iload_n 2, 1) := by decide +kernel
theorem dX9_goAll_70 : decode cX9_goAll 70 = .ok (.iadd, 1) := by decide +kernel
theorem dX9_goAll_71 : decode cX9_goAll 71 = .ok (.iload 6, 2) := by decide +kernel
theorem dX9_goAll_73 : decode cX9_goAll 73 = .ok (.iadd, 1) := by decide +kernel
theorem dX9_goAll_74 : decode cX9_goAll 74 = .ok (.iaload, 1) := by decide +kernel
theorem dX9_goAll_75 : decode cX9_goAll 75 = .ok (.istore 7, 2) := by decide +kernel
theorem dX9_goAll_77 : decode cX9_goAll 77 = .ok (.iload 5, 2) := by decide +kernel
theorem dX9_goAll_79 : decode cX9_goAll 79 = .ok (.aload_n 0, 1) := by decide +kernel
theorem dX9_goAll_80 : decode cX9_goAll 80 = .ok (.iload 7, 2) := by decide +kernel
theorem dX9_goAll_82 : decode cX9_goAll 82 = .ok (.invokevirtual 326, 3) := by decide +kernel
theorem dX9_goAll_85 : decode cX9_goAll 85 = .ok (.ifCond .eq 19, 3) := by decide +kernel
theorem dX9_goAll_88 : decode cX9_goAll 88 = .ok (.aload_n 0, 1) := by decide +kernel
theorem dX9_goAll_89 : decode cX9_goAll 89 = .ok (.invokevirtual 232, 3) := by decide +kernel
theorem dX9_goAll_92 : decode cX9_goAll 92 = .ok (.ifCond .ne 12, 3) := by decide +kernel
theorem dX9_goAll_95 : decode cX9_goAll 95 = .ok (.aload_n 0, 1) := by decide +kernel
theorem dX9_goAll_96 : decode cX9_goAll 96 = .ok (.iload 7, 2) := by decide +kernel
theorem dX9_goAll_98 : decode cX9_goAll 98 = .ok (.invokevirtual 238, 3) := by decide +kernel
theorem dX9_goAll_101 : decode cX9_goAll 101 = .ok (.goto 4, 3) := by decide +kernel
theorem dX9_goAll_104 : decode cX9_goAll 104 = .ok (.iconst 0, 1) := by decide +kernel
theorem dX9_goAll_105 : decode cX9_goAll 105 = .ok (.iadd, 1) := by decide +kernel
theorem dX9_goAll_106 : decode cX9_goAll 106 = .ok (.istore 5, 2) := by decide +kernel
theorem dX9_goAll_108 : decode cX9_goAll 108 = .ok (.iinc 6 1, 3) := by decide +kernel
theorem dX9_goAll_111 : decode cX9_goAll 111 = .ok (.goto (-70), 3) := by decide +kernel
theorem dX9_goAll_114 : decode cX9_goAll 114 = .ok (.iload 5, 2) := by decide +kernel
theorem dX9_goAll_116 : decode cX9_goAll 116 = .ok (.ireturn, 1) := by decide +kernel
theorem dX9_wouldBe_0 : decode cX9_wouldBe 0 = .ok (.iload_n 1, 1) := by decide +kernel
theorem dX9_wouldBe_1 : decode cX9_wouldBe 1 = .ok (.invokestatic 329, 3) := by decide +kernel
theorem dX9_wouldBe_4 : decode cX9_wouldBe 4 = .ok (.ifCond .eq 13, 3) := by decide +kernel
theorem dX9_wouldBe_7 : decode cX9_wouldBe 7 = .ok (.iload_n 3, 1) := by decide +kernel
theorem dX9_wouldBe_8 : decode cX9_wouldBe 8 = .ok (.iconst 0, 1) := by decide +kernel
theorem dX9_wouldBe_9 : decode cX9_wouldBe 9 = .ok (.bipush 20, 2) := by decide +kernel
theorem dX9_wouldBe_11 : decode cX9_wouldBe 11 = .ok (.invokestatic 71, 3) := by decide +kernel
theorem dX9_wouldBe_14 : decode cX9_wouldBe 14 = .ok (.ifCond .ne 5, 3) := by decide +kernel
theorem dX9_wouldBe_17 : decode cX9_wouldBe 17 = .ok (.iconst (-1), 1) := by decide +kernel
theorem dX9_wouldBe_18 : decode cX9_wouldBe 18 = .ok (.ireturn, 1) := by decide +kernel
theorem dX9_wouldBe_19 : decode cX9_wouldBe 19 = .ok (.aload_n 0, 1) := by decide +kernel
theorem dX9_wouldBe_20 : decode cX9_wouldBe 20 = .ok (.iload_n 1, 1) := by decide +kernel
theorem dX9_wouldBe_21 : decode cX9_wouldBe 21 = .ok (.iconst 0, 1) := by decide +kernel
theorem dX9_wouldBe_22 : decode cX9_wouldBe 22 = .ok (.invokevirtual 335, 3) := by decide +kernel
theorem dX9_wouldBe_25 : decode cX9_wouldBe 25 = .ok (.istore 4, 2) := by decide +kernel
theorem dX9_wouldBe_27 : decode cX9_wouldBe 27 = .ok (.iconst 0, 1) := by decide +kernel
theorem dX9_wouldBe_28 : decode cX9_wouldBe 28 = .ok (.istore 5, 2) := by decide +kernel
theorem dX9_wouldBe_30 : decode cX9_wouldBe 30 = .ok (.aload_n 0, 1) := by decide +kernel
theorem dX9_wouldBe_31 : decode cX9_wouldBe 31 = .ok (.invokevirtual 241, 3) := by decide +kernel
theorem dX9_wouldBe_34 : decode cX9_wouldBe 34 = .ok (.iconst 0, 1) := by decide +kernel
theorem dX9_wouldBe_35 : decode cX9_wouldBe 35 = .ok (.istore 6, 2) := by decide +kernel
theorem dX9_wouldBe_37 : decode cX9_wouldBe 37 = .ok (.iload 6, 2) := by decide +kernel
theorem dX9_wouldBe_39 : decode cX9_wouldBe 39 = .ok (.iload_n 3, 1) := by decide +kernel
theorem dX9_wouldBe_40 : decode cX9_wouldBe 40 = .ok (.if_icmp .ge 105, 3) := by decide +kernel
theorem dX9_wouldBe_43 : decode cX9_wouldBe 43 = .ok (.iload 4, 2) := by decide +kernel
theorem dX9_wouldBe_45 : decode cX9_wouldBe 45 = .ok (.ifCond .ne 100, 3) := by decide +kernel
theorem dX9_wouldBe_48 : decode cX9_wouldBe 48 = .ok (.aload_n 0, 1) := by decide +kernel
theorem dX9_wouldBe_49 : decode cX9_wouldBe 49 = .ok (.iload_n 1, 1) := by decide +kernel
theorem dX9_wouldBe_50 : decode cX9_wouldBe 50 = .ok (.iload_n 2, 1) := by decide +kernel
theorem dX9_wouldBe_51 : decode cX9_wouldBe 51 = .ok (.iload 6, 2) := by decide +kernel
theorem dX9_wouldBe_53 : decode cX9_wouldBe 53 = .ok (.invokevirtual 338, 3) := by decide +kernel
theorem dX9_wouldBe_56 : decode cX9_wouldBe 56 = .ok (.ifCond .eq 20, 3) := by decide +kernel
theorem dX9_wouldBe_59 : decode cX9_wouldBe 59 = .ok (.aload_n 0, 1) := by decide +kernel
theorem dX9_wouldBe_60 : decode cX9_wouldBe 60 = .ok (.getfield 59, 3) := by decide +kernel
theorem dX9_wouldBe_63 : decode cX9_wouldBe 63 = .ok (.bipush 40, 2) := by decide +kernel
theorem dX9_wouldBe_65 : decode cX9_wouldBe 65 = .ok (.iload_n 1, 1) := by decide +kernel
theorem dX9_wouldBe_66 : decode cX9_wouldBe 66 = .ok (.imul, 1) := by decide +kernel
theorem dX9_wouldBe_67 : decode cX9_wouldBe 67 = .ok (.iload_n 2, 1) := by decide +kernel
theorem dX9_wouldBe_68 : decode cX9_wouldBe 68 = .ok (.iadd, 1) := by decide +kernel
theorem dX9_wouldBe_69 : decode cX9_wouldBe 69 = .ok (.iload 6, 2) := by decide +kernel
theorem dX9_wouldBe_71 : decode cX9_wouldBe 71 = .ok (.iadd, 1) := by decide +kernel
theorem dX9_wouldBe_72 : decode cX9_wouldBe 72 = .ok (.iaload, 1) := by decide +kernel
theorem dX9_wouldBe_73 : decode cX9_wouldBe 73 = .ok (.goto 4, 3) := by decide +kernel
theorem dX9_wouldBe_76 : decode cX9_wouldBe 76 = .ok (.iconst (-1), 1) := by decide +kernel
theorem dX9_wouldBe_77 : decode cX9_wouldBe 77 = .ok (.istore 7, 2) := by decide +kernel
theorem dX9_wouldBe_79 : decode cX9_wouldBe 79 = .ok (.aload_n 0, 1) := by decide +kernel
theorem dX9_wouldBe_80 : decode cX9_wouldBe 80 = .ok (.iload_n 1, 1) := by decide +kernel
theorem dX9_wouldBe_81 : decode cX9_wouldBe 81 = .ok (.iload_n 2, 1) := by decide +kernel
theorem dX9_wouldBe_82 : decode cX9_wouldBe 82 = .ok (.iload 6, 2) := by decide +kernel
theorem dX9_wouldBe_84 : decode cX9_wouldBe 84 = .ok (.invokevirtual 338, 3) := by decide +kernel
theorem dX9_wouldBe_87 : decode cX9_wouldBe 87 = .ok (.ifCond .ne 8, 3) := by decide +kernel
theorem dX9_wouldBe_90 : decode cX9_wouldBe 90 = .ok (.bipush (-12), 2) := by decide +kernel
theorem dX9_wouldBe_92 : decode cX9_wouldBe 92 = .ok (.goto 25, 3) := by decide +kernel
theorem dX9_wouldBe_95 : decode cX9_wouldBe 95 = .ok (.aload_n 0, 1) := by decide +kernel
theorem dX9_wouldBe_96 : decode cX9_wouldBe 96 = .ok (.iload 7, 2) := by decide +kernel
theorem dX9_wouldBe_98 : decode cX9_wouldBe 98 = .ok (.invokevirtual 326, 3) := by decide +kernel
theorem dX9_wouldBe_101 : decode cX9_wouldBe 101 = .ok (.ifCond .eq 10, 3) := by decide +kernel
theorem dX9_wouldBe_104 : decode cX9_wouldBe 104 = .ok (.aload_n 0, 1) := by decide +kernel
theorem dX9_wouldBe_105 : decode cX9_wouldBe 105 = .ok (.invokevirtual 232, 3) := by decide +kernel
theorem dX9_wouldBe_108 : decode cX9_wouldBe 108 = .ok (.ifCond .eq 8, 3) := by decide +kernel
theorem dX9_wouldBe_111 : decode cX9_wouldBe 111 = .ok (.bipush (-4), 2) := by decide +kernel
theorem dX9_wouldBe_113 : decode cX9_wouldBe 113 = .ok (.goto 4, 3) := by decide +kernel
theorem dX9_wouldBe_116 : decode cX9_wouldBe 116 = .ok (.iconst 0, 1) := by decide +kernel
theorem dX9_wouldBe_117 : decode cX9_wouldBe 117 = .ok (.istore 4, 2) := by decide +kernel
theorem dX9_wouldBe_119 : decode cX9_wouldBe 119 = .ok (.iload 5, 2) := by decide +kernel
theorem dX9_wouldBe_121 : decode cX9_wouldBe 121 = .ok (.iload 4, 2) := by decide +kernel
theorem dX9_wouldBe_123 : decode cX9_wouldBe 123 = .ok (.ifCond .ne 12, 3) := by decide +kernel
theorem dX9_wouldBe_126 : decode cX9_wouldBe 126 = .ok (.aload_n 0, 1) := by decide +kernel
theorem dX9_wouldBe_127 : decode cX9_wouldBe 127 = .ok (.iload 7, 2) := by decide +kernel
theorem dX9_wouldBe_129 : decode cX9_wouldBe 129 = .ok (.invokevirtual 238, 3) := by decide +kernel
theorem dX9_wouldBe_132 : decode cX9_wouldBe 132 = .ok (.goto 4, 3) := by decide +kernel
theorem dX9_wouldBe_135 : decode cX9_wouldBe 135 = .ok (.iconst 0, 1) := by decide +kernel
theorem dX9_wouldBe_136 : decode cX9_wouldBe 136 = .ok (.iadd, 1) := by decide +kernel
theorem dX9_wouldBe_137 : decode cX9_wouldBe 137 = .ok (.istore 5, 2) := by decide +kernel
theorem dX9_wouldBe_139 : decode cX9_wouldBe 139 = .ok (.iinc 6 1, 3) := by decide +kernel
theorem dX9_wouldBe_142 : decode cX9_wouldBe 142 = .ok (.goto (-105), 3) := by decide +kernel
theorem dX9_wouldBe_145 : decode cX9_wouldBe 145 = .ok (.aload_n 0, 1) := by decide +kernel
theorem dX9_wouldBe_146 : decode cX9_wouldBe 146 = .ok (.invokevirtual 247, 3) := by decide +kernel
theorem dX9_wouldBe_149 : decode cX9_wouldBe 149 = .ok (.iload 4, 2) := by decide +kernel
theorem dX9_wouldBe_151 : decode cX9_wouldBe 151 = .ok (.ifCond .eq 8, 3) := by decide +kernel
theorem dX9_wouldBe_154 : decode cX9_wouldBe 154 = .ok (.iload 4, 2) := by decide +kernel
theorem dX9_wouldBe_156 : decode cX9_wouldBe 156 = .ok (.goto 5, 3) := by decide +kernel
theorem dX9_wouldBe_159 : decode cX9_wouldBe 159 = .ok (.iload 5, 2) := by decide +kernel
theorem dX9_wouldBe_161 : decode cX9_wouldBe 161 = .ok (.ireturn, 1) := by decide +kernel
theorem dX9_shelf_0 : decode cX9_shelf 0 = .ok (.iload_n 1, 1) := by decide +kernel
theorem dX9_shelf_1 : decode cX9_shelf 1 = .ok (.invokestatic 329, 3) := by decide +kernel
theorem dX9_shelf_4 : decode cX9_shelf 4 = .ok (.ifCond .eq 36, 3) := by decide +kernel
theorem dX9_shelf_7 : decode cX9_shelf 7 = .ok (.iload_n 2, 1) := by decide +kernel
theorem dX9_shelf_8 : decode cX9_shelf 8 = .ok (.iconst 0, 1) := by decide +kernel
theorem dX9_shelf_9 : decode cX9_shelf 9 = .ok (.iconst 2, 1) := by decide +kernel
theorem dX9_shelf_10 : decode cX9_shelf 10 = .ok (.invokestatic 71, 3) := by decide +kernel
theorem dX9_shelf_13 : decode cX9_shelf 13 = .ok (.ifCond .eq 27, 3) := by decide +kernel
theorem dX9_shelf_16 : decode cX9_shelf 16 = .ok (.iload_n 2, 1) := by decide +kernel
theorem dX9_shelf_17 : decode cX9_shelf 17 = .ok (.ifCond .ne 11, 3) := by decide +kernel
theorem dX9_shelf_20 : decode cX9_shelf 20 = .ok (.aload_n 0, 1) := by decide +kernel
theorem dX9_shelf_21 : decode cX9_shelf 21 = .ok (.iload_n 3, 1) := by decide +kernel
theorem dX9_shelf_22 : decode cX9_shelf 22 = .ok (.invokevirtual 226, 3) := by decide +kernel
theorem dX9_shelf_25 : decode cX9_shelf 25 = .ok (.ifCond .eq 15, 3) := by decide +kernel
theorem dX9_shelf_28 : decode cX9_shelf 28 = .ok (.iload_n 2, 1) := by decide +kernel
theorem dX9_shelf_29 : decode cX9_shelf 29 = .ok (.iconst 1, 1) := by decide +kernel
theorem dX9_shelf_30 : decode cX9_shelf 30 = .ok (.if_icmp .ne 12, 3) := by decide +kernel
theorem dX9_shelf_33 : decode cX9_shelf 33 = .ok (.iload_n 3, 1) := by decide +kernel
theorem dX9_shelf_34 : decode cX9_shelf 34 = .ok (.invokestatic 329, 3) := by decide +kernel
theorem dX9_shelf_37 : decode cX9_shelf 37 = .ok (.ifCond .ne 5, 3) := by decide +kernel
theorem dX9_shelf_40 : decode cX9_shelf 40 = .ok (.iconst (-1), 1) := by decide +kernel
theorem dX9_shelf_41 : decode cX9_shelf 41 = .ok (.ireturn, 1) := by decide +kernel
theorem dX9_shelf_42 : decode cX9_shelf 42 = .ok (.aload_n 0, 1) := by decide +kernel
theorem dX9_shelf_43 : decode cX9_shelf 43 = .ok (.getfield 62, 3) := by decide +kernel
theorem dX9_shelf_46 : decode cX9_shelf 46 = .ok (.iload_n 1, 1) := by decide +kernel
theorem dX9_shelf_47 : decode cX9_shelf 47 = .ok (.iload_n 2, 1) := by decide +kernel
theorem dX9_shelf_48 : decode cX9_shelf 48 = .ok (.ifCond .ne 7, 3) := by decide +kernel
theorem dX9_shelf_51 : decode cX9_shelf 51 = .ok (.iconst 0, 1) := by decide +kernel
theorem dX9_shelf_52 : decode cX9_shelf 52 = .ok (.goto 30, 3) := by decide +kernel
theorem dX9_shelf_55 : decode cX9_shelf 55 = .ok (.iload_n 2, 1) := by decide +kernel
theorem dX9_shelf_56 : decode cX9_shelf 56 = .ok (.iconst 1, 1) := by decide +kernel
theorem dX9_shelf_57 : decode cX9_shelf 57 = .ok (.if_icmp .ne 24, 3) := by decide +kernel
theorem dX9_shelf_60 : decode cX9_shelf 60 = .ok (.aload_n 0, 1) := by decide +kernel
theorem dX9_shelf_61 : decode cX9_shelf 61 = .ok (.getfield 53, 3) := by decide +kernel
theorem dX9_shelf_64 : decode cX9_shelf 64 = .ok (.iload_n 3, 1) := by decide +kernel
theorem dX9_shelf_65 : decode cX9_shelf 65 = .ok (.iaload, 1) := by decide +kernel
theorem dX9_shelf_66 : decode cX9_shelf 66 = .ok (.ifCond .lt 15, 3) := by decide +kernel
theorem dX9_shelf_69 : decode cX9_shelf 69 = .ok (.bipush 10, 2) := by decide +kernel
theorem dX9_shelf_71 : decode cX9_shelf 71 = .ok (.aload_n 0, 1) := by decide +kernel
theorem dX9_shelf_72 : decode cX9_shelf 72 = .ok (.getfield 53, 3) := by decide +kernel
theorem dX9_shelf_75 : decode cX9_shelf 75 = .ok (.iload_n 3, 1) := by decide +kernel
theorem dX9_shelf_76 : decode cX9_shelf 76 = .ok (.iaload, 1) := by decide +kernel
theorem dX9_shelf_77 : decode cX9_shelf 77 = .ok (.iadd, 1) := by decide +kernel
theorem dX9_shelf_78 : decode cX9_shelf 78 = .ok (.goto 4, 3) := by decide +kernel
theorem dX9_shelf_81 : decode cX9_shelf 81 = .ok (.iconst (-1), 1) := by decide +kernel
theorem dX9_shelf_82 : decode cX9_shelf 82 = .ok (.iastore, 1) := by decide +kernel
theorem dX9_shelf_83 : decode cX9_shelf 83 = .ok (.aload_n 0, 1) := by decide +kernel
theorem dX9_shelf_84 : decode cX9_shelf 84 = .ok (.getfield 65, 3) := by decide +kernel
theorem dX9_shelf_87 : decode cX9_shelf 87 = .ok (.iload_n 1, 1) := by decide +kernel
theorem dX9_shelf_88 : decode cX9_shelf 88 = .ok (.iload_n 2, 1) := by decide +kernel
theorem dX9_shelf_89 : decode cX9_shelf 89 = .ok (.ifCond .ne 7, 3) := by decide +kernel
theorem dX9_shelf_92 : decode cX9_shelf 92 = .ok (.iload_n 3, 1) := by decide +kernel
theorem dX9_shelf_93 : decode cX9_shelf 93 = .ok (.goto 18, 3) := by decide +kernel
theorem dX9_shelf_96 : decode cX9_shelf 96 = .ok (.iload_n 2, 1) := by decide +kernel
theorem dX9_shelf_97 : decode cX9_shelf 97 = .ok (.iconst 1, 1) := by decide +kernel
theorem dX9_shelf_98 : decode cX9_shelf 98 = .ok (.if_icmp .ne 12, 3) := by decide +kernel
theorem dX9_shelf_101 : decode cX9_shelf 101 = .ok (.aload_n 0, 1) := by decide +kernel
theorem dX9_shelf_102 : decode cX9_shelf 102 = .ok (.getfield 56, 3) := by decide +kernel
theorem dX9_shelf_105 : decode cX9_shelf 105 = .ok (.iload_n 3, 1) := by decide +kernel
theorem dX9_shelf_106 : decode cX9_shelf 106 = .ok (.iaload, 1) := by decide +kernel
theorem dX9_shelf_107 : decode cX9_shelf 107 = .ok (.goto 4, 3) := by decide +kernel
theorem dX9_shelf_110 : decode cX9_shelf 110 = .ok (.iconst 0, 1) := by decide +kernel
theorem dX9_shelf_111 : decode cX9_shelf 111 = .ok (.iastore, 1) := by decide +kernel
theorem dX9_shelf_112 : decode cX9_shelf 112 = .ok (.iconst 1, 1) := by decide +kernel
theorem dX9_shelf_113 : decode cX9_shelf 113 = .ok (.ireturn, 1) := by decide +kernel
theorem dX9_heldOn_0 : decode cX9_heldOn 0 = .ok (.aload_n 0, 1) := by decide +kernel
theorem dX9_heldOn_1 : decode cX9_heldOn 1 = .ok (.getfield 62, 3) := by decide +kernel
theorem dX9_heldOn_4 : decode cX9_heldOn 4 = .ok (.iload_n 1, 1) := by decide +kernel
theorem dX9_heldOn_5 : decode cX9_heldOn 5 = .ok (.iaload, 1) := by decide +kernel
theorem dX9_heldOn_6 : decode cX9_heldOn 6 = .ok (.ifCond .ne 20, 3) := by decide +kernel
theorem dX9_heldOn_9 : decode cX9_heldOn 9 = .ok (.aload_n 0, 1) := by decide +kernel
theorem dX9_heldOn_10 : decode cX9_heldOn 10 = .ok (.aload_n 0, 1) := by decide +kernel
theorem dX9_heldOn_11 : decode cX9_heldOn 11 = .ok (.getfield 65, 3) := by decide +kernel
theorem dX9_heldOn_14 : decode cX9_heldOn 14 = .ok (.iload_n 1, 1) := by decide +kernel
theorem dX9_heldOn_15 : decode cX9_heldOn 15 = .ok (.iaload, 1) := by decide +kernel
theorem dX9_heldOn_16 : decode cX9_heldOn 16 = .ok (.invokevirtual 226, 3) := by decide +kernel
theorem dX9_heldOn_19 : decode cX9_heldOn 19 = .ok (.ifCond .ne 7, 3) := by decide +kernel
theorem dX9_heldOn_22 : decode cX9_heldOn 22 = .ok (.iconst (-1), 1) := by decide +kernel
theorem dX9_heldOn_23 : decode cX9_heldOn 23 = .ok (.goto 9, 3) := by decide +kernel
theorem dX9_heldOn_26 : decode cX9_heldOn 26 = .ok (.aload_n 0, 1) := by decide +kernel
theorem dX9_heldOn_27 : decode cX9_heldOn 27 = .ok (.getfield 62, 3) := by decide +kernel
theorem dX9_heldOn_30 : decode cX9_heldOn 30 = .ok (.iload_n 1, 1) := by decide +kernel
theorem dX9_heldOn_31 : decode cX9_heldOn 31 = .ok (.iaload, 1) := by decide +kernel
theorem dX9_heldOn_32 : decode cX9_heldOn 32 = .ok (.ireturn, 1) := by decide +kernel
theorem dX9_taken_0 : decode cX9_taken 0 = .ok (.iload_n 1, 1) := by decide +kernel
theorem dX9_taken_1 : decode cX9_taken 1 = .ok (.invokestatic 329, 3) := by decide +kernel
theorem dX9_taken_4 : decode cX9_taken 4 = .ok (.ifCond .eq 23, 3) := by decide +kernel
theorem dX9_taken_7 : decode cX9_taken 7 = .ok (.iload_n 2, 1) := by decide +kernel
theorem dX9_taken_8 : decode cX9_taken 8 = .ok (.iconst 0, 1) := by decide +kernel
theorem dX9_taken_9 : decode cX9_taken 9 = .ok (.iconst 5, 1) := by decide +kernel
theorem dX9_taken_10 : decode cX9_taken 10 = .ok (.invokestatic 71, 3) := by decide +kernel
theorem dX9_taken_13 : decode cX9_taken 13 = .ok (.ifCond .ne 16, 3) := by decide +kernel
theorem dX9_taken_16 : decode cX9_taken 16 = .ok (.iload_n 2, 1) := by decide +kernel
theorem dX9_taken_17 : decode cX9_taken 17 = .ok (.bipush 10, 2) := by decide +kernel
theorem dX9_taken_19 : decode cX9_taken 19 = .ok (.bipush 14, 2) := by decide +kernel
theorem dX9_taken_21 : decode cX9_taken 21 = .ok (.invokestatic 71, 3) := by decide +kernel
theorem dX9_taken_24 : decode cX9_taken 24 = .ok (.ifCond .ne 5, 3) := by decide +kernel
theorem dX9_taken_27 : decode cX9_taken 27 = .ok (.iconst (-1), 1) := by decide +kernel
theorem dX9_taken_28 : decode cX9_taken 28 = .ok (.ireturn, 1) := by decide +kernel
theorem dX9_taken_29 : decode cX9_taken 29 = .ok (.aload_n 0, 1) := by decide +kernel
theorem dX9_taken_30 : decode cX9_taken 30 = .ok (.iload_n 1, 1) := by decide +kernel
theorem dX9_taken_31 : decode cX9_taken 31 = .ok (.invokevirtual 341, 3) := by decide +kernel
theorem dX9_taken_34 : decode cX9_taken 34 = .ok (.istore_n 3, 1) := by decide +kernel
theorem dX9_taken_35 : decode cX9_taken 35 = .ok (.iload_n 3, 1) := by decide +kernel
theorem dX9_taken_36 : decode cX9_taken 36 = .ok (.ifCond .ge 6, 3) := by decide +kernel
theorem dX9_taken_39 : decode cX9_taken 39 = .ok (.bipush (-11), 2) := by decide +kernel
theorem dX9_taken_41 : decode cX9_taken 41 = .ok (.ireturn, 1) := by decide +kernel
theorem dX9_taken_42 : decode cX9_taken 42 = .ok (.iload_n 3, 1) := by decide +kernel
theorem dX9_taken_43 : decode cX9_taken 43 = .ok (.ifCond .ne 35, 3) := by decide +kernel
theorem dX9_taken_46 : decode cX9_taken 46 = .ok (.iload_n 2, 1) := by decide +kernel
theorem dX9_taken_47 : decode cX9_taken 47 = .ok (.bipush 10, 2) := by decide +kernel
theorem dX9_taken_49 : decode cX9_taken 49 = .ok (.if_icmp .ge 25, 3) := by decide +kernel
theorem dX9_taken_52 : decode cX9_taken 52 = .ok (.aload_n 0, 1) := by decide +kernel
theorem dX9_taken_53 : decode cX9_taken 53 = .ok (.aload_n 0, 1) := by decide +kernel
theorem dX9_taken_54 : decode cX9_taken 54 = .ok (.getfield 65, 3) := by decide +kernel
theorem dX9_taken_57 : decode cX9_taken 57 = .ok (.iload_n 1, 1) := by decide +kernel
theorem dX9_taken_58 : decode cX9_taken 58 = .ok (.iaload, 1) := by decide +kernel
theorem dX9_taken_59 : decode cX9_taken 59 = .ok (.iconst 0, 1) := by decide +kernel
theorem dX9_taken_60 : decode cX9_taken 60 = .ok (.invokevirtual 79, 3) := by decide +kernel
theorem dX9_taken_63 : decode cX9_taken 63 = .ok (.iload_n 2, 1) := by decide +kernel
theorem dX9_taken_64 : decode cX9_taken 64 = .ok (.invokestatic 121, 3) := by decide +kernel
theorem dX9_taken_67 : decode cX9_taken 67 = .ok (.ifCond .eq 7, 3) := by decide +kernel
theorem dX9_taken_70 : decode cX9_taken 70 = .ok (.iconst 1, 1) := by decide +kernel
theorem dX9_taken_71 : decode cX9_taken 71 = .ok (.goto 17, 3) := by decide +kernel
theorem dX9_taken_74 : decode cX9_taken 74 = .ok (.iconst 0, 1) := by decide +kernel
theorem dX9_taken_75 : decode cX9_taken 75 = .ok (.goto 13, 3) := by decide +kernel
theorem dX9_taken_78 : decode cX9_taken 78 = .ok (.iload_n 3, 1) := by decide +kernel
theorem dX9_taken_79 : decode cX9_taken 79 = .ok (.iload_n 2, 1) := by decide +kernel
theorem dX9_taken_80 : decode cX9_taken 80 = .ok (.if_icmp .ne 7, 3) := by decide +kernel
theorem dX9_taken_83 : decode cX9_taken 83 = .ok (.iconst 1, 1) := by decide +kernel
theorem dX9_taken_84 : decode cX9_taken 84 = .ok (.goto 4, 3) := by decide +kernel
theorem dX9_taken_87 : decode cX9_taken 87 = .ok (.iconst 0, 1) := by decide +kernel
theorem dX9_taken_88 : decode cX9_taken 88 = .ok (.istore 4, 2) := by decide +kernel
theorem dX9_taken_90 : decode cX9_taken 90 = .ok (.iload 4, 2) := by decide +kernel
theorem dX9_taken_92 : decode cX9_taken 92 = .ok (.ifCond .eq 12, 3) := by decide +kernel
theorem dX9_taken_95 : decode cX9_taken 95 = .ok (.aload_n 0, 1) := by decide +kernel
theorem dX9_taken_96 : decode cX9_taken 96 = .ok (.getfield 65, 3) := by decide +kernel
theorem dX9_taken_99 : decode cX9_taken 99 = .ok (.iload_n 1, 1) := by decide +kernel
theorem dX9_taken_100 : decode cX9_taken 100 = .ok (.iaload, 1) := by decide +kernel
theorem dX9_taken_101 : decode cX9_taken 101 = .ok (.goto 5, 3) := by decide +kernel
theorem dX9_taken_104 : decode cX9_taken 104 = .ok (.bipush (-13), 2) := by decide +kernel
theorem dX9_taken_106 : decode cX9_taken 106 = .ok (.ireturn, 1) := by decide +kernel
theorem dX9_starts_0 : decode cX9_starts 0 = .ok (.aload_n 0, 1) := by decide +kernel
theorem dX9_starts_1 : decode cX9_starts 1 = .ok (.getfield 344, 3) := by decide +kernel
theorem dX9_starts_4 : decode cX9_starts 4 = .ok (.bipush 30, 2) := by decide +kernel
theorem dX9_starts_6 : decode cX9_starts 6 = .ok (.if_icmp .ge 23, 3) := by decide +kernel
theorem dX9_starts_9 : decode cX9_starts 9 = .ok (.aload_n 0, 1) := by decide +kernel
theorem dX9_starts_10 : decode cX9_starts 10 = .ok (.getfield 68, 3) := by decide +kernel
theorem dX9_starts_13 : decode cX9_starts 13 = .ok (.aload_n 0, 1) := by decide +kernel
theorem dX9_starts_14 : decode cX9_starts 14 = .ok (.getfield 344, 3) := by decide +kernel
theorem dX9_starts_17 : decode cX9_starts 17 = .ok (.iload_n 1, 1) := by decide +kernel
theorem dX9_starts_18 : decode cX9_starts 18 = .ok (.iastore, 1) := by decide +kernel
theorem dX9_starts_19 : decode cX9_starts 19 = .ok (.aload_n 0, 1) := by decide +kernel
theorem dX9_starts_20 : decode cX9_starts 20 = .ok (.dup, 1) := by decide +kernel
theorem dX9_starts_21 : decode cX9_starts 21 = .ok (.getfield 344, 3) := by decide +kernel
theorem dX9_starts_24 : decode cX9_starts 24 = .ok (.iconst 1, 1) := by decide +kernel
theorem dX9_starts_25 : decode cX9_starts 25 = .ok (.iadd, 1) := by decide +kernel
theorem dX9_starts_26 : decode cX9_starts 26 = .ok (.putfield 344, 3) := by decide +kernel
theorem dX9_starts_29 : decode cX9_starts 29 = .ok (.return_, 1) := by decide +kernel
theorem dX9_sightsAs_0 : decode cX9_sightsAs 0 = .ok (.iload_n 1, 1) := by decide +kernel
theorem dX9_sightsAs_1 : decode cX9_sightsAs 1 = .ok (.iconst 1, 1) := by decide +kernel
theorem dX9_sightsAs_2 : decode cX9_sightsAs 2 = .ok (.if_icmp .ne 19, 3) := by decide +kernel
theorem dX9_sightsAs_5 : decode cX9_sightsAs 5 = .ok (.aload_n 0, 1) := by decide +kernel
theorem dX9_sightsAs_6 : decode cX9_sightsAs 6 = .ok (.bipush 20, 2) := by decide +kernel
theorem dX9_sightsAs_8 : decode cX9_sightsAs 8 = .ok (.invokevirtual 347, 3) := by decide +kernel
theorem dX9_sightsAs_11 : decode cX9_sightsAs 11 = .ok (.aload_n 0, 1) := by decide +kernel
theorem dX9_sightsAs_12 : decode cX9_sightsAs 12 = .ok (.iconst 0, 1) := by decide +kernel
theorem dX9_sightsAs_13 : decode cX9_sightsAs 13 = .ok (.iload_n 2, 1) := by decide +kernel
theorem dX9_sightsAs_14 : decode cX9_sightsAs 14 = .ok (.invokevirtual 350, 3) := by decide +kernel
theorem dX9_sightsAs_17 : decode cX9_sightsAs 17 = .ok (.bipush 21, 2) := by decide +kernel
theorem dX9_sightsAs_19 : decode cX9_sightsAs 19 = .ok (.ixor, 1) := by decide +kernel
theorem dX9_sightsAs_20 : decode cX9_sightsAs 20 = .ok (.ireturn, 1) := by decide +kernel
theorem dX9_sightsAs_21 : decode cX9_sightsAs 21 = .ok (.iload_n 1, 1) := by decide +kernel
theorem dX9_sightsAs_22 : decode cX9_sightsAs 22 = .ok (.iconst 3, 1) := by decide +kernel
theorem dX9_sightsAs_23 : decode cX9_sightsAs 23 = .ok (.if_icmp .ne 19, 3) := by decide +kernel
theorem dX9_sightsAs_26 : decode cX9_sightsAs 26 = .ok (.aload_n 0, 1) := by decide +kernel
theorem dX9_sightsAs_27 : decode cX9_sightsAs 27 = .ok (.bipush 50, 2) := by decide +kernel
theorem dX9_sightsAs_29 : decode cX9_sightsAs 29 = .ok (.invokevirtual 347, 3) := by decide +kernel
theorem dX9_sightsAs_32 : decode cX9_sightsAs 32 = .ok (.aload_n 0, 1) := by decide +kernel
theorem dX9_sightsAs_33 : decode cX9_sightsAs 33 = .ok (.iconst 2, 1) := by decide +kernel
theorem dX9_sightsAs_34 : decode cX9_sightsAs 34 = .ok (.iload_n 2, 1) := by decide +kernel
theorem dX9_sightsAs_35 : decode cX9_sightsAs 35 = .ok (.bipush 13, 2) := by decide +kernel
theorem dX9_sightsAs_37 : decode cX9_sightsAs 37 = .ok (.iadd, 1) := by decide +kernel
theorem dX9_sightsAs_38 : decode cX9_sightsAs 38 = .ok (.invokevirtual 350, 3) := by decide +kernel
theorem dX9_sightsAs_41 : decode cX9_sightsAs 41 = .ok (.ireturn, 1) := by decide +kernel
theorem dX9_sightsAs_42 : decode cX9_sightsAs 42 = .ok (.aload_n 0, 1) := by decide +kernel
theorem dX9_sightsAs_43 : decode cX9_sightsAs 43 = .ok (.bipush 10, 2) := by decide +kernel
theorem dX9_sightsAs_45 : decode cX9_sightsAs 45 = .ok (.invokevirtual 347, 3) := by decide +kernel
theorem dX9_sightsAs_48 : decode cX9_sightsAs 48 = .ok (.iload_n 2, 1) := by decide +kernel
theorem dX9_sightsAs_49 : decode cX9_sightsAs 49 = .ok (.bipush 9, 2) := by decide +kernel
theorem dX9_sightsAs_51 : decode cX9_sightsAs 51 = .ok (.imul, 1) := by decide +kernel
theorem dX9_sightsAs_52 : decode cX9_sightsAs 52 = .ok (.aload_n 0, 1) := by decide +kernel
theorem dX9_sightsAs_53 : decode cX9_sightsAs 53 = .ok (.getfield 353, 3) := by decide +kernel
theorem dX9_sightsAs_56 : decode cX9_sightsAs 56 = .ok (.isub, 1) := by decide +kernel
theorem dX9_sightsAs_57 : decode cX9_sightsAs 57 = .ok (.ireturn, 1) := by decide +kernel
theorem dX9_tacksAs_0 : decode cX9_tacksAs 0 = .ok (.iload_n 1, 1) := by decide +kernel
theorem dX9_tacksAs_1 : decode cX9_tacksAs 1 = .ok (.iconst 2, 1) := by decide +kernel
theorem dX9_tacksAs_2 : decode cX9_tacksAs 2 = .ok (.if_icmp .eq 8, 3) := by decide +kernel
theorem dX9_tacksAs_5 : decode cX9_tacksAs 5 = .ok (.iload_n 1, 1) := by decide +kernel
theorem dX9_tacksAs_6 : decode cX9_tacksAs 6 = .ok (.iconst 3, 1) := by decide +kernel
theorem dX9_tacksAs_7 : decode cX9_tacksAs 7 = .ok (.if_icmp .ne 18, 3) := by decide +kernel
theorem dX9_tacksAs_10 : decode cX9_tacksAs 10 = .ok (.aload_n 0, 1) := by decide +kernel
theorem dX9_tacksAs_11 : decode cX9_tacksAs 11 = .ok (.bipush 30, 2) := by decide +kernel
theorem dX9_tacksAs_13 : decode cX9_tacksAs 13 = .ok (.invokevirtual 347, 3) := by decide +kernel
theorem dX9_tacksAs_16 : decode cX9_tacksAs 16 = .ok (.aload_n 0, 1) := by decide +kernel
theorem dX9_tacksAs_17 : decode cX9_tacksAs 17 = .ok (.iconst 0, 1) := by decide +kernel
theorem dX9_tacksAs_18 : decode cX9_tacksAs 18 = .ok (.iload_n 2, 1) := by decide +kernel
theorem dX9_tacksAs_19 : decode cX9_tacksAs 19 = .ok (.invokevirtual 356, 3) := by decide +kernel
theorem dX9_tacksAs_22 : decode cX9_tacksAs 22 = .ok (.iconst 2, 1) := by decide +kernel
theorem dX9_tacksAs_23 : decode cX9_tacksAs 23 = .ok (.imul, 1) := by decide +kernel
theorem dX9_tacksAs_24 : decode cX9_tacksAs 24 = .ok (.ireturn, 1) := by decide +kernel
theorem dX9_tacksAs_25 : decode cX9_tacksAs 25 = .ok (.iload_n 1, 1) := by decide +kernel
theorem dX9_tacksAs_26 : decode cX9_tacksAs 26 = .ok (.iconst 5, 1) := by decide +kernel
theorem dX9_tacksAs_27 : decode cX9_tacksAs 27 = .ok (.if_icmp .ne 17, 3) := by decide +kernel
theorem dX9_tacksAs_30 : decode cX9_tacksAs 30 = .ok (.aload_n 0, 1) := by decide +kernel
theorem dX9_tacksAs_31 : decode cX9_tacksAs 31 = .ok (.bipush 60, 2) := by decide +kernel
theorem dX9_tacksAs_33 : decode cX9_tacksAs 33 = .ok (.invokevirtual 347, 3) := by decide +kernel
theorem dX9_tacksAs_36 : decode cX9_tacksAs 36 = .ok (.aload_n 0, 1) := by decide +kernel
theorem dX9_tacksAs_37 : decode cX9_tacksAs 37 = .ok (.iconst 4, 1) := by decide +kernel
theorem dX9_tacksAs_38 : decode cX9_tacksAs 38 = .ok (.iload_n 2, 1) := by decide +kernel
theorem dX9_tacksAs_39 : decode cX9_tacksAs 39 = .ok (.invokevirtual 356, 3) := by decide +kernel
theorem dX9_tacksAs_42 : decode cX9_tacksAs 42 = .ok (.ineg, 1) := by decide +kernel
theorem dX9_tacksAs_43 : decode cX9_tacksAs 43 = .ok (.ireturn, 1) := by decide +kernel
theorem dX9_tacksAs_44 : decode cX9_tacksAs 44 = .ok (.aload_n 0, 1) := by decide +kernel
theorem dX9_tacksAs_45 : decode cX9_tacksAs 45 = .ok (.bipush 11, 2) := by decide +kernel
theorem dX9_tacksAs_47 : decode cX9_tacksAs 47 = .ok (.invokevirtual 347, 3) := by decide +kernel
theorem dX9_tacksAs_50 : decode cX9_tacksAs 50 = .ok (.aload_n 0, 1) := by decide +kernel
theorem dX9_tacksAs_51 : decode cX9_tacksAs 51 = .ok (.aload_n 0, 1) := by decide +kernel
theorem dX9_tacksAs_52 : decode cX9_tacksAs 52 = .ok (.aload_n 0, 1) := by decide +kernel
theorem dX9_tacksAs_53 : decode cX9_tacksAs 53 = .ok (.getfield 353, 3) := by decide +kernel
theorem dX9_tacksAs_56 : decode cX9_tacksAs 56 = .ok (.iconst 0, 1) := by decide +kernel
theorem dX9_tacksAs_57 : decode cX9_tacksAs 57 = .ok (.invokevirtual 79, 3) := by decide +kernel
theorem dX9_tacksAs_60 : decode cX9_tacksAs 60 = .ok (.iload_n 2, 1) := by decide +kernel
theorem dX9_tacksAs_61 : decode cX9_tacksAs 61 = .ok (.invokevirtual 350, 3) := by decide +kernel
theorem dX9_tacksAs_64 : decode cX9_tacksAs 64 = .ok (.iconst 3, 1) := by decide +kernel
theorem dX9_tacksAs_65 : decode cX9_tacksAs 65 = .ok (.aload_n 0, 1) := by decide +kernel
theorem dX9_tacksAs_66 : decode cX9_tacksAs 66 = .ok (.aload_n 0, 1) := by decide +kernel
theorem dX9_tacksAs_67 : decode cX9_tacksAs 67 = .ok (.getfield 353, 3) := by decide +kernel
theorem dX9_tacksAs_70 : decode cX9_tacksAs 70 = .ok (.iconst 3, 1) := by decide +kernel
theorem dX9_tacksAs_71 : decode cX9_tacksAs 71 = .ok (.invokevirtual 79, 3) := by decide +kernel
theorem dX9_tacksAs_74 : decode cX9_tacksAs 74 = .ok (.imul, 1) := by decide +kernel
theorem dX9_tacksAs_75 : decode cX9_tacksAs 75 = .ok (.isub, 1) := by decide +kernel
theorem dX9_tacksAs_76 : decode cX9_tacksAs 76 = .ok (.ireturn, 1) := by decide +kernel
theorem dX9_soundsAs_0 : decode cX9_soundsAs 0 = .ok (.iload_n 1, 1) := by decide +kernel
theorem dX9_soundsAs_1 : decode cX9_soundsAs 1 = .ok (.iconst 5, 1) := by decide +kernel
theorem dX9_soundsAs_2 : decode cX9_soundsAs 2 = .ok (.if_icmp .ne 39, 3) := by decide +kernel
theorem dX9_soundsAs_5 : decode cX9_soundsAs 5 = .ok (.aload_n 0, 1) := by decide +kernel
theorem dX9_soundsAs_6 : decode cX9_soundsAs 6 = .ok (.bipush 61, 2) := by decide +kernel
theorem dX9_soundsAs_8 : decode cX9_soundsAs 8 = .ok (.invokevirtual 347, 3) := by decide +kernel
theorem dX9_soundsAs_11 : decode cX9_soundsAs 11 = .ok (.aload_n 0, 1) := by decide +kernel
theorem dX9_soundsAs_12 : decode cX9_soundsAs 12 = .ok (.iconst 4, 1) := by decide +kernel
theorem dX9_soundsAs_13 : decode cX9_soundsAs 13 = .ok (.iload_n 2, 1) := by decide +kernel
theorem dX9_soundsAs_14 : decode cX9_soundsAs 14 = .ok (.invokevirtual 359, 3) := by decide +kernel
theorem dX9_soundsAs_17 : decode cX9_soundsAs 17 = .ok (.istore_n 3, 1) := by decide +kernel
theorem dX9_soundsAs_18 : decode cX9_soundsAs 18 = .ok (.aload_n 0, 1) := by decide +kernel
theorem dX9_soundsAs_19 : decode cX9_soundsAs 19 = .ok (.getfield 362, 3) := by decide +kernel
theorem dX9_soundsAs_22 : decode cX9_soundsAs 22 = .ok (.ifCond .eq 7, 3) := by decide +kernel
theorem dX9_soundsAs_25 : decode cX9_soundsAs 25 = .ok (.iconst 0, 1) := by decide +kernel
theorem dX9_soundsAs_26 : decode cX9_soundsAs 26 = .ok (.goto 14, 3) := by decide +kernel
theorem dX9_soundsAs_29 : decode cX9_soundsAs 29 = .ok (.iload_n 3, 1) := by decide +kernel
theorem dX9_soundsAs_30 : decode cX9_soundsAs 30 = .ok (.aload_n 0, 1) := by decide +kernel
theorem dX9_soundsAs_31 : decode cX9_soundsAs 31 = .ok (.iconst 5, 1) := by decide +kernel
theorem dX9_soundsAs_32 : decode cX9_soundsAs 32 = .ok (.aload_n 0, 1) := by decide +kernel
theorem dX9_soundsAs_33 : decode cX9_soundsAs 33 = .ok (.getfield 353, 3) := by decide +kernel
theorem dX9_soundsAs_36 : decode cX9_soundsAs 36 = .ok (.invokevirtual 350, 3) := by decide +kernel
theorem dX9_soundsAs_39 : decode cX9_soundsAs 39 = .ok (.ixor, 1) := by decide +kernel
theorem dX9_soundsAs_40 : decode cX9_soundsAs 40 = .ok (.ireturn, 1) := by decide +kernel
theorem dX9_soundsAs_41 : decode cX9_soundsAs 41 = .ok (.iload_n 1, 1) := by decide +kernel
theorem dX9_soundsAs_42 : decode cX9_soundsAs 42 = .ok (.iconst 4, 1) := by decide +kernel
theorem dX9_soundsAs_43 : decode cX9_soundsAs 43 = .ok (.if_icmp .ne 19, 3) := by decide +kernel
theorem dX9_soundsAs_46 : decode cX9_soundsAs 46 = .ok (.aload_n 0, 1) := by decide +kernel
theorem dX9_soundsAs_47 : decode cX9_soundsAs 47 = .ok (.bipush 40, 2) := by decide +kernel
theorem dX9_soundsAs_49 : decode cX9_soundsAs 49 = .ok (.invokevirtual 347, 3) := by decide +kernel
theorem dX9_soundsAs_52 : decode cX9_soundsAs 52 = .ok (.aload_n 0, 1) := by decide +kernel
theorem dX9_soundsAs_53 : decode cX9_soundsAs 53 = .ok (.iconst 0, 1) := by decide +kernel
theorem dX9_soundsAs_54 : decode cX9_soundsAs 54 = .ok (.iload_n 2, 1) := by decide +kernel
theorem dX9_soundsAs_55 : decode cX9_soundsAs 55 = .ok (.invokevirtual 359, 3) := by decide +kernel
theorem dX9_soundsAs_58 : decode cX9_soundsAs 58 = .ok (.bipush 7, 2) := by decide +kernel
theorem dX9_soundsAs_60 : decode cX9_soundsAs 60 = .ok (.iadd, 1) := by decide +kernel
theorem dX9_soundsAs_61 : decode cX9_soundsAs 61 = .ok (.ireturn, 1) := by decide +kernel
theorem dX9_soundsAs_62 : decode cX9_soundsAs 62 = .ok (.aload_n 0, 1) := by decide +kernel
theorem dX9_soundsAs_63 : decode cX9_soundsAs 63 = .ok (.bipush 12, 2) := by decide +kernel
theorem dX9_soundsAs_65 : decode cX9_soundsAs 65 = .ok (.invokevirtual 347, 3) := by decide +kernel
theorem dX9_soundsAs_68 : decode cX9_soundsAs 68 = .ok (.aload_n 0, 1) := by decide +kernel
theorem dX9_soundsAs_69 : decode cX9_soundsAs 69 = .ok (.getfield 353, 3) := by decide +kernel
theorem dX9_soundsAs_72 : decode cX9_soundsAs 72 = .ok (.aload_n 0, 1) := by decide +kernel
theorem dX9_soundsAs_73 : decode cX9_soundsAs 73 = .ok (.aload_n 0, 1) := by decide +kernel
theorem dX9_soundsAs_74 : decode cX9_soundsAs 74 = .ok (.getfield 353, 3) := by decide +kernel
theorem dX9_soundsAs_77 : decode cX9_soundsAs 77 = .ok (.iconst 3, 1) := by decide +kernel
theorem dX9_soundsAs_78 : decode cX9_soundsAs 78 = .ok (.invokevirtual 79, 3) := by decide +kernel
theorem dX9_soundsAs_81 : decode cX9_soundsAs 81 = .ok (.iadd, 1) := by decide +kernel
theorem dX9_soundsAs_82 : decode cX9_soundsAs 82 = .ok (.iconst 5, 1) := by decide +kernel
theorem dX9_soundsAs_83 : decode cX9_soundsAs 83 = .ok (.isub, 1) := by decide +kernel
theorem dX9_soundsAs_84 : decode cX9_soundsAs 84 = .ok (.istore_n 3, 1) := by decide +kernel
theorem dX9_soundsAs_85 : decode cX9_soundsAs 85 = .ok (.aload_n 0, 1) := by decide +kernel
theorem dX9_soundsAs_86 : decode cX9_soundsAs 86 = .ok (.aload_n 0, 1) := by decide +kernel
theorem dX9_soundsAs_87 : decode cX9_soundsAs 87 = .ok (.getfield 362, 3) := by decide +kernel
theorem dX9_soundsAs_90 : decode cX9_soundsAs 90 = .ok (.ifCond .ne 7, 3) := by decide +kernel
theorem dX9_soundsAs_93 : decode cX9_soundsAs 93 = .ok (.iload_n 3, 1) := by decide +kernel
theorem dX9_soundsAs_94 : decode cX9_soundsAs 94 = .ok (.ifCond .ne 7, 3) := by decide +kernel
theorem dX9_soundsAs_97 : decode cX9_soundsAs 97 = .ok (.iconst 1, 1) := by decide +kernel
theorem dX9_soundsAs_98 : decode cX9_soundsAs 98 = .ok (.goto 4, 3) := by decide +kernel
theorem dX9_soundsAs_101 : decode cX9_soundsAs 101 = .ok (.iconst 0, 1) := by decide +kernel
theorem dX9_soundsAs_102 : decode cX9_soundsAs 102 = .ok (.putfield 362, 3) := by decide +kernel
theorem dX9_soundsAs_105 : decode cX9_soundsAs 105 = .ok (.aload_n 0, 1) := by decide +kernel
theorem dX9_soundsAs_106 : decode cX9_soundsAs 106 = .ok (.getfield 362, 3) := by decide +kernel
theorem dX9_soundsAs_109 : decode cX9_soundsAs 109 = .ok (.ifCond .eq 7, 3) := by decide +kernel
theorem dX9_soundsAs_112 : decode cX9_soundsAs 112 = .ok (.iconst 0, 1) := by decide +kernel
theorem dX9_soundsAs_113 : decode cX9_soundsAs 113 = .ok (.goto 6, 3) := by decide +kernel
theorem dX9_soundsAs_116 : decode cX9_soundsAs 116 = .ok (.iload_n 2, 1) := by decide +kernel
theorem dX9_soundsAs_117 : decode cX9_soundsAs 117 = .ok (.iload_n 3, 1) := by decide +kernel
theorem dX9_soundsAs_118 : decode cX9_soundsAs 118 = .ok (.irem, 1) := by decide +kernel
theorem dX9_soundsAs_119 : decode cX9_soundsAs 119 = .ok (.ireturn, 1) := by decide +kernel
theorem dX9_landsAs_0 : decode cX9_landsAs 0 = .ok (.iload_n 1, 1) := by decide +kernel
theorem dX9_landsAs_1 : decode cX9_landsAs 1 = .ok (.iconst 3, 1) := by decide +kernel
theorem dX9_landsAs_2 : decode cX9_landsAs 2 = .ok (.if_icmp .ne 44, 3) := by decide +kernel
theorem dX9_landsAs_5 : decode cX9_landsAs 5 = .ok (.aload_n 0, 1) := by decide +kernel
theorem dX9_landsAs_6 : decode cX9_landsAs 6 = .ok (.bipush 51, 2) := by decide +kernel
theorem dX9_landsAs_8 : decode cX9_landsAs 8 = .ok (.invokevirtual 347, 3) := by decide +kernel
theorem dX9_landsAs_11 : decode cX9_landsAs 11 = .ok (.aload_n 0, 1) := by decide +kernel
theorem dX9_landsAs_12 : decode cX9_landsAs 12 = .ok (.iconst 2, 1) := by decide +kernel
theorem dX9_landsAs_13 : decode cX9_landsAs 13 = .ok (.iload_n 2, 1) := by decide +kernel
theorem dX9_landsAs_14 : decode cX9_landsAs 14 = .ok (.invokevirtual 366, 3) := by decide +kernel
theorem dX9_landsAs_17 : decode cX9_landsAs 17 = .ok (.istore_n 3, 1) := by decide +kernel
theorem dX9_landsAs_18 : decode cX9_landsAs 18 = .ok (.aload_n 0, 1) := by decide +kernel
theorem dX9_landsAs_19 : decode cX9_landsAs 19 = .ok (.getfield 362, 3) := by decide +kernel
theorem dX9_landsAs_22 : decode cX9_landsAs 22 = .ok (.ifCond .eq 7, 3) := by decide +kernel
theorem dX9_landsAs_25 : decode cX9_landsAs 25 = .ok (.iconst 0, 1) := by decide +kernel
theorem dX9_landsAs_26 : decode cX9_landsAs 26 = .ok (.goto 19, 3) := by decide +kernel
theorem dX9_landsAs_29 : decode cX9_landsAs 29 = .ok (.iload_n 3, 1) := by decide +kernel
theorem dX9_landsAs_30 : decode cX9_landsAs 30 = .ok (.aload_n 0, 1) := by decide +kernel
theorem dX9_landsAs_31 : decode cX9_landsAs 31 = .ok (.iconst 3, 1) := by decide +kernel
theorem dX9_landsAs_32 : decode cX9_landsAs 32 = .ok (.aload_n 0, 1) := by decide +kernel
theorem dX9_landsAs_33 : decode cX9_landsAs 33 = .ok (.aload_n 0, 1) := by decide +kernel
theorem dX9_landsAs_34 : decode cX9_landsAs 34 = .ok (.getfield 353, 3) := by decide +kernel
theorem dX9_landsAs_37 : decode cX9_landsAs 37 = .ok (.iconst 3, 1) := by decide +kernel
theorem dX9_landsAs_38 : decode cX9_landsAs 38 = .ok (.invokevirtual 79, 3) := by decide +kernel
theorem dX9_landsAs_41 : decode cX9_landsAs 41 = .ok (.invokevirtual 356, 3) := by decide +kernel
theorem dX9_landsAs_44 : decode cX9_landsAs 44 = .ok (.isub, 1) := by decide +kernel
theorem dX9_landsAs_45 : decode cX9_landsAs 45 = .ok (.ireturn, 1) := by decide +kernel
theorem dX9_landsAs_46 : decode cX9_landsAs 46 = .ok (.aload_n 0, 1) := by decide +kernel
theorem dX9_landsAs_47 : decode cX9_landsAs 47 = .ok (.bipush 13, 2) := by decide +kernel
theorem dX9_landsAs_49 : decode cX9_landsAs 49 = .ok (.invokevirtual 347, 3) := by decide +kernel
theorem dX9_landsAs_52 : decode cX9_landsAs 52 = .ok (.aload_n 0, 1) := by decide +kernel
theorem dX9_landsAs_53 : decode cX9_landsAs 53 = .ok (.aload_n 0, 1) := by decide +kernel
theorem dX9_landsAs_54 : decode cX9_landsAs 54 = .ok (.aload_n 0, 1) := by decide +kernel
theorem dX9_landsAs_55 : decode cX9_landsAs 55 = .ok (.getfield 353, 3) := by decide +kernel
theorem dX9_landsAs_58 : decode cX9_landsAs 58 = .ok (.iconst 0, 1) := by decide +kernel
theorem dX9_landsAs_59 : decode cX9_landsAs 59 = .ok (.invokevirtual 79, 3) := by decide +kernel
theorem dX9_landsAs_62 : decode cX9_landsAs 62 = .ok (.iload_n 2, 1) := by decide +kernel
theorem dX9_landsAs_63 : decode cX9_landsAs 63 = .ok (.invokevirtual 356, 3) := by decide +kernel
theorem dX9_landsAs_66 : decode cX9_landsAs 66 = .ok (.istore_n 3, 1) := by decide +kernel
theorem dX9_landsAs_67 : decode cX9_landsAs 67 = .ok (.iload_n 3, 1) := by decide +kernel
theorem dX9_landsAs_68 : decode cX9_landsAs 68 = .ok (.aload_n 0, 1) := by decide +kernel
theorem dX9_landsAs_69 : decode cX9_landsAs 69 = .ok (.aload_n 0, 1) := by decide +kernel
theorem dX9_landsAs_70 : decode cX9_landsAs 70 = .ok (.aload_n 0, 1) := by decide +kernel
theorem dX9_landsAs_71 : decode cX9_landsAs 71 = .ok (.getfield 353, 3) := by decide +kernel
theorem dX9_landsAs_74 : decode cX9_landsAs 74 = .ok (.iconst 0, 1) := by decide +kernel
theorem dX9_landsAs_75 : decode cX9_landsAs 75 = .ok (.invokevirtual 79, 3) := by decide +kernel
theorem dX9_landsAs_78 : decode cX9_landsAs 78 = .ok (.iload_n 2, 1) := by decide +kernel
theorem dX9_landsAs_79 : decode cX9_landsAs 79 = .ok (.invokevirtual 359, 3) := by decide +kernel
theorem dX9_landsAs_82 : decode cX9_landsAs 82 = .ok (.iadd, 1) := by decide +kernel
theorem dX9_landsAs_83 : decode cX9_landsAs 83 = .ok (.ireturn, 1) := by decide +kernel
theorem dX9_act_0 : decode cX9_act 0 = .ok (.aload_n 0, 1) := by decide +kernel
theorem dX9_act_1 : decode cX9_act 1 = .ok (.iconst 0, 1) := by decide +kernel
theorem dX9_act_2 : decode cX9_act 2 = .ok (.putfield 344, 3) := by decide +kernel
theorem dX9_act_5 : decode cX9_act 5 = .ok (.iload_n 1, 1) := by decide +kernel
theorem dX9_act_6 : decode cX9_act 6 = .ok (.invokestatic 329, 3) := by decide +kernel
theorem dX9_act_9 : decode cX9_act 9 = .ok (.ifCond .eq 20, 3) := by decide +kernel
theorem dX9_act_12 : decode cX9_act 12 = .ok (.iload_n 2, 1) := by decide +kernel
theorem dX9_act_13 : decode cX9_act 13 = .ok (.iconst 0, 1) := by decide +kernel
theorem dX9_act_14 : decode cX9_act 14 = .ok (.iconst 3, 1) := by decide +kernel
theorem dX9_act_15 : decode cX9_act 15 = .ok (.invokestatic 71, 3) := by decide +kernel
theorem dX9_act_18 : decode cX9_act 18 = .ok (.ifCond .eq 11, 3) := by decide +kernel
theorem dX9_act_21 : decode cX9_act 21 = .ok (.aload_n 0, 1) := by decide +kernel
theorem dX9_act_22 : decode cX9_act 22 = .ok (.iload_n 1, 1) := by decide +kernel
theorem dX9_act_23 : decode cX9_act 23 = .ok (.invokevirtual 341, 3) := by decide +kernel
theorem dX9_act_26 : decode cX9_act 26 = .ok (.ifCond .eq 5, 3) := by decide +kernel
theorem dX9_act_29 : decode cX9_act 29 = .ok (.iconst 0, 1) := by decide +kernel
theorem dX9_act_30 : decode cX9_act 30 = .ok (.ireturn, 1) := by decide +kernel
theorem dX9_act_31 : decode cX9_act 31 = .ok (.aload_n 0, 1) := by decide +kernel
theorem dX9_act_32 : decode cX9_act 32 = .ok (.aload_n 0, 1) := by decide +kernel
theorem dX9_act_33 : decode cX9_act 33 = .ok (.getfield 65, 3) := by decide +kernel
theorem dX9_act_36 : decode cX9_act 36 = .ok (.iload_n 1, 1) := by decide +kernel
theorem dX9_act_37 : decode cX9_act 37 = .ok (.iaload, 1) := by decide +kernel
theorem dX9_act_38 : decode cX9_act 38 = .ok (.putfield 353, 3) := by decide +kernel
theorem dX9_act_41 : decode cX9_act 41 = .ok (.aload_n 0, 1) := by decide +kernel
theorem dX9_act_42 : decode cX9_act 42 = .ok (.iconst 0, 1) := by decide +kernel
theorem dX9_act_43 : decode cX9_act 43 = .ok (.putfield 362, 3) := by decide +kernel
theorem dX9_act_46 : decode cX9_act 46 = .ok (.aload_n 0, 1) := by decide +kernel
theorem dX9_act_47 : decode cX9_act 47 = .ok (.aload_n 0, 1) := by decide +kernel
theorem dX9_act_48 : decode cX9_act 48 = .ok (.getfield 353, 3) := by decide +kernel
theorem dX9_act_51 : decode cX9_act 51 = .ok (.iconst 0, 1) := by decide +kernel
theorem dX9_act_52 : decode cX9_act 52 = .ok (.invokevirtual 79, 3) := by decide +kernel
theorem dX9_act_55 : decode cX9_act 55 = .ok (.istore 4, 2) := by decide +kernel
theorem dX9_act_57 : decode cX9_act 57 = .ok (.iload_n 2, 1) := by decide +kernel
theorem dX9_act_58 : decode cX9_act 58 = .ok (.ifCond .ne 13, 3) := by decide +kernel
theorem dX9_act_61 : decode cX9_act 61 = .ok (.aload_n 0, 1) := by decide +kernel
theorem dX9_act_62 : decode cX9_act 62 = .ok (.iload 4, 2) := by decide +kernel
theorem dX9_act_64 : decode cX9_act 64 = .ok (.iload_n 3, 1) := by decide +kernel
theorem dX9_act_65 : decode cX9_act 65 = .ok (.invokevirtual 350, 3) := by decide +kernel
theorem dX9_act_68 : decode cX9_act 68 = .ok (.goto 40, 3) := by decide +kernel
theorem dX9_act_71 : decode cX9_act 71 = .ok (.iload_n 2, 1) := by decide +kernel
theorem dX9_act_72 : decode cX9_act 72 = .ok (.iconst 1, 1) := by decide +kernel
theorem dX9_act_73 : decode cX9_act 73 = .ok (.if_icmp .ne 13, 3) := by decide +kernel
theorem dX9_act_76 : decode cX9_act 76 = .ok (.aload_n 0, 1) := by decide +kernel
theorem dX9_act_77 : decode cX9_act 77 = .ok (.iload 4, 2) := by decide +kernel
theorem dX9_act_79 : decode cX9_act 79 = .ok (.iload_n 3, 1) := by decide +kernel
theorem dX9_act_80 : decode cX9_act 80 = .ok (.invokevirtual 356, 3) := by decide +kernel
theorem dX9_act_83 : decode cX9_act 83 = .ok (.goto 25, 3) := by decide +kernel
theorem dX9_act_86 : decode cX9_act 86 = .ok (.iload_n 2, 1) := by decide +kernel
theorem dX9_act_87 : decode cX9_act 87 = .ok (.iconst 2, 1) := by decide +kernel
theorem dX9_act_88 : decode cX9_act 88 = .ok (.if_icmp .ne 13, 3) := by decide +kernel
theorem dX9_act_91 : decode cX9_act 91 = .ok (.aload_n 0, 1) := by decide +kernel
theorem dX9_act_92 : decode cX9_act 92 = .ok (.iload 4, 2) := by decide +kernel
theorem dX9_act_94 : decode cX9_act 94 = .ok (.iload_n 3, 1) := by decide +kernel
theorem dX9_act_95 : decode cX9_act 95 = .ok (.invokevirtual 359, 3) := by decide +kernel
theorem dX9_act_98 : decode cX9_act 98 = .ok (.goto 10, 3) := by decide +kernel
theorem dX9_act_101 : decode cX9_act 101 = .ok (.aload_n 0, 1) := by decide +kernel
theorem dX9_act_102 : decode cX9_act 102 = .ok (.iload 4, 2) := by decide +kernel
theorem dX9_act_104 : decode cX9_act 104 = .ok (.iload_n 3, 1) := by decide +kernel
theorem dX9_act_105 : decode cX9_act 105 = .ok (.invokevirtual 366, 3) := by decide +kernel
theorem dX9_act_108 : decode cX9_act 108 = .ok (.istore 5, 2) := by decide +kernel
theorem dX9_act_110 : decode cX9_act 110 = .ok (.aload_n 0, 1) := by decide +kernel
theorem dX9_act_111 : decode cX9_act 111 = .ok (.getfield 362, 3) := by decide +kernel
theorem dX9_act_114 : decode cX9_act 114 = .ok (.ifCond .eq 8, 3) := by decide +kernel
theorem dX9_act_117 : decode cX9_act 117 = .ok (.bipush (-15), 2) := by decide +kernel
theorem dX9_act_119 : decode cX9_act 119 = .ok (.goto 5, 3) := by decide +kernel
theorem dX9_act_122 : decode cX9_act 122 = .ok (.iload 5, 2) := by decide +kernel
theorem dX9_act_124 : decode cX9_act 124 = .ok (.ireturn, 1) := by decide +kernel
theorem dX9_trace_0 : decode cX9_trace 0 = .ok (.iload_n 1, 1) := by decide +kernel
theorem dX9_trace_1 : decode cX9_trace 1 = .ok (.iconst 0, 1) := by decide +kernel
theorem dX9_trace_2 : decode cX9_trace 2 = .ok (.aload_n 0, 1) := by decide +kernel
theorem dX9_trace_3 : decode cX9_trace 3 = .ok (.getfield 344, 3) := by decide +kernel
theorem dX9_trace_6 : decode cX9_trace 6 = .ok (.iconst 1, 1) := by decide +kernel
theorem dX9_trace_7 : decode cX9_trace 7 = .ok (.isub, 1) := by decide +kernel
theorem dX9_trace_8 : decode cX9_trace 8 = .ok (.invokestatic 71, 3) := by decide +kernel
theorem dX9_trace_11 : decode cX9_trace 11 = .ok (.ifCond .eq 12, 3) := by decide +kernel
theorem dX9_trace_14 : decode cX9_trace 14 = .ok (.aload_n 0, 1) := by decide +kernel
theorem dX9_trace_15 : decode cX9_trace 15 = .ok (.getfield 68, 3) := by decide +kernel
theorem dX9_trace_18 : decode cX9_trace 18 = .ok (.iload_n 1, 1) := by decide +kernel
theorem dX9_trace_19 : decode cX9_trace 19 = .ok (.iaload, 1) := by decide +kernel
theorem dX9_trace_20 : decode cX9_trace 20 = .ok (.goto 5, 3) := by decide +kernel
theorem dX9_trace_23 : decode cX9_trace 23 = .ok (.bipush (-3), 2) := by decide +kernel
theorem dX9_trace_25 : decode cX9_trace 25 = .ok (.ireturn, 1) := by decide +kernel
theorem dX9_ones_0 : decode cX9_ones 0 = .ok (.iconst 0, 1) := by decide +kernel
theorem dX9_ones_1 : decode cX9_ones 1 = .ok (.istore_n 1, 1) := by decide +kernel
theorem dX9_ones_2 : decode cX9_ones 2 = .ok (.iload_n 0, 1) := by decide +kernel
theorem dX9_ones_3 : decode cX9_ones 3 = .ok (.istore_n 2, 1) := by decide +kernel
theorem dX9_ones_4 : decode cX9_ones 4 = .ok (.iload_n 2, 1) := by decide +kernel
theorem dX9_ones_5 : decode cX9_ones 5 = .ok (.ifCond .eq 15, 3) := by decide +kernel
theorem dX9_ones_8 : decode cX9_ones 8 = .ok (.iinc 1 1, 3) := by decide +kernel
theorem dX9_ones_11 : decode cX9_ones 11 = .ok (.iload_n 2, 1) := by decide +kernel
theorem dX9_ones_12 : decode cX9_ones 12 = .ok (.iload_n 2, 1) := by decide +kernel
theorem dX9_ones_13 : decode cX9_ones 13 = .ok (.iconst 1, 1) := by decide +kernel
theorem dX9_ones_14 : decode cX9_ones 14 = .ok (.isub, 1) := by decide +kernel
theorem dX9_ones_15 : decode cX9_ones 15 = .ok (.iand, 1) := by decide +kernel
theorem dX9_ones_16 : decode cX9_ones 16 = .ok (.istore_n 2, 1) := by decide +kernel
theorem dX9_ones_17 : decode cX9_ones 17 = .ok (.goto (-13), 3) := by decide +kernel
theorem dX9_ones_20 : decode cX9_ones 20 = .ok (.iload_n 1, 1) := by decide +kernel
theorem dX9_ones_21 : decode cX9_ones 21 = .ok (.ireturn, 1) := by decide +kernel
theorem dX9_many_0 : decode cX9_many 0 = .ok (.iload_n 1, 1) := by decide +kernel
theorem dX9_many_1 : decode cX9_many 1 = .ok (.tableswitch 89 0 6 #[43, 50, 57, 66, 74, 79, 84], 43) := by decide +kernel
theorem dX9_many_44 : decode cX9_many 44 = .ok (.aload_n 0, 1) := by decide +kernel
theorem dX9_many_45 : decode cX9_many 45 = .ok (.getfield 9, 3) := by decide +kernel
theorem dX9_many_48 : decode cX9_many 48 = .ok (.iconst 4, 1) := by decide +kernel
theorem dX9_many_49 : decode cX9_many 49 = .ok (.iaload, 1) := by decide +kernel
theorem dX9_many_50 : decode cX9_many 50 = .ok (.ireturn, 1) := by decide +kernel
theorem dX9_many_51 : decode cX9_many 51 = .ok (.aload_n 0, 1) := by decide +kernel
theorem dX9_many_52 : decode cX9_many 52 = .ok (.getfield 9, 3) := by decide +kernel
theorem dX9_many_55 : decode cX9_many 55 = .ok (.iconst 5, 1) := by decide +kernel
theorem dX9_many_56 : decode cX9_many 56 = .ok (.iaload, 1) := by decide +kernel
theorem dX9_many_57 : decode cX9_many 57 = .ok (.ireturn, 1) := by decide +kernel
theorem dX9_many_58 : decode cX9_many 58 = .ok (.aload_n 0, 1) := by decide +kernel
theorem dX9_many_59 : decode cX9_many 59 = .ok (.iconst 4, 1) := by decide +kernel
theorem dX9_many_60 : decode cX9_many 60 = .ok (.invokevirtual 235, 3) := by decide +kernel
theorem dX9_many_63 : decode cX9_many 63 = .ok (.invokestatic 369, 3) := by decide +kernel
theorem dX9_many_66 : decode cX9_many 66 = .ok (.ireturn, 1) := by decide +kernel
theorem dX9_many_67 : decode cX9_many 67 = .ok (.aload_n 0, 1) := by decide +kernel
theorem dX9_many_68 : decode cX9_many 68 = .ok (.getfield 9, 3) := by decide +kernel
theorem dX9_many_71 : decode cX9_many 71 = .ok (.bipush 6, 2) := by decide +kernel
theorem dX9_many_73 : decode cX9_many 73 = .ok (.iaload, 1) := by decide +kernel
theorem dX9_many_74 : decode cX9_many 74 = .ok (.ireturn, 1) := by decide +kernel
theorem dX9_many_75 : decode cX9_many 75 = .ok (.aload_n 0, 1) := by decide +kernel
theorem dX9_many_76 : decode cX9_many 76 = .ok (.getfield 320, 3) := by decide +kernel
theorem dX9_many_79 : decode cX9_many 79 = .ok (.ireturn, 1) := by decide +kernel
theorem dX9_many_80 : decode cX9_many 80 = .ok (.aload_n 0, 1) := by decide +kernel
theorem dX9_many_81 : decode cX9_many 81 = .ok (.getfield 127, 3) := by decide +kernel
theorem dX9_many_84 : decode cX9_many 84 = .ok (.ireturn, 1) := by decide +kernel
theorem dX9_many_85 : decode cX9_many 85 = .ok (.aload_n 0, 1) := by decide +kernel
theorem dX9_many_86 : decode cX9_many 86 = .ok (.getfield 344, 3) := by decide +kernel
theorem dX9_many_89 : decode cX9_many 89 = .ok (.ireturn, 1) := by decide +kernel
theorem dX9_many_90 : decode cX9_many 90 = .ok (.iconst (-1), 1) := by decide +kernel
theorem dX9_many_91 : decode cX9_many 91 = .ok (.ireturn, 1) := by decide +kernel
theorem dX9_keep_0 : decode cX9_keep 0 = .ok (.iconst 0, 1) := by decide +kernel
theorem dX9_keep_1 : decode cX9_keep 1 = .ok (.istore_n 1, 1) := by decide +kernel
theorem dX9_keep_2 : decode cX9_keep 2 = .ok (.iload_n 1, 1) := by decide +kernel
theorem dX9_keep_3 : decode cX9_keep 3 = .ok (.sipush 313, 3) := by decide +kernel
theorem dX9_keep_6 : decode cX9_keep 6 = .ok (.if_icmp .ge 21, 3) := by decide +kernel
theorem dX9_keep_9 : decode cX9_keep 9 = .ok (.aload_n 0, 1) := by decide +kernel
theorem dX9_keep_10 : decode cX9_keep 10 = .ok (.getfield 13, 3) := by decide +kernel
theorem dX9_keep_13 : decode cX9_keep 13 = .ok (.iload_n 1, 1) := by decide +kernel
theorem dX9_keep_14 : decode cX9_keep 14 = .ok (.aload_n 0, 1) := by decide +kernel
theorem dX9_keep_15 : decode cX9_keep 15 = .ok (.getfield 9, 3) := by decide +kernel
theorem dX9_keep_18 : decode cX9_keep 18 = .ok (.iload_n 1, 1) := by decide +kernel
theorem dX9_keep_19 : decode cX9_keep 19 = .ok (.iaload, 1) := by decide +kernel
theorem dX9_keep_20 : decode cX9_keep 20 = .ok (.iastore, 1) := by decide +kernel
theorem dX9_keep_21 : decode cX9_keep 21 = .ok (.iinc 1 1, 3) := by decide +kernel
theorem dX9_keep_24 : decode cX9_keep 24 = .ok (.goto (-22), 3) := by decide +kernel
theorem dX9_keep_27 : decode cX9_keep 27 = .ok (.aload_n 0, 1) := by decide +kernel
theorem dX9_keep_28 : decode cX9_keep 28 = .ok (.iconst 1, 1) := by decide +kernel
theorem dX9_keep_29 : decode cX9_keep 29 = .ok (.putfield 372, 3) := by decide +kernel
theorem dX9_keep_32 : decode cX9_keep 32 = .ok (.iconst 1, 1) := by decide +kernel
theorem dX9_keep_33 : decode cX9_keep 33 = .ok (.ireturn, 1) := by decide +kernel
theorem dX9_again_0 : decode cX9_again 0 = .ok (.aload_n 0, 1) := by decide +kernel
theorem dX9_again_1 : decode cX9_again 1 = .ok (.getfield 372, 3) := by decide +kernel
theorem dX9_again_4 : decode cX9_again 4 = .ok (.ifCond .ne 6, 3) := by decide +kernel
theorem dX9_again_7 : decode cX9_again 7 = .ok (.bipush (-3), 2) := by decide +kernel
theorem dX9_again_9 : decode cX9_again 9 = .ok (.ireturn, 1) := by decide +kernel
theorem dX9_again_10 : decode cX9_again 10 = .ok (.iconst 0, 1) := by decide +kernel
theorem dX9_again_11 : decode cX9_again 11 = .ok (.istore_n 1, 1) := by decide +kernel
theorem dX9_again_12 : decode cX9_again 12 = .ok (.iload_n 1, 1) := by decide +kernel
theorem dX9_again_13 : decode cX9_again 13 = .ok (.sipush 313, 3) := by decide +kernel
theorem dX9_again_16 : decode cX9_again 16 = .ok (.if_icmp .ge 21, 3) := by decide +kernel
theorem dX9_again_19 : decode cX9_again 19 = .ok (.aload_n 0, 1) := by decide +kernel
theorem dX9_again_20 : decode cX9_again 20 = .ok (.getfield 9, 3) := by decide +kernel
theorem dX9_again_23 : decode cX9_again 23 = .ok (.iload_n 1, 1) := by decide +kernel
theorem dX9_again_24 : decode cX9_again 24 = .ok (.aload_n 0, 1) := by decide +kernel
theorem dX9_again_25 : decode cX9_again 25 = .ok (.getfield 13, 3) := by decide +kernel
theorem dX9_again_28 : decode cX9_again 28 = .ok (.iload_n 1, 1) := by decide +kernel
theorem dX9_again_29 : decode cX9_again 29 = .ok (.iaload, 1) := by decide +kernel
theorem dX9_again_30 : decode cX9_again 30 = .ok (.iastore, 1) := by decide +kernel
theorem dX9_again_31 : decode cX9_again 31 = .ok (.iinc 1 1, 3) := by decide +kernel
theorem dX9_again_34 : decode cX9_again 34 = .ok (.goto (-22), 3) := by decide +kernel
theorem dX9_again_37 : decode cX9_again 37 = .ok (.aload_n 0, 1) := by decide +kernel
theorem dX9_again_38 : decode cX9_again 38 = .ok (.getfield 9, 3) := by decide +kernel
theorem dX9_again_41 : decode cX9_again 41 = .ok (.iconst 4, 1) := by decide +kernel
theorem dX9_again_42 : decode cX9_again 42 = .ok (.iaload, 1) := by decide +kernel
theorem dX9_again_43 : decode cX9_again 43 = .ok (.ireturn, 1) := by decide +kernel
theorem dJ6_bitCount_0f7a4_0 : decode cJ6_bitCount_0f7a4 0 = .ok (.iload_n 0, 1) := by decide +kernel
theorem dJ6_bitCount_0f7a4_1 : decode cJ6_bitCount_0f7a4 1 = .ok (.iload_n 0, 1) := by decide +kernel
theorem dJ6_bitCount_0f7a4_2 : decode cJ6_bitCount_0f7a4 2 = .ok (.iconst 1, 1) := by decide +kernel
theorem dJ6_bitCount_0f7a4_3 : decode cJ6_bitCount_0f7a4 3 = .ok (.iushr, 1) := by decide +kernel
theorem dJ6_bitCount_0f7a4_4 : decode cJ6_bitCount_0f7a4 4 = .ok (.ldc_w 265, 3) := by decide +kernel
theorem dJ6_bitCount_0f7a4_7 : decode cJ6_bitCount_0f7a4 7 = .ok (.iand, 1) := by decide +kernel
theorem dJ6_bitCount_0f7a4_8 : decode cJ6_bitCount_0f7a4 8 = .ok (.isub, 1) := by decide +kernel
theorem dJ6_bitCount_0f7a4_9 : decode cJ6_bitCount_0f7a4 9 = .ok (.istore_n 0, 1) := by decide +kernel
theorem dJ6_bitCount_0f7a4_10 : decode cJ6_bitCount_0f7a4 10 = .ok (.iload_n 0, 1) := by decide +kernel
theorem dJ6_bitCount_0f7a4_11 : decode cJ6_bitCount_0f7a4 11 = .ok (.ldc_w 266, 3) := by decide +kernel
theorem dJ6_bitCount_0f7a4_14 : decode cJ6_bitCount_0f7a4 14 = .ok (.iand, 1) := by decide +kernel
theorem dJ6_bitCount_0f7a4_15 : decode cJ6_bitCount_0f7a4 15 = .ok (.iload_n 0, 1) := by decide +kernel
theorem dJ6_bitCount_0f7a4_16 : decode cJ6_bitCount_0f7a4 16 = .ok (.iconst 2, 1) := by decide +kernel
theorem dJ6_bitCount_0f7a4_17 : decode cJ6_bitCount_0f7a4 17 = .ok (.iushr, 1) := by decide +kernel
theorem dJ6_bitCount_0f7a4_18 : decode cJ6_bitCount_0f7a4 18 = .ok (.ldc_w 266, 3) := by decide +kernel
theorem dJ6_bitCount_0f7a4_21 : decode cJ6_bitCount_0f7a4 21 = .ok (.iand, 1) := by decide +kernel
theorem dJ6_bitCount_0f7a4_22 : decode cJ6_bitCount_0f7a4 22 = .ok (.iadd, 1) := by decide +kernel
theorem dJ6_bitCount_0f7a4_23 : decode cJ6_bitCount_0f7a4 23 = .ok (.istore_n 0, 1) := by decide +kernel
theorem dJ6_bitCount_0f7a4_24 : decode cJ6_bitCount_0f7a4 24 = .ok (.iload_n 0, 1) := by decide +kernel
theorem dJ6_bitCount_0f7a4_25 : decode cJ6_bitCount_0f7a4 25 = .ok (.iload_n 0, 1) := by decide +kernel
theorem dJ6_bitCount_0f7a4_26 : decode cJ6_bitCount_0f7a4 26 = .ok (.iconst 4, 1) := by decide +kernel
theorem dJ6_bitCount_0f7a4_27 : decode cJ6_bitCount_0f7a4 27 = .ok (.iushr, 1) := by decide +kernel
theorem dJ6_bitCount_0f7a4_28 : decode cJ6_bitCount_0f7a4 28 = .ok (.iadd, 1) := by decide +kernel
theorem dJ6_bitCount_0f7a4_29 : decode cJ6_bitCount_0f7a4 29 = .ok (.ldc_w 267, 3) := by decide +kernel
theorem dJ6_bitCount_0f7a4_32 : decode cJ6_bitCount_0f7a4 32 = .ok (.iand, 1) := by decide +kernel
theorem dJ6_bitCount_0f7a4_33 : decode cJ6_bitCount_0f7a4 33 = .ok (.istore_n 0, 1) := by decide +kernel
theorem dJ6_bitCount_0f7a4_34 : decode cJ6_bitCount_0f7a4 34 = .ok (.iload_n 0, 1) := by decide +kernel
theorem dJ6_bitCount_0f7a4_35 : decode cJ6_bitCount_0f7a4 35 = .ok (.iload_n 0, 1) := by decide +kernel
theorem dJ6_bitCount_0f7a4_36 : decode cJ6_bitCount_0f7a4 36 = .ok (.bipush 8, 2) := by decide +kernel
theorem dJ6_bitCount_0f7a4_38 : decode cJ6_bitCount_0f7a4 38 = .ok (.iushr, 1) := by decide +kernel
theorem dJ6_bitCount_0f7a4_39 : decode cJ6_bitCount_0f7a4 39 = .ok (.iadd, 1) := by decide +kernel
theorem dJ6_bitCount_0f7a4_40 : decode cJ6_bitCount_0f7a4 40 = .ok (.istore_n 0, 1) := by decide +kernel
theorem dJ6_bitCount_0f7a4_41 : decode cJ6_bitCount_0f7a4 41 = .ok (.iload_n 0, 1) := by decide +kernel
theorem dJ6_bitCount_0f7a4_42 : decode cJ6_bitCount_0f7a4 42 = .ok (.iload_n 0, 1) := by decide +kernel
theorem dJ6_bitCount_0f7a4_43 : decode cJ6_bitCount_0f7a4 43 = .ok (.bipush 16, 2) := by decide +kernel
theorem dJ6_bitCount_0f7a4_45 : decode cJ6_bitCount_0f7a4 45 = .ok (.iushr, 1) := by decide +kernel
theorem dJ6_bitCount_0f7a4_46 : decode cJ6_bitCount_0f7a4 46 = .ok (.iadd, 1) := by decide +kernel
theorem dJ6_bitCount_0f7a4_47 : decode cJ6_bitCount_0f7a4 47 = .ok (.istore_n 0, 1) := by decide +kernel
theorem dJ6_bitCount_0f7a4_48 : decode cJ6_bitCount_0f7a4 48 = .ok (.iload_n 0, 1) := by decide +kernel
theorem dJ6_bitCount_0f7a4_49 : decode cJ6_bitCount_0f7a4 49 = .ok (.bipush 63, 2) := by decide +kernel
theorem dJ6_bitCount_0f7a4_51 : decode cJ6_bitCount_0f7a4 51 = .ok (.iand, 1) := by decide +kernel
theorem dJ6_bitCount_0f7a4_52 : decode cJ6_bitCount_0f7a4 52 = .ok (.ireturn, 1) := by decide +kernel
theorem dJ9_abs_0f7a4_0 : decode cJ9_abs_0f7a4 0 = .ok (.iload_n 0, 1) := by decide +kernel
theorem dJ9_abs_0f7a4_1 : decode cJ9_abs_0f7a4 1 = .ok (.ifCond .ge 8, 3) := by decide +kernel
theorem dJ9_abs_0f7a4_4 : decode cJ9_abs_0f7a4 4 = .ok (.iload_n 0, 1) := by decide +kernel
theorem dJ9_abs_0f7a4_5 : decode cJ9_abs_0f7a4 5 = .ok (.ineg, 1) := by decide +kernel
theorem dJ9_abs_0f7a4_6 : decode cJ9_abs_0f7a4 6 = .ok (.goto 4, 3) := by decide +kernel
theorem dJ9_abs_0f7a4_9 : decode cJ9_abs_0f7a4 9 = .ok (.iload_n 0, 1) := by decide +kernel
theorem dJ9_abs_0f7a4_10 : decode cJ9_abs_0f7a4 10 = .ok (.ireturn, 1) := by decide +kernel
theorem dJ9_max_7cf53_0 : decode cJ9_max_7cf53 0 = .ok (.iload_n 0, 1) := by decide +kernel
theorem dJ9_max_7cf53_1 : decode cJ9_max_7cf53 1 = .ok (.iload_n 1, 1) := by decide +kernel
theorem dJ9_max_7cf53_2 : decode cJ9_max_7cf53 2 = .ok (.if_icmp .lt 7, 3) := by decide +kernel
theorem dJ9_max_7cf53_5 : decode cJ9_max_7cf53 5 = .ok (.iload_n 0, 1) := by decide +kernel
theorem dJ9_max_7cf53_6 : decode cJ9_max_7cf53 6 = .ok (.goto 4, 3) := by decide +kernel
theorem dJ9_max_7cf53_9 : decode cJ9_max_7cf53 9 = .ok (.iload_n 1, 1) := by decide +kernel
theorem dJ9_max_7cf53_10 : decode cJ9_max_7cf53 10 = .ok (.ireturn, 1) := by decide +kernel
theorem dJ9_min_7cf53_0 : decode cJ9_min_7cf53 0 = .ok (.iload_n 0, 1) := by decide +kernel
theorem dJ9_min_7cf53_1 : decode cJ9_min_7cf53 1 = .ok (.iload_n 1, 1) := by decide +kernel
theorem dJ9_min_7cf53_2 : decode cJ9_min_7cf53 2 = .ok (.if_icmp .gt 7, 3) := by decide +kernel
theorem dJ9_min_7cf53_5 : decode cJ9_min_7cf53 5 = .ok (.iload_n 0, 1) := by decide +kernel
theorem dJ9_min_7cf53_6 : decode cJ9_min_7cf53 6 = .ok (.goto 4, 3) := by decide +kernel
theorem dJ9_min_7cf53_9 : decode cJ9_min_7cf53 9 = .ok (.iload_n 1, 1) := by decide +kernel
theorem dJ9_min_7cf53_10 : decode cJ9_min_7cf53 10 = .ok (.ireturn, 1) := by decide +kernel
theorem dJ0_length_8abf5_0 : decode cJ0_length_8abf5 0 = .ok (.aload_n 0, 1) := by decide +kernel
theorem dJ0_length_8abf5_1 : decode cJ0_length_8abf5 1 = .ok (.getfield 9, 3) := by decide +kernel
theorem dJ0_length_8abf5_4 : decode cJ0_length_8abf5 4 = .ok (.arraylength, 1) := by decide +kernel
theorem dJ0_length_8abf5_5 : decode cJ0_length_8abf5 5 = .ok (.aload_n 0, 1) := by decide +kernel
theorem dJ0_length_8abf5_6 : decode cJ0_length_8abf5 6 = .ok (.invokevirtual 335, 3) := by decide +kernel
theorem dJ0_length_8abf5_9 : decode cJ0_length_8abf5 9 = .ok (.ishr, 1) := by decide +kernel
theorem dJ0_length_8abf5_10 : decode cJ0_length_8abf5 10 = .ok (.ireturn, 1) := by decide +kernel
theorem dJ0_charAt_5068e_0 : decode cJ0_charAt_5068e 0 = .ok (.aload_n 0, 1) := by decide +kernel
theorem dJ0_charAt_5068e_1 : decode cJ0_charAt_5068e 1 = .ok (.invokevirtual 492, 3) := by decide +kernel
theorem dJ0_charAt_5068e_4 : decode cJ0_charAt_5068e 4 = .ok (.ifCond .eq 12, 3) := by decide +kernel
theorem dJ0_charAt_5068e_7 : decode cJ0_charAt_5068e 7 = .ok (.aload_n 0, 1) := by decide +kernel
theorem dJ0_charAt_5068e_8 : decode cJ0_charAt_5068e 8 = .ok (.getfield 9, 3) := by decide +kernel
theorem dJ0_charAt_5068e_11 : decode cJ0_charAt_5068e 11 = .ok (.iload_n 1, 1) := by decide +kernel
theorem dJ0_charAt_5068e_12 : decode cJ0_charAt_5068e 12 = .ok (.invokestatic 495, 3) := by decide +kernel
theorem dJ0_charAt_5068e_15 : decode cJ0_charAt_5068e 15 = .ok (.ireturn, 1) := by decide +kernel
theorem dJ0_charAt_5068e_16 : decode cJ0_charAt_5068e 16 = .ok (.aload_n 0, 1) := by decide +kernel
theorem dJ0_charAt_5068e_17 : decode cJ0_charAt_5068e 17 = .ok (.getfield 9, 3) := by decide +kernel
theorem dJ0_charAt_5068e_20 : decode cJ0_charAt_5068e 20 = .ok (.iload_n 1, 1) := by decide +kernel
theorem dJ0_charAt_5068e_21 : decode cJ0_charAt_5068e 21 = .ok (.invokestatic 498, 3) := by decide +kernel
theorem dJ0_charAt_5068e_24 : decode cJ0_charAt_5068e 24 = .ok (.ireturn, 1) := by decide +kernel
theorem dJ0_coder_7d493_0 : decode cJ0_coder_7d493 0 = .ok (.getstatic 38, 3) := by decide +kernel
theorem dJ0_coder_7d493_3 : decode cJ0_coder_7d493 3 = .ok (.ifCond .eq 10, 3) := by decide +kernel
theorem dJ0_coder_7d493_6 : decode cJ0_coder_7d493 6 = .ok (.aload_n 0, 1) := by decide +kernel
theorem dJ0_coder_7d493_7 : decode cJ0_coder_7d493 7 = .ok (.getfield 15, 3) := by decide +kernel
theorem dJ0_coder_7d493_10 : decode cJ0_coder_7d493 10 = .ok (.goto 4, 3) := by decide +kernel
theorem dJ0_coder_7d493_13 : decode cJ0_coder_7d493 13 = .ok (.iconst 1, 1) := by decide +kernel
theorem dJ0_coder_7d493_14 : decode cJ0_coder_7d493 14 = .ok (.ireturn, 1) := by decide +kernel
theorem dJ0_isLatin1_aae02_0 : decode cJ0_isLatin1_aae02 0 = .ok (.getstatic 38, 3) := by decide +kernel
theorem dJ0_isLatin1_aae02_3 : decode cJ0_isLatin1_aae02 3 = .ok (.ifCond .eq 14, 3) := by decide +kernel
theorem dJ0_isLatin1_aae02_6 : decode cJ0_isLatin1_aae02 6 = .ok (.aload_n 0, 1) := by decide +kernel
theorem dJ0_isLatin1_aae02_7 : decode cJ0_isLatin1_aae02 7 = .ok (.getfield 15, 3) := by decide +kernel
theorem dJ0_isLatin1_aae02_10 : decode cJ0_isLatin1_aae02 10 = .ok (.ifCond .ne 7, 3) := by decide +kernel
theorem dJ0_isLatin1_aae02_13 : decode cJ0_isLatin1_aae02 13 = .ok (.iconst 1, 1) := by decide +kernel
theorem dJ0_isLatin1_aae02_14 : decode cJ0_isLatin1_aae02 14 = .ok (.goto 4, 3) := by decide +kernel
theorem dJ0_isLatin1_aae02_17 : decode cJ0_isLatin1_aae02 17 = .ok (.iconst 0, 1) := by decide +kernel
theorem dJ0_isLatin1_aae02_18 : decode cJ0_isLatin1_aae02 18 = .ok (.ireturn, 1) := by decide +kernel
theorem dJ0_checkIndex_df160_0 : decode cJ0_checkIndex_df160 0 = .ok (.iload_n 0, 1) := by decide +kernel
theorem dJ0_checkIndex_df160_1 : decode cJ0_checkIndex_df160 1 = .ok (.iload_n 1, 1) := by decide +kernel
theorem dJ0_checkIndex_df160_2 : decode cJ0_checkIndex_df160 2 = .ok (.getstatic 1053, 3) := by decide +kernel
theorem dJ0_checkIndex_df160_5 : decode cJ0_checkIndex_df160 5 = .ok (.invokestatic 1059, 3) := by decide +kernel
theorem dJ0_checkIndex_df160_8 : decode cJ0_checkIndex_df160 8 = .ok (.pop, 1) := by decide +kernel
theorem dJ0_checkIndex_df160_9 : decode cJ0_checkIndex_df160 9 = .ok (.return_, 1) := by decide +kernel
theorem dJ1_charAt_3b067_0 : decode cJ1_charAt_3b067 0 = .ok (.iload_n 1, 1) := by decide +kernel
theorem dJ1_charAt_3b067_1 : decode cJ1_charAt_3b067 1 = .ok (.aload_n 0, 1) := by decide +kernel
theorem dJ1_charAt_3b067_2 : decode cJ1_charAt_3b067 2 = .ok (.arraylength, 1) := by decide +kernel
theorem dJ1_charAt_3b067_3 : decode cJ1_charAt_3b067 3 = .ok (.invokestatic 9, 3) := by decide +kernel
theorem dJ1_charAt_3b067_6 : decode cJ1_charAt_3b067 6 = .ok (.aload_n 0, 1) := by decide +kernel
theorem dJ1_charAt_3b067_7 : decode cJ1_charAt_3b067 7 = .ok (.iload_n 1, 1) := by decide +kernel
theorem dJ1_charAt_3b067_8 : decode cJ1_charAt_3b067 8 = .ok (.baload, 1) := by decide +kernel
theorem dJ1_charAt_3b067_9 : decode cJ1_charAt_3b067 9 = .ok (.sipush 255, 3) := by decide +kernel
theorem dJ1_charAt_3b067_12 : decode cJ1_charAt_3b067 12 = .ok (.iand, 1) := by decide +kernel
theorem dJ1_charAt_3b067_13 : decode cJ1_charAt_3b067 13 = .ok (.i2c, 1) := by decide +kernel
theorem dJ1_charAt_3b067_14 : decode cJ1_charAt_3b067 14 = .ok (.ireturn, 1) := by decide +kernel
theorem dJ2_getChar_3b067_0 : decode cJ2_getChar_3b067 0 = .ok (.getstatic 44, 3) := by decide +kernel
theorem dJ2_getChar_3b067_3 : decode cJ2_getChar_3b067 3 = .ok (.ifCond .ne 25, 3) := by decide +kernel
theorem dJ2_getChar_3b067_6 : decode cJ2_getChar_3b067 6 = .ok (.iload_n 1, 1) := by decide +kernel
theorem dJ2_getChar_3b067_7 : decode cJ2_getChar_3b067 7 = .ok (.ifCond .lt 11, 3) := by decide +kernel
theorem dJ2_getChar_3b067_10 : decode cJ2_getChar_3b067 10 = .ok (.iload_n 1, 1) := by decide +kernel
theorem dJ2_getChar_3b067_11 : decode cJ2_getChar_3b067 11 = .ok (.aload_n 0, 1) := by decide +kernel
theorem dJ2_getChar_3b067_12 : decode cJ2_getChar_3b067 12 = .ok (.invokestatic 48, 3) := by decide +kernel
theorem dJ2_getChar_3b067_15 : decode cJ2_getChar_3b067 15 = .ok (.if_icmp .lt 13, 3) := by decide +kernel
theorem dJ2_getChar_3b067_18 : decode cJ2_getChar_3b067 18 = .ok (.new 52, 3) := by decide +kernel
theorem dJ2_getChar_3b067_21 : decode cJ2_getChar_3b067 21 = .ok (.dup, 1) := by decide +kernel
theorem dJ2_getChar_3b067_22 : decode cJ2_getChar_3b067 22 = .ok (.ldc 54, 2) := by decide +kernel
theorem dJ2_getChar_3b067_24 : decode cJ2_getChar_3b067 24 = .ok (.invokespecial 56, 3) := by decide +kernel
theorem dJ2_getChar_3b067_27 : decode cJ2_getChar_3b067 27 = .ok (.athrow, 1) := by decide +kernel
theorem dJ2_getChar_3b067_28 : decode cJ2_getChar_3b067 28 = .ok (.iload_n 1, 1) := by decide +kernel
theorem dJ2_getChar_3b067_29 : decode cJ2_getChar_3b067 29 = .ok (.iconst 1, 1) := by decide +kernel
theorem dJ2_getChar_3b067_30 : decode cJ2_getChar_3b067 30 = .ok (.ishl, 1) := by decide +kernel
theorem dJ2_getChar_3b067_31 : decode cJ2_getChar_3b067 31 = .ok (.istore_n 1, 1) := by decide +kernel
theorem dJ2_getChar_3b067_32 : decode cJ2_getChar_3b067 32 = .ok (.aload_n 0, 1) := by decide +kernel
theorem dJ2_getChar_3b067_33 : decode cJ2_getChar_3b067 33 = .ok (.iload_n 1, 1) := by decide +kernel
theorem dJ2_getChar_3b067_34 : decode cJ2_getChar_3b067 34 = .ok (.iinc 1 1, 3) := by decide +kernel
theorem dJ2_getChar_3b067_37 : decode cJ2_getChar_3b067 37 = .ok (.baload, 1) := by decide +kernel
theorem dJ2_getChar_3b067_38 : decode cJ2_getChar_3b067 38 = .ok (.sipush 255, 3) := by decide +kernel
theorem dJ2_getChar_3b067_41 : decode cJ2_getChar_3b067 41 = .ok (.iand, 1) := by decide +kernel
theorem dJ2_getChar_3b067_42 : decode cJ2_getChar_3b067 42 = .ok (.getstatic 59, 3) := by decide +kernel
theorem dJ2_getChar_3b067_45 : decode cJ2_getChar_3b067 45 = .ok (.ishl, 1) := by decide +kernel
theorem dJ2_getChar_3b067_46 : decode cJ2_getChar_3b067 46 = .ok (.aload_n 0, 1) := by decide +kernel
theorem dJ2_getChar_3b067_47 : decode cJ2_getChar_3b067 47 = .ok (.iload_n 1, 1) := by decide +kernel
theorem dJ2_getChar_3b067_48 : decode cJ2_getChar_3b067 48 = .ok (.baload, 1) := by decide +kernel
theorem dJ2_getChar_3b067_49 : decode cJ2_getChar_3b067 49 = .ok (.sipush 255, 3) := by decide +kernel
theorem dJ2_getChar_3b067_52 : decode cJ2_getChar_3b067 52 = .ok (.iand, 1) := by decide +kernel
theorem dJ2_getChar_3b067_53 : decode cJ2_getChar_3b067 53 = .ok (.getstatic 63, 3) := by decide +kernel
theorem dJ2_getChar_3b067_56 : decode cJ2_getChar_3b067 56 = .ok (.ishl, 1) := by decide +kernel
theorem dJ2_getChar_3b067_57 : decode cJ2_getChar_3b067 57 = .ok (.ior, 1) := by decide +kernel
theorem dJ2_getChar_3b067_58 : decode cJ2_getChar_3b067 58 = .ok (.i2c, 1) := by decide +kernel
theorem dJ2_getChar_3b067_59 : decode cJ2_getChar_3b067 59 = .ok (.ireturn, 1) := by decide +kernel
theorem dJ2_length_9d52b_0 : decode cJ2_length_9d52b 0 = .ok (.aload_n 0, 1) := by decide +kernel
theorem dJ2_length_9d52b_1 : decode cJ2_length_9d52b 1 = .ok (.arraylength, 1) := by decide +kernel
theorem dJ2_length_9d52b_2 : decode cJ2_length_9d52b 2 = .ok (.iconst 1, 1) := by decide +kernel
theorem dJ2_length_9d52b_3 : decode cJ2_length_9d52b 3 = .ok (.ishr, 1) := by decide +kernel
theorem dJ2_length_9d52b_4 : decode cJ2_length_9d52b 4 = .ok (.ireturn, 1) := by decide +kernel
theorem dJ2_charAt_3b067_0 : decode cJ2_charAt_3b067 0 = .ok (.iload_n 1, 1) := by decide +kernel
theorem dJ2_charAt_3b067_1 : decode cJ2_charAt_3b067 1 = .ok (.aload_n 0, 1) := by decide +kernel
theorem dJ2_charAt_3b067_2 : decode cJ2_charAt_3b067 2 = .ok (.invokestatic 67, 3) := by decide +kernel
theorem dJ2_charAt_3b067_5 : decode cJ2_charAt_3b067 5 = .ok (.aload_n 0, 1) := by decide +kernel
theorem dJ2_charAt_3b067_6 : decode cJ2_charAt_3b067 6 = .ok (.iload_n 1, 1) := by decide +kernel
theorem dJ2_charAt_3b067_7 : decode cJ2_charAt_3b067 7 = .ok (.invokestatic 71, 3) := by decide +kernel
theorem dJ2_charAt_3b067_10 : decode cJ2_charAt_3b067 10 = .ok (.ireturn, 1) := by decide +kernel
theorem dJ2_checkIndex_2214a_0 : decode cJ2_checkIndex_2214a 0 = .ok (.iload_n 0, 1) := by decide +kernel
theorem dJ2_checkIndex_2214a_1 : decode cJ2_checkIndex_2214a 1 = .ok (.aload_n 1, 1) := by decide +kernel
theorem dJ2_checkIndex_2214a_2 : decode cJ2_checkIndex_2214a 2 = .ok (.invokestatic 48, 3) := by decide +kernel
theorem dJ2_checkIndex_2214a_5 : decode cJ2_checkIndex_2214a 5 = .ok (.invokestatic 414, 3) := by decide +kernel
theorem dJ2_checkIndex_2214a_8 : decode cJ2_checkIndex_2214a 8 = .ok (.return_, 1) := by decide +kernel
theorem dJ7_rangeCheck_23922_0 : decode cJ7_rangeCheck_23922 0 = .ok (.iload_n 1, 1) := by decide +kernel
theorem dJ7_rangeCheck_23922_1 : decode cJ7_rangeCheck_23922 1 = .ok (.iload_n 2, 1) := by decide +kernel
theorem dJ7_rangeCheck_23922_2 : decode cJ7_rangeCheck_23922 2 = .ok (.if_icmp .le 44, 3) := by decide +kernel
theorem dJ7_rangeCheck_23922_5 : decode cJ7_rangeCheck_23922 5 = .ok (.new 43, 3) := by decide +kernel
theorem dJ7_rangeCheck_23922_8 : decode cJ7_rangeCheck_23922 8 = .ok (.dup, 1) := by decide +kernel
theorem dJ7_rangeCheck_23922_9 : decode cJ7_rangeCheck_23922 9 = .ok (.new 45, 3) := by decide +kernel
theorem dJ7_rangeCheck_23922_12 : decode cJ7_rangeCheck_23922 12 = .ok (.dup, 1) := by decide +kernel
theorem dJ7_rangeCheck_23922_13 : decode cJ7_rangeCheck_23922 13 = .ok (.invokespecial 47, 3) := by decide +kernel
theorem dJ7_rangeCheck_23922_16 : decode cJ7_rangeCheck_23922 16 = .ok (.ldc 48, 2) := by decide +kernel
theorem dJ7_rangeCheck_23922_18 : decode cJ7_rangeCheck_23922 18 = .ok (.invokevirtual 50, 3) := by decide +kernel
theorem dJ7_rangeCheck_23922_21 : decode cJ7_rangeCheck_23922 21 = .ok (.iload_n 1, 1) := by decide +kernel
theorem dJ7_rangeCheck_23922_22 : decode cJ7_rangeCheck_23922 22 = .ok (.invokevirtual 54, 3) := by decide +kernel
theorem dJ7_rangeCheck_23922_25 : decode cJ7_rangeCheck_23922 25 = .ok (.ldc 57, 2) := by decide +kernel
theorem dJ7_rangeCheck_23922_27 : decode cJ7_rangeCheck_23922 27 = .ok (.invokevirtual 50, 3) := by decide +kernel
theorem dJ7_rangeCheck_23922_30 : decode cJ7_rangeCheck_23922 30 = .ok (.iload_n 2, 1) := by decide +kernel
theorem dJ7_rangeCheck_23922_31 : decode cJ7_rangeCheck_23922 31 = .ok (.invokevirtual 54, 3) := by decide +kernel
theorem dJ7_rangeCheck_23922_34 : decode cJ7_rangeCheck_23922 34 = .ok (.ldc 59, 2) := by decide +kernel
theorem dJ7_rangeCheck_23922_36 : decode cJ7_rangeCheck_23922 36 = .ok (.invokevirtual 50, 3) := by decide +kernel
theorem dJ7_rangeCheck_23922_39 : decode cJ7_rangeCheck_23922 39 = .ok (.invokevirtual 61, 3) := by decide +kernel
theorem dJ7_rangeCheck_23922_42 : decode cJ7_rangeCheck_23922 42 = .ok (.invokespecial 65, 3) := by decide +kernel
theorem dJ7_rangeCheck_23922_45 : decode cJ7_rangeCheck_23922 45 = .ok (.athrow, 1) := by decide +kernel
theorem dJ7_rangeCheck_23922_46 : decode cJ7_rangeCheck_23922 46 = .ok (.iload_n 1, 1) := by decide +kernel
theorem dJ7_rangeCheck_23922_47 : decode cJ7_rangeCheck_23922 47 = .ok (.ifCond .ge 12, 3) := by decide +kernel
theorem dJ7_rangeCheck_23922_50 : decode cJ7_rangeCheck_23922 50 = .ok (.new 68, 3) := by decide +kernel
theorem dJ7_rangeCheck_23922_53 : decode cJ7_rangeCheck_23922 53 = .ok (.dup, 1) := by decide +kernel
theorem dJ7_rangeCheck_23922_54 : decode cJ7_rangeCheck_23922 54 = .ok (.iload_n 1, 1) := by decide +kernel
theorem dJ7_rangeCheck_23922_55 : decode cJ7_rangeCheck_23922 55 = .ok (.invokespecial 70, 3) := by decide +kernel
theorem dJ7_rangeCheck_23922_58 : decode cJ7_rangeCheck_23922 58 = .ok (.athrow, 1) := by decide +kernel
theorem dJ7_rangeCheck_23922_59 : decode cJ7_rangeCheck_23922 59 = .ok (.iload_n 2, 1) := by decide +kernel
theorem dJ7_rangeCheck_23922_60 : decode cJ7_rangeCheck_23922 60 = .ok (.iload_n 0, 1) := by decide +kernel
theorem dJ7_rangeCheck_23922_61 : decode cJ7_rangeCheck_23922 61 = .ok (.if_icmp .le 12, 3) := by decide +kernel
theorem dJ7_rangeCheck_23922_64 : decode cJ7_rangeCheck_23922 64 = .ok (.new 68, 3) := by decide +kernel
theorem dJ7_rangeCheck_23922_67 : decode cJ7_rangeCheck_23922 67 = .ok (.dup, 1) := by decide +kernel
theorem dJ7_rangeCheck_23922_68 : decode cJ7_rangeCheck_23922 68 = .ok (.iload_n 2, 1) := by decide +kernel
theorem dJ7_rangeCheck_23922_69 : decode cJ7_rangeCheck_23922 69 = .ok (.invokespecial 70, 3) := by decide +kernel
theorem dJ7_rangeCheck_23922_72 : decode cJ7_rangeCheck_23922 72 = .ok (.athrow, 1) := by decide +kernel
theorem dJ7_rangeCheck_23922_73 : decode cJ7_rangeCheck_23922 73 = .ok (.return_, 1) := by decide +kernel
theorem dJ7_fill_53178_0 : decode cJ7_fill_53178 0 = .ok (.iconst 0, 1) := by decide +kernel
theorem dJ7_fill_53178_1 : decode cJ7_fill_53178 1 = .ok (.istore_n 2, 1) := by decide +kernel
theorem dJ7_fill_53178_2 : decode cJ7_fill_53178 2 = .ok (.aload_n 0, 1) := by decide +kernel
theorem dJ7_fill_53178_3 : decode cJ7_fill_53178 3 = .ok (.arraylength, 1) := by decide +kernel
theorem dJ7_fill_53178_4 : decode cJ7_fill_53178 4 = .ok (.istore_n 3, 1) := by decide +kernel
theorem dJ7_fill_53178_5 : decode cJ7_fill_53178 5 = .ok (.iload_n 2, 1) := by decide +kernel
theorem dJ7_fill_53178_6 : decode cJ7_fill_53178 6 = .ok (.iload_n 3, 1) := by decide +kernel
theorem dJ7_fill_53178_7 : decode cJ7_fill_53178 7 = .ok (.if_icmp .ge 13, 3) := by decide +kernel
theorem dJ7_fill_53178_10 : decode cJ7_fill_53178 10 = .ok (.aload_n 0, 1) := by decide +kernel
theorem dJ7_fill_53178_11 : decode cJ7_fill_53178 11 = .ok (.iload_n 2, 1) := by decide +kernel
theorem dJ7_fill_53178_12 : decode cJ7_fill_53178 12 = .ok (.iload_n 1, 1) := by decide +kernel
theorem dJ7_fill_53178_13 : decode cJ7_fill_53178 13 = .ok (.iastore, 1) := by decide +kernel
theorem dJ7_fill_53178_14 : decode cJ7_fill_53178 14 = .ok (.iinc 2 1, 3) := by decide +kernel
theorem dJ7_fill_53178_17 : decode cJ7_fill_53178 17 = .ok (.goto (-12), 3) := by decide +kernel
theorem dJ7_fill_53178_20 : decode cJ7_fill_53178 20 = .ok (.return_, 1) := by decide +kernel
theorem dJ7_fill_fda19_0 : decode cJ7_fill_fda19 0 = .ok (.aload_n 0, 1) := by decide +kernel
theorem dJ7_fill_fda19_1 : decode cJ7_fill_fda19 1 = .ok (.arraylength, 1) := by decide +kernel
theorem dJ7_fill_fda19_2 : decode cJ7_fill_fda19 2 = .ok (.iload_n 1, 1) := by decide +kernel
theorem dJ7_fill_fda19_3 : decode cJ7_fill_fda19 3 = .ok (.iload_n 2, 1) := by decide +kernel
theorem dJ7_fill_fda19_4 : decode cJ7_fill_fda19 4 = .ok (.invokestatic 13, 3) := by decide +kernel
theorem dJ7_fill_fda19_7 : decode cJ7_fill_fda19 7 = .ok (.iload_n 1, 1) := by decide +kernel
theorem dJ7_fill_fda19_8 : decode cJ7_fill_fda19 8 = .ok (.istore 4, 2) := by decide +kernel
theorem dJ7_fill_fda19_10 : decode cJ7_fill_fda19 10 = .ok (.iload 4, 2) := by decide +kernel
theorem dJ7_fill_fda19_12 : decode cJ7_fill_fda19 12 = .ok (.iload_n 2, 1) := by decide +kernel
theorem dJ7_fill_fda19_13 : decode cJ7_fill_fda19 13 = .ok (.if_icmp .ge 14, 3) := by decide +kernel
theorem dJ7_fill_fda19_16 : decode cJ7_fill_fda19 16 = .ok (.aload_n 0, 1) := by decide +kernel
theorem dJ7_fill_fda19_17 : decode cJ7_fill_fda19 17 = .ok (.iload 4, 2) := by decide +kernel
theorem dJ7_fill_fda19_19 : decode cJ7_fill_fda19 19 = .ok (.iload_n 3, 1) := by decide +kernel
theorem dJ7_fill_fda19_20 : decode cJ7_fill_fda19 20 = .ok (.iastore, 1) := by decide +kernel
theorem dJ7_fill_fda19_21 : decode cJ7_fill_fda19 21 = .ok (.iinc 4 1, 3) := by decide +kernel
theorem dJ7_fill_fda19_24 : decode cJ7_fill_fda19 24 = .ok (.goto (-14), 3) := by decide +kernel
theorem dJ7_fill_fda19_27 : decode cJ7_fill_fda19 27 = .ok (.return_, 1) := by decide +kernel
theorem dJ3_checkIndex_8e157_0 : decode cJ3_checkIndex_8e157 0 = .ok (.iload_n 0, 1) := by decide +kernel
theorem dJ3_checkIndex_8e157_1 : decode cJ3_checkIndex_8e157 1 = .ok (.ifCond .lt 8, 3) := by decide +kernel
theorem dJ3_checkIndex_8e157_4 : decode cJ3_checkIndex_8e157 4 = .ok (.iload_n 0, 1) := by decide +kernel
theorem dJ3_checkIndex_8e157_5 : decode cJ3_checkIndex_8e157 5 = .ok (.iload_n 1, 1) := by decide +kernel
theorem dJ3_checkIndex_8e157_6 : decode cJ3_checkIndex_8e157 6 = .ok (.if_icmp .lt 10, 3) := by decide +kernel
theorem dJ3_checkIndex_8e157_9 : decode cJ3_checkIndex_8e157 9 = .ok (.aload_n 2, 1) := by decide +kernel
theorem dJ3_checkIndex_8e157_10 : decode cJ3_checkIndex_8e157 10 = .ok (.iload_n 0, 1) := by decide +kernel
theorem dJ3_checkIndex_8e157_11 : decode cJ3_checkIndex_8e157 11 = .ok (.iload_n 1, 1) := by decide +kernel
theorem dJ3_checkIndex_8e157_12 : decode cJ3_checkIndex_8e157 12 = .ok (.invokestatic 95, 3) := by decide +kernel
theorem dJ3_checkIndex_8e157_15 : decode cJ3_checkIndex_8e157 15 = .ok (.athrow, 1) := by decide +kernel
theorem dJ3_checkIndex_8e157_16 : decode cJ3_checkIndex_8e157 16 = .ok (.iload_n 0, 1) := by decide +kernel
theorem dJ3_checkIndex_8e157_17 : decode cJ3_checkIndex_8e157 17 = .ok (.ireturn, 1) := by decide +kernel
theorem dL_law_0 : decode cL_law 0 = .ok (.new 7, 3) := by decide +kernel
theorem dL_law_3 : decode cL_law 3 = .ok (.dup, 1) := by decide +kernel
theorem dL_law_4 : decode cL_law 4 = .ok (.invokespecial 9, 3) := by decide +kernel
theorem dL_law_7 : decode cL_law 7 = .ok (.astore_n 1, 1) := by decide +kernel
theorem dL_law_8 : decode cL_law 8 = .ok (.new 10, 3) := by decide +kernel
theorem dL_law_11 : decode cL_law 11 = .ok (.dup, 1) := by decide +kernel
theorem dL_law_12 : decode cL_law 12 = .ok (.invokespecial 12, 3) := by decide +kernel
theorem dL_law_15 : decode cL_law 15 = .ok (.astore_n 2, 1) := by decide +kernel
theorem dL_law_16 : decode cL_law 16 = .ok (.iconst 0, 1) := by decide +kernel
theorem dL_law_17 : decode cL_law 17 = .ok (.istore_n 3, 1) := by decide +kernel
theorem dL_law_18 : decode cL_law 18 = .ok (.iload_n 3, 1) := by decide +kernel
theorem dL_law_19 : decode cL_law 19 = .ok (.aload_n 0, 1) := by decide +kernel
theorem dL_law_20 : decode cL_law 20 = .ok (.arraylength, 1) := by decide +kernel
theorem dL_law_21 : decode cL_law 21 = .ok (.iconst 5, 1) := by decide +kernel
theorem dL_law_22 : decode cL_law 22 = .ok (.isub, 1) := by decide +kernel
theorem dL_law_23 : decode cL_law 23 = .ok (.if_icmp .gt 1718, 3) := by decide +kernel
theorem dL_law_26 : decode cL_law 26 = .ok (.aload_n 0, 1) := by decide +kernel
theorem dL_law_27 : decode cL_law 27 = .ok (.iload_n 3, 1) := by decide +kernel
theorem dL_law_28 : decode cL_law 28 = .ok (.iaload, 1) := by decide +kernel
theorem dL_law_29 : decode cL_law 29 = .ok (.bipush 63, 2) := by decide +kernel
theorem dL_law_31 : decode cL_law 31 = .ok (.iand, 1) := by decide +kernel
theorem dL_law_32 : decode cL_law 32 = .ok (.tableswitch 1703 0 50 #[220, 273, 306, 349, 382, 415, 458, 491, 514, 527, 550, 613, 626, 639, 662, 685, 708, 731, 754, 777, 800, 823, 846, 879, 902, 935, 968, 991, 1014, 1067, 1080, 1103, 1116, 1139, 1152, 1185, 1208, 1241, 1284, 1297, 1340, 1383, 1426, 1469, 1512, 1555, 1588, 1631, 1654, 1677, 1690], 220) := by decide +kernel
theorem dL_law_252 : decode cL_law 252 = .ok (.aload_n 1, 1) := by decide +kernel
theorem dL_law_253 : decode cL_law 253 = .ok (.aload_n 0, 1) := by decide +kernel
theorem dL_law_254 : decode cL_law 254 = .ok (.iload_n 3, 1) := by decide +kernel
theorem dL_law_255 : decode cL_law 255 = .ok (.iconst 1, 1) := by decide +kernel
theorem dL_law_256 : decode cL_law 256 = .ok (.iadd, 1) := by decide +kernel
theorem dL_law_257 : decode cL_law 257 = .ok (.iaload, 1) := by decide +kernel
theorem dL_law_258 : decode cL_law 258 = .ok (.aload_n 0, 1) := by decide +kernel
theorem dL_law_259 : decode cL_law 259 = .ok (.iload_n 3, 1) := by decide +kernel
theorem dL_law_260 : decode cL_law 260 = .ok (.iconst 2, 1) := by decide +kernel
theorem dL_law_261 : decode cL_law 261 = .ok (.iadd, 1) := by decide +kernel
theorem dL_law_262 : decode cL_law 262 = .ok (.iaload, 1) := by decide +kernel
theorem dL_law_263 : decode cL_law 263 = .ok (.aload_n 0, 1) := by decide +kernel
theorem dL_law_264 : decode cL_law 264 = .ok (.iload_n 3, 1) := by decide +kernel
theorem dL_law_265 : decode cL_law 265 = .ok (.iconst 3, 1) := by decide +kernel
theorem dL_law_266 : decode cL_law 266 = .ok (.iadd, 1) := by decide +kernel
theorem dL_law_267 : decode cL_law 267 = .ok (.iaload, 1) := by decide +kernel
theorem dL_law_268 : decode cL_law 268 = .ok (.aload_n 0, 1) := by decide +kernel
theorem dL_law_269 : decode cL_law 269 = .ok (.iload_n 3, 1) := by decide +kernel
theorem dL_law_270 : decode cL_law 270 = .ok (.iconst 4, 1) := by decide +kernel
theorem dL_law_271 : decode cL_law 271 = .ok (.iadd, 1) := by decide +kernel
theorem dL_law_272 : decode cL_law 272 = .ok (.iaload, 1) := by decide +kernel
theorem dL_law_273 : decode cL_law 273 = .ok (.invokevirtual 13, 3) := by decide +kernel
theorem dL_law_276 : decode cL_law 276 = .ok (.aload_n 2, 1) := by decide +kernel
theorem dL_law_277 : decode cL_law 277 = .ok (.aload_n 0, 1) := by decide +kernel
theorem dL_law_278 : decode cL_law 278 = .ok (.iload_n 3, 1) := by decide +kernel
theorem dL_law_279 : decode cL_law 279 = .ok (.iconst 1, 1) := by decide +kernel
theorem dL_law_280 : decode cL_law 280 = .ok (.iadd, 1) := by decide +kernel
theorem dL_law_281 : decode cL_law 281 = .ok (.iaload, 1) := by decide +kernel
theorem dL_law_282 : decode cL_law 282 = .ok (.aload_n 0, 1) := by decide +kernel
theorem dL_law_283 : decode cL_law 283 = .ok (.iload_n 3, 1) := by decide +kernel
theorem dL_law_284 : decode cL_law 284 = .ok (.iconst 2, 1) := by decide +kernel
theorem dL_law_285 : decode cL_law 285 = .ok (.iadd, 1) := by decide +kernel
theorem dL_law_286 : decode cL_law 286 = .ok (.iaload, 1) := by decide +kernel
theorem dL_law_287 : decode cL_law 287 = .ok (.aload_n 0, 1) := by decide +kernel
theorem dL_law_288 : decode cL_law 288 = .ok (.iload_n 3, 1) := by decide +kernel
theorem dL_law_289 : decode cL_law 289 = .ok (.iconst 3, 1) := by decide +kernel
theorem dL_law_290 : decode cL_law 290 = .ok (.iadd, 1) := by decide +kernel
theorem dL_law_291 : decode cL_law 291 = .ok (.iaload, 1) := by decide +kernel
theorem dL_law_292 : decode cL_law 292 = .ok (.aload_n 0, 1) := by decide +kernel
theorem dL_law_293 : decode cL_law 293 = .ok (.iload_n 3, 1) := by decide +kernel
theorem dL_law_294 : decode cL_law 294 = .ok (.iconst 4, 1) := by decide +kernel
theorem dL_law_295 : decode cL_law 295 = .ok (.iadd, 1) := by decide +kernel
theorem dL_law_296 : decode cL_law 296 = .ok (.iaload, 1) := by decide +kernel
theorem dL_law_297 : decode cL_law 297 = .ok (.invokevirtual 17, 3) := by decide +kernel
theorem dL_law_300 : decode cL_law 300 = .ok (.if_icmp .eq 1435, 3) := by decide +kernel
theorem dL_law_303 : decode cL_law 303 = .ok (.iconst 0, 1) := by decide +kernel
theorem dL_law_304 : decode cL_law 304 = .ok (.ireturn, 1) := by decide +kernel
theorem dL_law_305 : decode cL_law 305 = .ok (.aload_n 1, 1) := by decide +kernel
theorem dL_law_306 : decode cL_law 306 = .ok (.aload_n 0, 1) := by decide +kernel
theorem dL_law_307 : decode cL_law 307 = .ok (.iload_n 3, 1) := by decide +kernel
theorem dL_law_308 : decode cL_law 308 = .ok (.iconst 1, 1) := by decide +kernel
theorem dL_law_309 : decode cL_law 309 = .ok (.iadd, 1) := by decide +kernel
theorem dL_law_310 : decode cL_law 310 = .ok (.iaload, 1) := by decide +kernel
theorem dL_law_311 : decode cL_law 311 = .ok (.aload_n 0, 1) := by decide +kernel
theorem dL_law_312 : decode cL_law 312 = .ok (.iload_n 3, 1) := by decide +kernel
theorem dL_law_313 : decode cL_law 313 = .ok (.iconst 2, 1) := by decide +kernel
theorem dL_law_314 : decode cL_law 314 = .ok (.iadd, 1) := by decide +kernel
theorem dL_law_315 : decode cL_law 315 = .ok (.iaload, 1) := by decide +kernel
theorem dL_law_316 : decode cL_law 316 = .ok (.invokevirtual 18, 3) := by decide +kernel
theorem dL_law_319 : decode cL_law 319 = .ok (.aload_n 2, 1) := by decide +kernel
theorem dL_law_320 : decode cL_law 320 = .ok (.aload_n 0, 1) := by decide +kernel
theorem dL_law_321 : decode cL_law 321 = .ok (.iload_n 3, 1) := by decide +kernel
theorem dL_law_322 : decode cL_law 322 = .ok (.iconst 1, 1) := by decide +kernel
theorem dL_law_323 : decode cL_law 323 = .ok (.iadd, 1) := by decide +kernel
theorem dL_law_324 : decode cL_law 324 = .ok (.iaload, 1) := by decide +kernel
theorem dL_law_325 : decode cL_law 325 = .ok (.aload_n 0, 1) := by decide +kernel
theorem dL_law_326 : decode cL_law 326 = .ok (.iload_n 3, 1) := by decide +kernel
theorem dL_law_327 : decode cL_law 327 = .ok (.iconst 2, 1) := by decide +kernel
theorem dL_law_328 : decode cL_law 328 = .ok (.iadd, 1) := by decide +kernel
theorem dL_law_329 : decode cL_law 329 = .ok (.iaload, 1) := by decide +kernel
theorem dL_law_330 : decode cL_law 330 = .ok (.invokevirtual 22, 3) := by decide +kernel
theorem dL_law_333 : decode cL_law 333 = .ok (.if_icmp .eq 1402, 3) := by decide +kernel
theorem dL_law_336 : decode cL_law 336 = .ok (.iconst 0, 1) := by decide +kernel
theorem dL_law_337 : decode cL_law 337 = .ok (.ireturn, 1) := by decide +kernel
theorem dL_law_338 : decode cL_law 338 = .ok (.aload_n 1, 1) := by decide +kernel
theorem dL_law_339 : decode cL_law 339 = .ok (.aload_n 0, 1) := by decide +kernel
theorem dL_law_340 : decode cL_law 340 = .ok (.iload_n 3, 1) := by decide +kernel
theorem dL_law_341 : decode cL_law 341 = .ok (.iconst 1, 1) := by decide +kernel
theorem dL_law_342 : decode cL_law 342 = .ok (.iadd, 1) := by decide +kernel
theorem dL_law_343 : decode cL_law 343 = .ok (.iaload, 1) := by decide +kernel
theorem dL_law_344 : decode cL_law 344 = .ok (.aload_n 0, 1) := by decide +kernel
theorem dL_law_345 : decode cL_law 345 = .ok (.iload_n 3, 1) := by decide +kernel
theorem dL_law_346 : decode cL_law 346 = .ok (.iconst 2, 1) := by decide +kernel
theorem dL_law_347 : decode cL_law 347 = .ok (.iadd, 1) := by decide +kernel
theorem dL_law_348 : decode cL_law 348 = .ok (.iaload, 1) := by decide +kernel
theorem dL_law_349 : decode cL_law 349 = .ok (.aload_n 0, 1) := by decide +kernel
theorem dL_law_350 : decode cL_law 350 = .ok (.iload_n 3, 1) := by decide +kernel
theorem dL_law_351 : decode cL_law 351 = .ok (.iconst 3, 1) := by decide +kernel
theorem dL_law_352 : decode cL_law 352 = .ok (.iadd, 1) := by decide +kernel
theorem dL_law_353 : decode cL_law 353 = .ok (.iaload, 1) := by decide +kernel
theorem dL_law_354 : decode cL_law 354 = .ok (.invokevirtual 23, 3) := by decide +kernel
theorem dL_law_357 : decode cL_law 357 = .ok (.aload_n 2, 1) := by decide +kernel
theorem dL_law_358 : decode cL_law 358 = .ok (.aload_n 0, 1) := by decide +kernel
theorem dL_law_359 : decode cL_law 359 = .ok (.iload_n 3, 1) := by decide +kernel
theorem dL_law_360 : decode cL_law 360 = .ok (.iconst 1, 1) := by decide +kernel
theorem dL_law_361 : decode cL_law 361 = .ok (.iadd, 1) := by decide +kernel
theorem dL_law_362 : decode cL_law 362 = .ok (.iaload, 1) := by decide +kernel
theorem dL_law_363 : decode cL_law 363 = .ok (.aload_n 0, 1) := by decide +kernel
theorem dL_law_364 : decode cL_law 364 = .ok (.iload_n 3, 1) := by decide +kernel
theorem dL_law_365 : decode cL_law 365 = .ok (.iconst 2, 1) := by decide +kernel
theorem dL_law_366 : decode cL_law 366 = .ok (.iadd, 1) := by decide +kernel
theorem dL_law_367 : decode cL_law 367 = .ok (.iaload, 1) := by decide +kernel
theorem dL_law_368 : decode cL_law 368 = .ok (.aload_n 0, 1) := by decide +kernel
theorem dL_law_369 : decode cL_law 369 = .ok (.iload_n 3, 1) := by decide +kernel
theorem dL_law_370 : decode cL_law 370 = .ok (.iconst 3, 1) := by decide +kernel
theorem dL_law_371 : decode cL_law 371 = .ok (.iadd, 1) := by decide +kernel
theorem dL_law_372 : decode cL_law 372 = .ok (.iaload, 1) := by decide +kernel
theorem dL_law_373 : decode cL_law 373 = .ok (.invokevirtual 27, 3) := by decide +kernel
theorem dL_law_376 : decode cL_law 376 = .ok (.if_icmp .eq 1359, 3) := by decide +kernel
theorem dL_law_379 : decode cL_law 379 = .ok (.iconst 0, 1) := by decide +kernel
theorem dL_law_380 : decode cL_law 380 = .ok (.ireturn, 1) := by decide +kernel
theorem dL_law_381 : decode cL_law 381 = .ok (.aload_n 1, 1) := by decide +kernel
theorem dL_law_382 : decode cL_law 382 = .ok (.aload_n 0, 1) := by decide +kernel
theorem dL_law_383 : decode cL_law 383 = .ok (.iload_n 3, 1) := by decide +kernel
theorem dL_law_384 : decode cL_law 384 = .ok (.iconst 1, 1) := by decide +kernel
theorem dL_law_385 : decode cL_law 385 = .ok (.iadd, 1) := by decide +kernel
theorem dL_law_386 : decode cL_law 386 = .ok (.iaload, 1) := by decide +kernel
theorem dL_law_387 : decode cL_law 387 = .ok (.aload_n 0, 1) := by decide +kernel
theorem dL_law_388 : decode cL_law 388 = .ok (.iload_n 3, 1) := by decide +kernel
theorem dL_law_389 : decode cL_law 389 = .ok (.iconst 2, 1) := by decide +kernel
theorem dL_law_390 : decode cL_law 390 = .ok (.iadd, 1) := by decide +kernel
theorem dL_law_391 : decode cL_law 391 = .ok (.iaload, 1) := by decide +kernel
theorem dL_law_392 : decode cL_law 392 = .ok (.invokevirtual 28, 3) := by decide +kernel
theorem dL_law_395 : decode cL_law 395 = .ok (.aload_n 2, 1) := by decide +kernel
theorem dL_law_396 : decode cL_law 396 = .ok (.aload_n 0, 1) := by decide +kernel
theorem dL_law_397 : decode cL_law 397 = .ok (.iload_n 3, 1) := by decide +kernel
theorem dL_law_398 : decode cL_law 398 = .ok (.iconst 1, 1) := by decide +kernel
theorem dL_law_399 : decode cL_law 399 = .ok (.iadd, 1) := by decide +kernel
theorem dL_law_400 : decode cL_law 400 = .ok (.iaload, 1) := by decide +kernel
theorem dL_law_401 : decode cL_law 401 = .ok (.aload_n 0, 1) := by decide +kernel
theorem dL_law_402 : decode cL_law 402 = .ok (.iload_n 3, 1) := by decide +kernel
theorem dL_law_403 : decode cL_law 403 = .ok (.iconst 2, 1) := by decide +kernel
theorem dL_law_404 : decode cL_law 404 = .ok (.iadd, 1) := by decide +kernel
theorem dL_law_405 : decode cL_law 405 = .ok (.iaload, 1) := by decide +kernel
theorem dL_law_406 : decode cL_law 406 = .ok (.invokevirtual 31, 3) := by decide +kernel
theorem dL_law_409 : decode cL_law 409 = .ok (.if_icmp .eq 1326, 3) := by decide +kernel
theorem dL_law_412 : decode cL_law 412 = .ok (.iconst 0, 1) := by decide +kernel
theorem dL_law_413 : decode cL_law 413 = .ok (.ireturn, 1) := by decide +kernel
theorem dL_law_414 : decode cL_law 414 = .ok (.aload_n 1, 1) := by decide +kernel
theorem dL_law_415 : decode cL_law 415 = .ok (.aload_n 0, 1) := by decide +kernel
theorem dL_law_416 : decode cL_law 416 = .ok (.iload_n 3, 1) := by decide +kernel
theorem dL_law_417 : decode cL_law 417 = .ok (.iconst 1, 1) := by decide +kernel
theorem dL_law_418 : decode cL_law 418 = .ok (.iadd, 1) := by decide +kernel
theorem dL_law_419 : decode cL_law 419 = .ok (.iaload, 1) := by decide +kernel
theorem dL_law_420 : decode cL_law 420 = .ok (.aload_n 0, 1) := by decide +kernel
theorem dL_law_421 : decode cL_law 421 = .ok (.iload_n 3, 1) := by decide +kernel
theorem dL_law_422 : decode cL_law 422 = .ok (.iconst 2, 1) := by decide +kernel
theorem dL_law_423 : decode cL_law 423 = .ok (.iadd, 1) := by decide +kernel
theorem dL_law_424 : decode cL_law 424 = .ok (.iaload, 1) := by decide +kernel
theorem dL_law_425 : decode cL_law 425 = .ok (.invokevirtual 32, 3) := by decide +kernel
theorem dL_law_428 : decode cL_law 428 = .ok (.aload_n 2, 1) := by decide +kernel
theorem dL_law_429 : decode cL_law 429 = .ok (.aload_n 0, 1) := by decide +kernel
theorem dL_law_430 : decode cL_law 430 = .ok (.iload_n 3, 1) := by decide +kernel
theorem dL_law_431 : decode cL_law 431 = .ok (.iconst 1, 1) := by decide +kernel
theorem dL_law_432 : decode cL_law 432 = .ok (.iadd, 1) := by decide +kernel
theorem dL_law_433 : decode cL_law 433 = .ok (.iaload, 1) := by decide +kernel
theorem dL_law_434 : decode cL_law 434 = .ok (.aload_n 0, 1) := by decide +kernel
theorem dL_law_435 : decode cL_law 435 = .ok (.iload_n 3, 1) := by decide +kernel
theorem dL_law_436 : decode cL_law 436 = .ok (.iconst 2, 1) := by decide +kernel
theorem dL_law_437 : decode cL_law 437 = .ok (.iadd, 1) := by decide +kernel
theorem dL_law_438 : decode cL_law 438 = .ok (.iaload, 1) := by decide +kernel
theorem dL_law_439 : decode cL_law 439 = .ok (.invokevirtual 35, 3) := by decide +kernel
theorem dL_law_442 : decode cL_law 442 = .ok (.if_icmp .eq 1293, 3) := by decide +kernel
theorem dL_law_445 : decode cL_law 445 = .ok (.iconst 0, 1) := by decide +kernel
theorem dL_law_446 : decode cL_law 446 = .ok (.ireturn, 1) := by decide +kernel
theorem dL_law_447 : decode cL_law 447 = .ok (.aload_n 1, 1) := by decide +kernel
theorem dL_law_448 : decode cL_law 448 = .ok (.aload_n 0, 1) := by decide +kernel
theorem dL_law_449 : decode cL_law 449 = .ok (.iload_n 3, 1) := by decide +kernel
theorem dL_law_450 : decode cL_law 450 = .ok (.iconst 1, 1) := by decide +kernel
theorem dL_law_451 : decode cL_law 451 = .ok (.iadd, 1) := by decide +kernel
theorem dL_law_452 : decode cL_law 452 = .ok (.iaload, 1) := by decide +kernel
theorem dL_law_453 : decode cL_law 453 = .ok (.aload_n 0, 1) := by decide +kernel
theorem dL_law_454 : decode cL_law 454 = .ok (.iload_n 3, 1) := by decide +kernel
theorem dL_law_455 : decode cL_law 455 = .ok (.iconst 2, 1) := by decide +kernel
theorem dL_law_456 : decode cL_law 456 = .ok (.iadd, 1) := by decide +kernel
theorem dL_law_457 : decode cL_law 457 = .ok (.iaload, 1) := by decide +kernel
theorem dL_law_458 : decode cL_law 458 = .ok (.aload_n 0, 1) := by decide +kernel
theorem dL_law_459 : decode cL_law 459 = .ok (.iload_n 3, 1) := by decide +kernel
theorem dL_law_460 : decode cL_law 460 = .ok (.iconst 3, 1) := by decide +kernel
theorem dL_law_461 : decode cL_law 461 = .ok (.iadd, 1) := by decide +kernel
theorem dL_law_462 : decode cL_law 462 = .ok (.iaload, 1) := by decide +kernel
theorem dL_law_463 : decode cL_law 463 = .ok (.invokevirtual 36, 3) := by decide +kernel
theorem dL_law_466 : decode cL_law 466 = .ok (.aload_n 2, 1) := by decide +kernel
theorem dL_law_467 : decode cL_law 467 = .ok (.aload_n 0, 1) := by decide +kernel
theorem dL_law_468 : decode cL_law 468 = .ok (.iload_n 3, 1) := by decide +kernel
theorem dL_law_469 : decode cL_law 469 = .ok (.iconst 1, 1) := by decide +kernel
theorem dL_law_470 : decode cL_law 470 = .ok (.iadd, 1) := by decide +kernel
theorem dL_law_471 : decode cL_law 471 = .ok (.iaload, 1) := by decide +kernel
theorem dL_law_472 : decode cL_law 472 = .ok (.aload_n 0, 1) := by decide +kernel
theorem dL_law_473 : decode cL_law 473 = .ok (.iload_n 3, 1) := by decide +kernel
theorem dL_law_474 : decode cL_law 474 = .ok (.iconst 2, 1) := by decide +kernel
theorem dL_law_475 : decode cL_law 475 = .ok (.iadd, 1) := by decide +kernel
theorem dL_law_476 : decode cL_law 476 = .ok (.iaload, 1) := by decide +kernel
theorem dL_law_477 : decode cL_law 477 = .ok (.aload_n 0, 1) := by decide +kernel
theorem dL_law_478 : decode cL_law 478 = .ok (.iload_n 3, 1) := by decide +kernel
theorem dL_law_479 : decode cL_law 479 = .ok (.iconst 3, 1) := by decide +kernel
theorem dL_law_480 : decode cL_law 480 = .ok (.iadd, 1) := by decide +kernel
theorem dL_law_481 : decode cL_law 481 = .ok (.iaload, 1) := by decide +kernel
theorem dL_law_482 : decode cL_law 482 = .ok (.invokevirtual 39, 3) := by decide +kernel
theorem dL_law_485 : decode cL_law 485 = .ok (.if_icmp .eq 1250, 3) := by decide +kernel
theorem dL_law_488 : decode cL_law 488 = .ok (.iconst 0, 1) := by decide +kernel
theorem dL_law_489 : decode cL_law 489 = .ok (.ireturn, 1) := by decide +kernel
theorem dL_law_490 : decode cL_law 490 = .ok (.aload_n 1, 1) := by decide +kernel
theorem dL_law_491 : decode cL_law 491 = .ok (.aload_n 0, 1) := by decide +kernel
theorem dL_law_492 : decode cL_law 492 = .ok (.iload_n 3, 1) := by decide +kernel
theorem dL_law_493 : decode cL_law 493 = .ok (.iconst 1, 1) := by decide +kernel
theorem dL_law_494 : decode cL_law 494 = .ok (.iadd, 1) := by decide +kernel
theorem dL_law_495 : decode cL_law 495 = .ok (.iaload, 1) := by decide +kernel
theorem dL_law_496 : decode cL_law 496 = .ok (.aload_n 0, 1) := by decide +kernel
theorem dL_law_497 : decode cL_law 497 = .ok (.iload_n 3, 1) := by decide +kernel
theorem dL_law_498 : decode cL_law 498 = .ok (.iconst 2, 1) := by decide +kernel
theorem dL_law_499 : decode cL_law 499 = .ok (.iadd, 1) := by decide +kernel
theorem dL_law_500 : decode cL_law 500 = .ok (.iaload, 1) := by decide +kernel
theorem dL_law_501 : decode cL_law 501 = .ok (.invokevirtual 40, 3) := by decide +kernel
theorem dL_law_504 : decode cL_law 504 = .ok (.aload_n 2, 1) := by decide +kernel
theorem dL_law_505 : decode cL_law 505 = .ok (.aload_n 0, 1) := by decide +kernel
theorem dL_law_506 : decode cL_law 506 = .ok (.iload_n 3, 1) := by decide +kernel
theorem dL_law_507 : decode cL_law 507 = .ok (.iconst 1, 1) := by decide +kernel
theorem dL_law_508 : decode cL_law 508 = .ok (.iadd, 1) := by decide +kernel
theorem dL_law_509 : decode cL_law 509 = .ok (.iaload, 1) := by decide +kernel
theorem dL_law_510 : decode cL_law 510 = .ok (.aload_n 0, 1) := by decide +kernel
theorem dL_law_511 : decode cL_law 511 = .ok (.iload_n 3, 1) := by decide +kernel
theorem dL_law_512 : decode cL_law 512 = .ok (.iconst 2, 1) := by decide +kernel
theorem dL_law_513 : decode cL_law 513 = .ok (.iadd, 1) := by decide +kernel
theorem dL_law_514 : decode cL_law 514 = .ok (.iaload, 1) := by decide +kernel
theorem dL_law_515 : decode cL_law 515 = .ok (.invokevirtual 43, 3) := by decide +kernel
theorem dL_law_518 : decode cL_law 518 = .ok (.if_icmp .eq 1217, 3) := by decide +kernel
theorem dL_law_521 : decode cL_law 521 = .ok (.iconst 0, 1) := by decide +kernel
theorem dL_law_522 : decode cL_law 522 = .ok (.ireturn, 1) := by decide +kernel
theorem dL_law_523 : decode cL_law 523 = .ok (.aload_n 1, 1) := by decide +kernel
theorem dL_law_524 : decode cL_law 524 = .ok (.aload_n 0, 1) := by decide +kernel
theorem dL_law_525 : decode cL_law 525 = .ok (.iload_n 3, 1) := by decide +kernel
theorem dL_law_526 : decode cL_law 526 = .ok (.iconst 1, 1) := by decide +kernel
theorem dL_law_527 : decode cL_law 527 = .ok (.iadd, 1) := by decide +kernel
theorem dL_law_528 : decode cL_law 528 = .ok (.iaload, 1) := by decide +kernel
theorem dL_law_529 : decode cL_law 529 = .ok (.invokevirtual 44, 3) := by decide +kernel
theorem dL_law_532 : decode cL_law 532 = .ok (.aload_n 2, 1) := by decide +kernel
theorem dL_law_533 : decode cL_law 533 = .ok (.aload_n 0, 1) := by decide +kernel
theorem dL_law_534 : decode cL_law 534 = .ok (.iload_n 3, 1) := by decide +kernel
theorem dL_law_535 : decode cL_law 535 = .ok (.iconst 1, 1) := by decide +kernel
theorem dL_law_536 : decode cL_law 536 = .ok (.iadd, 1) := by decide +kernel
theorem dL_law_537 : decode cL_law 537 = .ok (.iaload, 1) := by decide +kernel
theorem dL_law_538 : decode cL_law 538 = .ok (.invokevirtual 48, 3) := by decide +kernel
theorem dL_law_541 : decode cL_law 541 = .ok (.if_icmp .eq 1194, 3) := by decide +kernel
theorem dL_law_544 : decode cL_law 544 = .ok (.iconst 0, 1) := by decide +kernel
theorem dL_law_545 : decode cL_law 545 = .ok (.ireturn, 1) := by decide +kernel
theorem dL_law_546 : decode cL_law 546 = .ok (.aload_n 1, 1) := by decide +kernel
theorem dL_law_547 : decode cL_law 547 = .ok (.invokevirtual 49, 3) := by decide +kernel
theorem dL_law_550 : decode cL_law 550 = .ok (.aload_n 2, 1) := by decide +kernel
theorem dL_law_551 : decode cL_law 551 = .ok (.invokevirtual 53, 3) := by decide +kernel
theorem dL_law_554 : decode cL_law 554 = .ok (.if_icmp .eq 1181, 3) := by decide +kernel
theorem dL_law_557 : decode cL_law 557 = .ok (.iconst 0, 1) := by decide +kernel
theorem dL_law_558 : decode cL_law 558 = .ok (.ireturn, 1) := by decide +kernel
theorem dL_law_559 : decode cL_law 559 = .ok (.aload_n 1, 1) := by decide +kernel
theorem dL_law_560 : decode cL_law 560 = .ok (.aload_n 0, 1) := by decide +kernel
theorem dL_law_561 : decode cL_law 561 = .ok (.iload_n 3, 1) := by decide +kernel
theorem dL_law_562 : decode cL_law 562 = .ok (.iconst 1, 1) := by decide +kernel
theorem dL_law_563 : decode cL_law 563 = .ok (.iadd, 1) := by decide +kernel
theorem dL_law_564 : decode cL_law 564 = .ok (.iaload, 1) := by decide +kernel
theorem dL_law_565 : decode cL_law 565 = .ok (.invokevirtual 54, 3) := by decide +kernel
theorem dL_law_568 : decode cL_law 568 = .ok (.aload_n 2, 1) := by decide +kernel
theorem dL_law_569 : decode cL_law 569 = .ok (.aload_n 0, 1) := by decide +kernel
theorem dL_law_570 : decode cL_law 570 = .ok (.iload_n 3, 1) := by decide +kernel
theorem dL_law_571 : decode cL_law 571 = .ok (.iconst 1, 1) := by decide +kernel
theorem dL_law_572 : decode cL_law 572 = .ok (.iadd, 1) := by decide +kernel
theorem dL_law_573 : decode cL_law 573 = .ok (.iaload, 1) := by decide +kernel
theorem dL_law_574 : decode cL_law 574 = .ok (.invokevirtual 57, 3) := by decide +kernel
theorem dL_law_577 : decode cL_law 577 = .ok (.if_icmp .eq 1158, 3) := by decide +kernel
theorem dL_law_580 : decode cL_law 580 = .ok (.iconst 0, 1) := by decide +kernel
theorem dL_law_581 : decode cL_law 581 = .ok (.ireturn, 1) := by decide +kernel
theorem dL_law_582 : decode cL_law 582 = .ok (.aload_n 1, 1) := by decide +kernel
theorem dL_law_583 : decode cL_law 583 = .ok (.aload_n 0, 1) := by decide +kernel
theorem dL_law_584 : decode cL_law 584 = .ok (.iload_n 3, 1) := by decide +kernel
theorem dL_law_585 : decode cL_law 585 = .ok (.iconst 1, 1) := by decide +kernel
theorem dL_law_586 : decode cL_law 586 = .ok (.iadd, 1) := by decide +kernel
theorem dL_law_587 : decode cL_law 587 = .ok (.iaload, 1) := by decide +kernel
theorem dL_law_588 : decode cL_law 588 = .ok (.i2l, 1) := by decide +kernel
theorem dL_law_589 : decode cL_law 589 = .ok (.bipush 32, 2) := by decide +kernel
theorem dL_law_591 : decode cL_law 591 = .ok (.lshl, 1) := by decide +kernel
theorem dL_law_592 : decode cL_law 592 = .ok (.aload_n 0, 1) := by decide +kernel
theorem dL_law_593 : decode cL_law 593 = .ok (.iload_n 3, 1) := by decide +kernel
theorem dL_law_594 : decode cL_law 594 = .ok (.iconst 2, 1) := by decide +kernel
theorem dL_law_595 : decode cL_law 595 = .ok (.iadd, 1) := by decide +kernel
theorem dL_law_596 : decode cL_law 596 = .ok (.iaload, 1) := by decide +kernel
theorem dL_law_597 : decode cL_law 597 = .ok (.i2l, 1) := by decide +kernel
theorem dL_law_598 : decode cL_law 598 = .ok (.ldc2_w 58, 3) := by decide +kernel
theorem dL_law_601 : decode cL_law 601 = .ok (.land, 1) := by decide +kernel
theorem dL_law_602 : decode cL_law 602 = .ok (.lor, 1) := by decide +kernel
theorem dL_law_603 : decode cL_law 603 = .ok (.aload_n 0, 1) := by decide +kernel
theorem dL_law_604 : decode cL_law 604 = .ok (.iload_n 3, 1) := by decide +kernel
theorem dL_law_605 : decode cL_law 605 = .ok (.iconst 3, 1) := by decide +kernel
theorem dL_law_606 : decode cL_law 606 = .ok (.iadd, 1) := by decide +kernel
theorem dL_law_607 : decode cL_law 607 = .ok (.iaload, 1) := by decide +kernel
theorem dL_law_608 : decode cL_law 608 = .ok (.invokevirtual 60, 3) := by decide +kernel
theorem dL_law_611 : decode cL_law 611 = .ok (.aload_n 2, 1) := by decide +kernel
theorem dL_law_612 : decode cL_law 612 = .ok (.aload_n 0, 1) := by decide +kernel
theorem dL_law_613 : decode cL_law 613 = .ok (.iload_n 3, 1) := by decide +kernel
theorem dL_law_614 : decode cL_law 614 = .ok (.iconst 1, 1) := by decide +kernel
theorem dL_law_615 : decode cL_law 615 = .ok (.iadd, 1) := by decide +kernel
theorem dL_law_616 : decode cL_law 616 = .ok (.iaload, 1) := by decide +kernel
theorem dL_law_617 : decode cL_law 617 = .ok (.i2l, 1) := by decide +kernel
theorem dL_law_618 : decode cL_law 618 = .ok (.bipush 32, 2) := by decide +kernel
theorem dL_law_620 : decode cL_law 620 = .ok (.lshl, 1) := by decide +kernel
theorem dL_law_621 : decode cL_law 621 = .ok (.aload_n 0, 1) := by decide +kernel
theorem dL_law_622 : decode cL_law 622 = .ok (.iload_n 3, 1) := by decide +kernel
theorem dL_law_623 : decode cL_law 623 = .ok (.iconst 2, 1) := by decide +kernel
theorem dL_law_624 : decode cL_law 624 = .ok (.iadd, 1) := by decide +kernel
theorem dL_law_625 : decode cL_law 625 = .ok (.iaload, 1) := by decide +kernel
theorem dL_law_626 : decode cL_law 626 = .ok (.i2l, 1) := by decide +kernel
theorem dL_law_627 : decode cL_law 627 = .ok (.ldc2_w 58, 3) := by decide +kernel
theorem dL_law_630 : decode cL_law 630 = .ok (.land, 1) := by decide +kernel
theorem dL_law_631 : decode cL_law 631 = .ok (.lor, 1) := by decide +kernel
theorem dL_law_632 : decode cL_law 632 = .ok (.aload_n 0, 1) := by decide +kernel
theorem dL_law_633 : decode cL_law 633 = .ok (.iload_n 3, 1) := by decide +kernel
theorem dL_law_634 : decode cL_law 634 = .ok (.iconst 3, 1) := by decide +kernel
theorem dL_law_635 : decode cL_law 635 = .ok (.iadd, 1) := by decide +kernel
theorem dL_law_636 : decode cL_law 636 = .ok (.iaload, 1) := by decide +kernel
theorem dL_law_637 : decode cL_law 637 = .ok (.invokevirtual 64, 3) := by decide +kernel
theorem dL_law_640 : decode cL_law 640 = .ok (.if_icmp .eq 1095, 3) := by decide +kernel
theorem dL_law_643 : decode cL_law 643 = .ok (.iconst 0, 1) := by decide +kernel
theorem dL_law_644 : decode cL_law 644 = .ok (.ireturn, 1) := by decide +kernel
theorem dL_law_645 : decode cL_law 645 = .ok (.aload_n 1, 1) := by decide +kernel
theorem dL_law_646 : decode cL_law 646 = .ok (.invokevirtual 65, 3) := by decide +kernel
theorem dL_law_649 : decode cL_law 649 = .ok (.aload_n 2, 1) := by decide +kernel
theorem dL_law_650 : decode cL_law 650 = .ok (.invokevirtual 68, 3) := by decide +kernel
theorem dL_law_653 : decode cL_law 653 = .ok (.if_icmp .eq 1082, 3) := by decide +kernel
theorem dL_law_656 : decode cL_law 656 = .ok (.iconst 0, 1) := by decide +kernel
theorem dL_law_657 : decode cL_law 657 = .ok (.ireturn, 1) := by decide +kernel
theorem dL_law_658 : decode cL_law 658 = .ok (.aload_n 1, 1) := by decide +kernel
theorem dL_law_659 : decode cL_law 659 = .ok (.invokevirtual 69, 3) := by decide +kernel
theorem dL_law_662 : decode cL_law 662 = .ok (.aload_n 2, 1) := by decide +kernel
theorem dL_law_663 : decode cL_law 663 = .ok (.invokevirtual 72, 3) := by decide +kernel
theorem dL_law_666 : decode cL_law 666 = .ok (.if_icmp .eq 1069, 3) := by decide +kernel
theorem dL_law_669 : decode cL_law 669 = .ok (.iconst 0, 1) := by decide +kernel
theorem dL_law_670 : decode cL_law 670 = .ok (.ireturn, 1) := by decide +kernel
theorem dL_law_671 : decode cL_law 671 = .ok (.aload_n 1, 1) := by decide +kernel
theorem dL_law_672 : decode cL_law 672 = .ok (.aload_n 0, 1) := by decide +kernel
theorem dL_law_673 : decode cL_law 673 = .ok (.iload_n 3, 1) := by decide +kernel
theorem dL_law_674 : decode cL_law 674 = .ok (.iconst 1, 1) := by decide +kernel
theorem dL_law_675 : decode cL_law 675 = .ok (.iadd, 1) := by decide +kernel
theorem dL_law_676 : decode cL_law 676 = .ok (.iaload, 1) := by decide +kernel
theorem dL_law_677 : decode cL_law 677 = .ok (.invokevirtual 73, 3) := by decide +kernel
theorem dL_law_680 : decode cL_law 680 = .ok (.aload_n 2, 1) := by decide +kernel
theorem dL_law_681 : decode cL_law 681 = .ok (.aload_n 0, 1) := by decide +kernel
theorem dL_law_682 : decode cL_law 682 = .ok (.iload_n 3, 1) := by decide +kernel
theorem dL_law_683 : decode cL_law 683 = .ok (.iconst 1, 1) := by decide +kernel
theorem dL_law_684 : decode cL_law 684 = .ok (.iadd, 1) := by decide +kernel
theorem dL_law_685 : decode cL_law 685 = .ok (.iaload, 1) := by decide +kernel
theorem dL_law_686 : decode cL_law 686 = .ok (.invokevirtual 76, 3) := by decide +kernel
theorem dL_law_689 : decode cL_law 689 = .ok (.if_icmp .eq 1046, 3) := by decide +kernel
theorem dL_law_692 : decode cL_law 692 = .ok (.iconst 0, 1) := by decide +kernel
theorem dL_law_693 : decode cL_law 693 = .ok (.ireturn, 1) := by decide +kernel
theorem dL_law_694 : decode cL_law 694 = .ok (.aload_n 1, 1) := by decide +kernel
theorem dL_law_695 : decode cL_law 695 = .ok (.aload_n 0, 1) := by decide +kernel
theorem dL_law_696 : decode cL_law 696 = .ok (.iload_n 3, 1) := by decide +kernel
theorem dL_law_697 : decode cL_law 697 = .ok (.iconst 1, 1) := by decide +kernel
theorem dL_law_698 : decode cL_law 698 = .ok (.iadd, 1) := by decide +kernel
theorem dL_law_699 : decode cL_law 699 = .ok (.iaload, 1) := by decide +kernel
theorem dL_law_700 : decode cL_law 700 = .ok (.invokevirtual 77, 3) := by decide +kernel
theorem dL_law_703 : decode cL_law 703 = .ok (.aload_n 2, 1) := by decide +kernel
theorem dL_law_704 : decode cL_law 704 = .ok (.aload_n 0, 1) := by decide +kernel
theorem dL_law_705 : decode cL_law 705 = .ok (.iload_n 3, 1) := by decide +kernel
theorem dL_law_706 : decode cL_law 706 = .ok (.iconst 1, 1) := by decide +kernel
theorem dL_law_707 : decode cL_law 707 = .ok (.iadd, 1) := by decide +kernel
theorem dL_law_708 : decode cL_law 708 = .ok (.iaload, 1) := by decide +kernel
theorem dL_law_709 : decode cL_law 709 = .ok (.invokevirtual 80, 3) := by decide +kernel
theorem dL_law_712 : decode cL_law 712 = .ok (.if_icmp .eq 1023, 3) := by decide +kernel
theorem dL_law_715 : decode cL_law 715 = .ok (.iconst 0, 1) := by decide +kernel
theorem dL_law_716 : decode cL_law 716 = .ok (.ireturn, 1) := by decide +kernel
theorem dL_law_717 : decode cL_law 717 = .ok (.aload_n 1, 1) := by decide +kernel
theorem dL_law_718 : decode cL_law 718 = .ok (.aload_n 0, 1) := by decide +kernel
theorem dL_law_719 : decode cL_law 719 = .ok (.iload_n 3, 1) := by decide +kernel
theorem dL_law_720 : decode cL_law 720 = .ok (.iconst 1, 1) := by decide +kernel
theorem dL_law_721 : decode cL_law 721 = .ok (.iadd, 1) := by decide +kernel
theorem dL_law_722 : decode cL_law 722 = .ok (.iaload, 1) := by decide +kernel
theorem dL_law_723 : decode cL_law 723 = .ok (.invokevirtual 81, 3) := by decide +kernel
theorem dL_law_726 : decode cL_law 726 = .ok (.aload_n 2, 1) := by decide +kernel
theorem dL_law_727 : decode cL_law 727 = .ok (.aload_n 0, 1) := by decide +kernel
theorem dL_law_728 : decode cL_law 728 = .ok (.iload_n 3, 1) := by decide +kernel
theorem dL_law_729 : decode cL_law 729 = .ok (.iconst 1, 1) := by decide +kernel
theorem dL_law_730 : decode cL_law 730 = .ok (.iadd, 1) := by decide +kernel
theorem dL_law_731 : decode cL_law 731 = .ok (.iaload, 1) := by decide +kernel
theorem dL_law_732 : decode cL_law 732 = .ok (.invokevirtual 84, 3) := by decide +kernel
theorem dL_law_735 : decode cL_law 735 = .ok (.if_icmp .eq 1000, 3) := by decide +kernel
theorem dL_law_738 : decode cL_law 738 = .ok (.iconst 0, 1) := by decide +kernel
theorem dL_law_739 : decode cL_law 739 = .ok (.ireturn, 1) := by decide +kernel
theorem dL_law_740 : decode cL_law 740 = .ok (.aload_n 1, 1) := by decide +kernel
theorem dL_law_741 : decode cL_law 741 = .ok (.aload_n 0, 1) := by decide +kernel
theorem dL_law_742 : decode cL_law 742 = .ok (.iload_n 3, 1) := by decide +kernel
theorem dL_law_743 : decode cL_law 743 = .ok (.iconst 1, 1) := by decide +kernel
theorem dL_law_744 : decode cL_law 744 = .ok (.iadd, 1) := by decide +kernel
theorem dL_law_745 : decode cL_law 745 = .ok (.iaload, 1) := by decide +kernel
theorem dL_law_746 : decode cL_law 746 = .ok (.invokevirtual 85, 3) := by decide +kernel
theorem dL_law_749 : decode cL_law 749 = .ok (.aload_n 2, 1) := by decide +kernel
theorem dL_law_750 : decode cL_law 750 = .ok (.aload_n 0, 1) := by decide +kernel
theorem dL_law_751 : decode cL_law 751 = .ok (.iload_n 3, 1) := by decide +kernel
theorem dL_law_752 : decode cL_law 752 = .ok (.iconst 1, 1) := by decide +kernel
theorem dL_law_753 : decode cL_law 753 = .ok (.iadd, 1) := by decide +kernel
theorem dL_law_754 : decode cL_law 754 = .ok (.iaload, 1) := by decide +kernel
theorem dL_law_755 : decode cL_law 755 = .ok (.invokevirtual 88, 3) := by decide +kernel
theorem dL_law_758 : decode cL_law 758 = .ok (.if_icmp .eq 977, 3) := by decide +kernel
theorem dL_law_761 : decode cL_law 761 = .ok (.iconst 0, 1) := by decide +kernel
theorem dL_law_762 : decode cL_law 762 = .ok (.ireturn, 1) := by decide +kernel
theorem dL_law_763 : decode cL_law 763 = .ok (.aload_n 1, 1) := by decide +kernel
theorem dL_law_764 : decode cL_law 764 = .ok (.aload_n 0, 1) := by decide +kernel
theorem dL_law_765 : decode cL_law 765 = .ok (.iload_n 3, 1) := by decide +kernel
theorem dL_law_766 : decode cL_law 766 = .ok (.iconst 1, 1) := by decide +kernel
theorem dL_law_767 : decode cL_law 767 = .ok (.iadd, 1) := by decide +kernel
theorem dL_law_768 : decode cL_law 768 = .ok (.iaload, 1) := by decide +kernel
theorem dL_law_769 : decode cL_law 769 = .ok (.invokevirtual 89, 3) := by decide +kernel
theorem dL_law_772 : decode cL_law 772 = .ok (.aload_n 2, 1) := by decide +kernel
theorem dL_law_773 : decode cL_law 773 = .ok (.aload_n 0, 1) := by decide +kernel
theorem dL_law_774 : decode cL_law 774 = .ok (.iload_n 3, 1) := by decide +kernel
theorem dL_law_775 : decode cL_law 775 = .ok (.iconst 1, 1) := by decide +kernel
theorem dL_law_776 : decode cL_law 776 = .ok (.iadd, 1) := by decide +kernel
theorem dL_law_777 : decode cL_law 777 = .ok (.iaload, 1) := by decide +kernel
theorem dL_law_778 : decode cL_law 778 = .ok (.invokevirtual 92, 3) := by decide +kernel
theorem dL_law_781 : decode cL_law 781 = .ok (.if_icmp .eq 954, 3) := by decide +kernel
theorem dL_law_784 : decode cL_law 784 = .ok (.iconst 0, 1) := by decide +kernel
theorem dL_law_785 : decode cL_law 785 = .ok (.ireturn, 1) := by decide +kernel
theorem dL_law_786 : decode cL_law 786 = .ok (.aload_n 1, 1) := by decide +kernel
theorem dL_law_787 : decode cL_law 787 = .ok (.aload_n 0, 1) := by decide +kernel
theorem dL_law_788 : decode cL_law 788 = .ok (.iload_n 3, 1) := by decide +kernel
theorem dL_law_789 : decode cL_law 789 = .ok (.iconst 1, 1) := by decide +kernel
theorem dL_law_790 : decode cL_law 790 = .ok (.iadd, 1) := by decide +kernel
theorem dL_law_791 : decode cL_law 791 = .ok (.iaload, 1) := by decide +kernel
theorem dL_law_792 : decode cL_law 792 = .ok (.invokevirtual 93, 3) := by decide +kernel
theorem dL_law_795 : decode cL_law 795 = .ok (.aload_n 2, 1) := by decide +kernel
theorem dL_law_796 : decode cL_law 796 = .ok (.aload_n 0, 1) := by decide +kernel
theorem dL_law_797 : decode cL_law 797 = .ok (.iload_n 3, 1) := by decide +kernel
theorem dL_law_798 : decode cL_law 798 = .ok (.iconst 1, 1) := by decide +kernel
theorem dL_law_799 : decode cL_law 799 = .ok (.iadd, 1) := by decide +kernel
theorem dL_law_800 : decode cL_law 800 = .ok (.iaload, 1) := by decide +kernel
theorem dL_law_801 : decode cL_law 801 = .ok (.invokevirtual 96, 3) := by decide +kernel
theorem dL_law_804 : decode cL_law 804 = .ok (.if_icmp .eq 931, 3) := by decide +kernel
theorem dL_law_807 : decode cL_law 807 = .ok (.iconst 0, 1) := by decide +kernel
theorem dL_law_808 : decode cL_law 808 = .ok (.ireturn, 1) := by decide +kernel
theorem dL_law_809 : decode cL_law 809 = .ok (.aload_n 1, 1) := by decide +kernel
theorem dL_law_810 : decode cL_law 810 = .ok (.aload_n 0, 1) := by decide +kernel
theorem dL_law_811 : decode cL_law 811 = .ok (.iload_n 3, 1) := by decide +kernel
theorem dL_law_812 : decode cL_law 812 = .ok (.iconst 1, 1) := by decide +kernel
theorem dL_law_813 : decode cL_law 813 = .ok (.iadd, 1) := by decide +kernel
theorem dL_law_814 : decode cL_law 814 = .ok (.iaload, 1) := by decide +kernel
theorem dL_law_815 : decode cL_law 815 = .ok (.invokevirtual 97, 3) := by decide +kernel
theorem dL_law_818 : decode cL_law 818 = .ok (.aload_n 2, 1) := by decide +kernel
theorem dL_law_819 : decode cL_law 819 = .ok (.aload_n 0, 1) := by decide +kernel
theorem dL_law_820 : decode cL_law 820 = .ok (.iload_n 3, 1) := by decide +kernel
theorem dL_law_821 : decode cL_law 821 = .ok (.iconst 1, 1) := by decide +kernel
theorem dL_law_822 : decode cL_law 822 = .ok (.iadd, 1) := by decide +kernel
theorem dL_law_823 : decode cL_law 823 = .ok (.iaload, 1) := by decide +kernel
theorem dL_law_824 : decode cL_law 824 = .ok (.invokevirtual 100, 3) := by decide +kernel
theorem dL_law_827 : decode cL_law 827 = .ok (.if_icmp .eq 908, 3) := by decide +kernel
theorem dL_law_830 : decode cL_law 830 = .ok (.iconst 0, 1) := by decide +kernel
theorem dL_law_831 : decode cL_law 831 = .ok (.ireturn, 1) := by decide +kernel
theorem dL_law_832 : decode cL_law 832 = .ok (.aload_n 1, 1) := by decide +kernel
theorem dL_law_833 : decode cL_law 833 = .ok (.aload_n 0, 1) := by decide +kernel
theorem dL_law_834 : decode cL_law 834 = .ok (.iload_n 3, 1) := by decide +kernel
theorem dL_law_835 : decode cL_law 835 = .ok (.iconst 1, 1) := by decide +kernel
theorem dL_law_836 : decode cL_law 836 = .ok (.iadd, 1) := by decide +kernel
theorem dL_law_837 : decode cL_law 837 = .ok (.iaload, 1) := by decide +kernel
theorem dL_law_838 : decode cL_law 838 = .ok (.invokevirtual 101, 3) := by decide +kernel
theorem dL_law_841 : decode cL_law 841 = .ok (.aload_n 2, 1) := by decide +kernel
theorem dL_law_842 : decode cL_law 842 = .ok (.aload_n 0, 1) := by decide +kernel
theorem dL_law_843 : decode cL_law 843 = .ok (.iload_n 3, 1) := by decide +kernel
theorem dL_law_844 : decode cL_law 844 = .ok (.iconst 1, 1) := by decide +kernel
theorem dL_law_845 : decode cL_law 845 = .ok (.iadd, 1) := by decide +kernel
theorem dL_law_846 : decode cL_law 846 = .ok (.iaload, 1) := by decide +kernel
theorem dL_law_847 : decode cL_law 847 = .ok (.invokevirtual 104, 3) := by decide +kernel
theorem dL_law_850 : decode cL_law 850 = .ok (.if_icmp .eq 885, 3) := by decide +kernel
theorem dL_law_853 : decode cL_law 853 = .ok (.iconst 0, 1) := by decide +kernel
theorem dL_law_854 : decode cL_law 854 = .ok (.ireturn, 1) := by decide +kernel
theorem dL_law_855 : decode cL_law 855 = .ok (.aload_n 1, 1) := by decide +kernel
theorem dL_law_856 : decode cL_law 856 = .ok (.aload_n 0, 1) := by decide +kernel
theorem dL_law_857 : decode cL_law 857 = .ok (.iload_n 3, 1) := by decide +kernel
theorem dL_law_858 : decode cL_law 858 = .ok (.iconst 1, 1) := by decide +kernel
theorem dL_law_859 : decode cL_law 859 = .ok (.iadd, 1) := by decide +kernel
theorem dL_law_860 : decode cL_law 860 = .ok (.iaload, 1) := by decide +kernel
theorem dL_law_861 : decode cL_law 861 = .ok (.invokevirtual 105, 3) := by decide +kernel
theorem dL_law_864 : decode cL_law 864 = .ok (.aload_n 2, 1) := by decide +kernel
theorem dL_law_865 : decode cL_law 865 = .ok (.aload_n 0, 1) := by decide +kernel
theorem dL_law_866 : decode cL_law 866 = .ok (.iload_n 3, 1) := by decide +kernel
theorem dL_law_867 : decode cL_law 867 = .ok (.iconst 1, 1) := by decide +kernel
theorem dL_law_868 : decode cL_law 868 = .ok (.iadd, 1) := by decide +kernel
theorem dL_law_869 : decode cL_law 869 = .ok (.iaload, 1) := by decide +kernel
theorem dL_law_870 : decode cL_law 870 = .ok (.invokevirtual 108, 3) := by decide +kernel
theorem dL_law_873 : decode cL_law 873 = .ok (.if_icmp .eq 862, 3) := by decide +kernel
theorem dL_law_876 : decode cL_law 876 = .ok (.iconst 0, 1) := by decide +kernel
theorem dL_law_877 : decode cL_law 877 = .ok (.ireturn, 1) := by decide +kernel
theorem dL_law_878 : decode cL_law 878 = .ok (.aload_n 1, 1) := by decide +kernel
theorem dL_law_879 : decode cL_law 879 = .ok (.aload_n 0, 1) := by decide +kernel
theorem dL_law_880 : decode cL_law 880 = .ok (.iload_n 3, 1) := by decide +kernel
theorem dL_law_881 : decode cL_law 881 = .ok (.iconst 1, 1) := by decide +kernel
theorem dL_law_882 : decode cL_law 882 = .ok (.iadd, 1) := by decide +kernel
theorem dL_law_883 : decode cL_law 883 = .ok (.iaload, 1) := by decide +kernel
theorem dL_law_884 : decode cL_law 884 = .ok (.aload_n 0, 1) := by decide +kernel
theorem dL_law_885 : decode cL_law 885 = .ok (.iload_n 3, 1) := by decide +kernel
theorem dL_law_886 : decode cL_law 886 = .ok (.iconst 2, 1) := by decide +kernel
theorem dL_law_887 : decode cL_law 887 = .ok (.iadd, 1) := by decide +kernel
theorem dL_law_888 : decode cL_law 888 = .ok (.iaload, 1) := by decide +kernel
theorem dL_law_889 : decode cL_law 889 = .ok (.invokevirtual 109, 3) := by decide +kernel
theorem dL_law_892 : decode cL_law 892 = .ok (.aload_n 2, 1) := by decide +kernel
theorem dL_law_893 : decode cL_law 893 = .ok (.aload_n 0, 1) := by decide +kernel
theorem dL_law_894 : decode cL_law 894 = .ok (.iload_n 3, 1) := by decide +kernel
theorem dL_law_895 : decode cL_law 895 = .ok (.iconst 1, 1) := by decide +kernel
theorem dL_law_896 : decode cL_law 896 = .ok (.iadd, 1) := by decide +kernel
theorem dL_law_897 : decode cL_law 897 = .ok (.iaload, 1) := by decide +kernel
theorem dL_law_898 : decode cL_law 898 = .ok (.aload_n 0, 1) := by decide +kernel
theorem dL_law_899 : decode cL_law 899 = .ok (.iload_n 3, 1) := by decide +kernel
theorem dL_law_900 : decode cL_law 900 = .ok (.iconst 2, 1) := by decide +kernel
theorem dL_law_901 : decode cL_law 901 = .ok (.iadd, 1) := by decide +kernel
theorem dL_law_902 : decode cL_law 902 = .ok (.iaload, 1) := by decide +kernel
theorem dL_law_903 : decode cL_law 903 = .ok (.invokevirtual 112, 3) := by decide +kernel
theorem dL_law_906 : decode cL_law 906 = .ok (.if_icmp .eq 829, 3) := by decide +kernel
theorem dL_law_909 : decode cL_law 909 = .ok (.iconst 0, 1) := by decide +kernel
theorem dL_law_910 : decode cL_law 910 = .ok (.ireturn, 1) := by decide +kernel
theorem dL_law_911 : decode cL_law 911 = .ok (.aload_n 1, 1) := by decide +kernel
theorem dL_law_912 : decode cL_law 912 = .ok (.aload_n 0, 1) := by decide +kernel
theorem dL_law_913 : decode cL_law 913 = .ok (.iload_n 3, 1) := by decide +kernel
theorem dL_law_914 : decode cL_law 914 = .ok (.iconst 1, 1) := by decide +kernel
theorem dL_law_915 : decode cL_law 915 = .ok (.iadd, 1) := by decide +kernel
theorem dL_law_916 : decode cL_law 916 = .ok (.iaload, 1) := by decide +kernel
theorem dL_law_917 : decode cL_law 917 = .ok (.invokevirtual 113, 3) := by decide +kernel
theorem dL_law_920 : decode cL_law 920 = .ok (.aload_n 2, 1) := by decide +kernel
theorem dL_law_921 : decode cL_law 921 = .ok (.aload_n 0, 1) := by decide +kernel
theorem dL_law_922 : decode cL_law 922 = .ok (.iload_n 3, 1) := by decide +kernel
theorem dL_law_923 : decode cL_law 923 = .ok (.iconst 1, 1) := by decide +kernel
theorem dL_law_924 : decode cL_law 924 = .ok (.iadd, 1) := by decide +kernel
theorem dL_law_925 : decode cL_law 925 = .ok (.iaload, 1) := by decide +kernel
theorem dL_law_926 : decode cL_law 926 = .ok (.invokevirtual 116, 3) := by decide +kernel
theorem dL_law_929 : decode cL_law 929 = .ok (.if_icmp .eq 806, 3) := by decide +kernel
theorem dL_law_932 : decode cL_law 932 = .ok (.iconst 0, 1) := by decide +kernel
theorem dL_law_933 : decode cL_law 933 = .ok (.ireturn, 1) := by decide +kernel
theorem dL_law_934 : decode cL_law 934 = .ok (.aload_n 1, 1) := by decide +kernel
theorem dL_law_935 : decode cL_law 935 = .ok (.aload_n 0, 1) := by decide +kernel
theorem dL_law_936 : decode cL_law 936 = .ok (.iload_n 3, 1) := by decide +kernel
theorem dL_law_937 : decode cL_law 937 = .ok (.iconst 1, 1) := by decide +kernel
theorem dL_law_938 : decode cL_law 938 = .ok (.iadd, 1) := by decide +kernel
theorem dL_law_939 : decode cL_law 939 = .ok (.iaload, 1) := by decide +kernel
theorem dL_law_940 : decode cL_law 940 = .ok (.aload_n 0, 1) := by decide +kernel
theorem dL_law_941 : decode cL_law 941 = .ok (.iload_n 3, 1) := by decide +kernel
theorem dL_law_942 : decode cL_law 942 = .ok (.iconst 2, 1) := by decide +kernel
theorem dL_law_943 : decode cL_law 943 = .ok (.iadd, 1) := by decide +kernel
theorem dL_law_944 : decode cL_law 944 = .ok (.iaload, 1) := by decide +kernel
theorem dL_law_945 : decode cL_law 945 = .ok (.invokevirtual 117, 3) := by decide +kernel
theorem dL_law_948 : decode cL_law 948 = .ok (.aload_n 2, 1) := by decide +kernel
theorem dL_law_949 : decode cL_law 949 = .ok (.aload_n 0, 1) := by decide +kernel
theorem dL_law_950 : decode cL_law 950 = .ok (.iload_n 3, 1) := by decide +kernel
theorem dL_law_951 : decode cL_law 951 = .ok (.iconst 1, 1) := by decide +kernel
theorem dL_law_952 : decode cL_law 952 = .ok (.iadd, 1) := by decide +kernel
theorem dL_law_953 : decode cL_law 953 = .ok (.iaload, 1) := by decide +kernel
theorem dL_law_954 : decode cL_law 954 = .ok (.aload_n 0, 1) := by decide +kernel
theorem dL_law_955 : decode cL_law 955 = .ok (.iload_n 3, 1) := by decide +kernel
theorem dL_law_956 : decode cL_law 956 = .ok (.iconst 2, 1) := by decide +kernel
theorem dL_law_957 : decode cL_law 957 = .ok (.iadd, 1) := by decide +kernel
theorem dL_law_958 : decode cL_law 958 = .ok (.iaload, 1) := by decide +kernel
theorem dL_law_959 : decode cL_law 959 = .ok (.invokevirtual 120, 3) := by decide +kernel
theorem dL_law_962 : decode cL_law 962 = .ok (.if_icmp .eq 773, 3) := by decide +kernel
theorem dL_law_965 : decode cL_law 965 = .ok (.iconst 0, 1) := by decide +kernel
theorem dL_law_966 : decode cL_law 966 = .ok (.ireturn, 1) := by decide +kernel
theorem dL_law_967 : decode cL_law 967 = .ok (.aload_n 1, 1) := by decide +kernel
theorem dL_law_968 : decode cL_law 968 = .ok (.aload_n 0, 1) := by decide +kernel
theorem dL_law_969 : decode cL_law 969 = .ok (.iload_n 3, 1) := by decide +kernel
theorem dL_law_970 : decode cL_law 970 = .ok (.iconst 1, 1) := by decide +kernel
theorem dL_law_971 : decode cL_law 971 = .ok (.iadd, 1) := by decide +kernel
theorem dL_law_972 : decode cL_law 972 = .ok (.iaload, 1) := by decide +kernel
theorem dL_law_973 : decode cL_law 973 = .ok (.aload_n 0, 1) := by decide +kernel
theorem dL_law_974 : decode cL_law 974 = .ok (.iload_n 3, 1) := by decide +kernel
theorem dL_law_975 : decode cL_law 975 = .ok (.iconst 2, 1) := by decide +kernel
theorem dL_law_976 : decode cL_law 976 = .ok (.iadd, 1) := by decide +kernel
theorem dL_law_977 : decode cL_law 977 = .ok (.iaload, 1) := by decide +kernel
theorem dL_law_978 : decode cL_law 978 = .ok (.invokevirtual 121, 3) := by decide +kernel
theorem dL_law_981 : decode cL_law 981 = .ok (.aload_n 2, 1) := by decide +kernel
theorem dL_law_982 : decode cL_law 982 = .ok (.aload_n 0, 1) := by decide +kernel
theorem dL_law_983 : decode cL_law 983 = .ok (.iload_n 3, 1) := by decide +kernel
theorem dL_law_984 : decode cL_law 984 = .ok (.iconst 1, 1) := by decide +kernel
theorem dL_law_985 : decode cL_law 985 = .ok (.iadd, 1) := by decide +kernel
theorem dL_law_986 : decode cL_law 986 = .ok (.iaload, 1) := by decide +kernel
theorem dL_law_987 : decode cL_law 987 = .ok (.aload_n 0, 1) := by decide +kernel
theorem dL_law_988 : decode cL_law 988 = .ok (.iload_n 3, 1) := by decide +kernel
theorem dL_law_989 : decode cL_law 989 = .ok (.iconst 2, 1) := by decide +kernel
theorem dL_law_990 : decode cL_law 990 = .ok (.iadd, 1) := by decide +kernel
theorem dL_law_991 : decode cL_law 991 = .ok (.iaload, 1) := by decide +kernel
theorem dL_law_992 : decode cL_law 992 = .ok (.invokevirtual 124, 3) := by decide +kernel
theorem dL_law_995 : decode cL_law 995 = .ok (.if_icmp .eq 740, 3) := by decide +kernel
theorem dL_law_998 : decode cL_law 998 = .ok (.iconst 0, 1) := by decide +kernel
theorem dL_law_999 : decode cL_law 999 = .ok (.ireturn, 1) := by decide +kernel
theorem dL_law_1000 : decode cL_law 1000 = .ok (.aload_n 1, 1) := by decide +kernel
theorem dL_law_1001 : decode cL_law 1001 = .ok (.aload_n 0, 1) := by decide +kernel
theorem dL_law_1002 : decode cL_law 1002 = .ok (.iload_n 3, 1) := by decide +kernel
theorem dL_law_1003 : decode cL_law 1003 = .ok (.iconst 1, 1) := by decide +kernel
theorem dL_law_1004 : decode cL_law 1004 = .ok (.iadd, 1) := by decide +kernel
theorem dL_law_1005 : decode cL_law 1005 = .ok (.iaload, 1) := by decide +kernel
theorem dL_law_1006 : decode cL_law 1006 = .ok (.invokevirtual 125, 3) := by decide +kernel
theorem dL_law_1009 : decode cL_law 1009 = .ok (.aload_n 2, 1) := by decide +kernel
theorem dL_law_1010 : decode cL_law 1010 = .ok (.aload_n 0, 1) := by decide +kernel
theorem dL_law_1011 : decode cL_law 1011 = .ok (.iload_n 3, 1) := by decide +kernel
theorem dL_law_1012 : decode cL_law 1012 = .ok (.iconst 1, 1) := by decide +kernel
theorem dL_law_1013 : decode cL_law 1013 = .ok (.iadd, 1) := by decide +kernel
theorem dL_law_1014 : decode cL_law 1014 = .ok (.iaload, 1) := by decide +kernel
theorem dL_law_1015 : decode cL_law 1015 = .ok (.invokevirtual 128, 3) := by decide +kernel
theorem dL_law_1018 : decode cL_law 1018 = .ok (.if_icmp .eq 717, 3) := by decide +kernel
theorem dL_law_1021 : decode cL_law 1021 = .ok (.iconst 0, 1) := by decide +kernel
theorem dL_law_1022 : decode cL_law 1022 = .ok (.ireturn, 1) := by decide +kernel
theorem dL_law_1023 : decode cL_law 1023 = .ok (.aload_n 1, 1) := by decide +kernel
theorem dL_law_1024 : decode cL_law 1024 = .ok (.aload_n 0, 1) := by decide +kernel
theorem dL_law_1025 : decode cL_law 1025 = .ok (.iload_n 3, 1) := by decide +kernel
theorem dL_law_1026 : decode cL_law 1026 = .ok (.iconst 1, 1) := by decide +kernel
theorem dL_law_1027 : decode cL_law 1027 = .ok (.iadd, 1) := by decide +kernel
theorem dL_law_1028 : decode cL_law 1028 = .ok (.iaload, 1) := by decide +kernel
theorem dL_law_1029 : decode cL_law 1029 = .ok (.invokevirtual 129, 3) := by decide +kernel
theorem dL_law_1032 : decode cL_law 1032 = .ok (.aload_n 2, 1) := by decide +kernel
theorem dL_law_1033 : decode cL_law 1033 = .ok (.aload_n 0, 1) := by decide +kernel
theorem dL_law_1034 : decode cL_law 1034 = .ok (.iload_n 3, 1) := by decide +kernel
theorem dL_law_1035 : decode cL_law 1035 = .ok (.iconst 1, 1) := by decide +kernel
theorem dL_law_1036 : decode cL_law 1036 = .ok (.iadd, 1) := by decide +kernel
theorem dL_law_1037 : decode cL_law 1037 = .ok (.iaload, 1) := by decide +kernel
theorem dL_law_1038 : decode cL_law 1038 = .ok (.invokevirtual 132, 3) := by decide +kernel
theorem dL_law_1041 : decode cL_law 1041 = .ok (.if_icmp .eq 694, 3) := by decide +kernel
theorem dL_law_1044 : decode cL_law 1044 = .ok (.iconst 0, 1) := by decide +kernel
theorem dL_law_1045 : decode cL_law 1045 = .ok (.ireturn, 1) := by decide +kernel
theorem dL_law_1046 : decode cL_law 1046 = .ok (.aload_n 1, 1) := by decide +kernel
theorem dL_law_1047 : decode cL_law 1047 = .ok (.aload_n 0, 1) := by decide +kernel
theorem dL_law_1048 : decode cL_law 1048 = .ok (.iload_n 3, 1) := by decide +kernel
theorem dL_law_1049 : decode cL_law 1049 = .ok (.iconst 1, 1) := by decide +kernel
theorem dL_law_1050 : decode cL_law 1050 = .ok (.iadd, 1) := by decide +kernel
theorem dL_law_1051 : decode cL_law 1051 = .ok (.iaload, 1) := by decide +kernel
theorem dL_law_1052 : decode cL_law 1052 = .ok (.aload_n 0, 1) := by decide +kernel
theorem dL_law_1053 : decode cL_law 1053 = .ok (.iload_n 3, 1) := by decide +kernel
theorem dL_law_1054 : decode cL_law 1054 = .ok (.iconst 2, 1) := by decide +kernel
theorem dL_law_1055 : decode cL_law 1055 = .ok (.iadd, 1) := by decide +kernel
theorem dL_law_1056 : decode cL_law 1056 = .ok (.iaload, 1) := by decide +kernel
theorem dL_law_1057 : decode cL_law 1057 = .ok (.aload_n 0, 1) := by decide +kernel
theorem dL_law_1058 : decode cL_law 1058 = .ok (.iload_n 3, 1) := by decide +kernel
theorem dL_law_1059 : decode cL_law 1059 = .ok (.iconst 3, 1) := by decide +kernel
theorem dL_law_1060 : decode cL_law 1060 = .ok (.iadd, 1) := by decide +kernel
theorem dL_law_1061 : decode cL_law 1061 = .ok (.iaload, 1) := by decide +kernel
theorem dL_law_1062 : decode cL_law 1062 = .ok (.aload_n 0, 1) := by decide +kernel
theorem dL_law_1063 : decode cL_law 1063 = .ok (.iload_n 3, 1) := by decide +kernel
theorem dL_law_1064 : decode cL_law 1064 = .ok (.iconst 4, 1) := by decide +kernel
theorem dL_law_1065 : decode cL_law 1065 = .ok (.iadd, 1) := by decide +kernel
theorem dL_law_1066 : decode cL_law 1066 = .ok (.iaload, 1) := by decide +kernel
theorem dL_law_1067 : decode cL_law 1067 = .ok (.invokevirtual 133, 3) := by decide +kernel
theorem dL_law_1070 : decode cL_law 1070 = .ok (.aload_n 2, 1) := by decide +kernel
theorem dL_law_1071 : decode cL_law 1071 = .ok (.aload_n 0, 1) := by decide +kernel
theorem dL_law_1072 : decode cL_law 1072 = .ok (.iload_n 3, 1) := by decide +kernel
theorem dL_law_1073 : decode cL_law 1073 = .ok (.iconst 1, 1) := by decide +kernel
theorem dL_law_1074 : decode cL_law 1074 = .ok (.iadd, 1) := by decide +kernel
theorem dL_law_1075 : decode cL_law 1075 = .ok (.iaload, 1) := by decide +kernel
theorem dL_law_1076 : decode cL_law 1076 = .ok (.aload_n 0, 1) := by decide +kernel
theorem dL_law_1077 : decode cL_law 1077 = .ok (.iload_n 3, 1) := by decide +kernel
theorem dL_law_1078 : decode cL_law 1078 = .ok (.iconst 2, 1) := by decide +kernel
theorem dL_law_1079 : decode cL_law 1079 = .ok (.iadd, 1) := by decide +kernel
theorem dL_law_1080 : decode cL_law 1080 = .ok (.iaload, 1) := by decide +kernel
theorem dL_law_1081 : decode cL_law 1081 = .ok (.aload_n 0, 1) := by decide +kernel
theorem dL_law_1082 : decode cL_law 1082 = .ok (.iload_n 3, 1) := by decide +kernel
theorem dL_law_1083 : decode cL_law 1083 = .ok (.iconst 3, 1) := by decide +kernel
theorem dL_law_1084 : decode cL_law 1084 = .ok (.iadd, 1) := by decide +kernel
theorem dL_law_1085 : decode cL_law 1085 = .ok (.iaload, 1) := by decide +kernel
theorem dL_law_1086 : decode cL_law 1086 = .ok (.aload_n 0, 1) := by decide +kernel
theorem dL_law_1087 : decode cL_law 1087 = .ok (.iload_n 3, 1) := by decide +kernel
theorem dL_law_1088 : decode cL_law 1088 = .ok (.iconst 4, 1) := by decide +kernel
theorem dL_law_1089 : decode cL_law 1089 = .ok (.iadd, 1) := by decide +kernel
theorem dL_law_1090 : decode cL_law 1090 = .ok (.iaload, 1) := by decide +kernel
theorem dL_law_1091 : decode cL_law 1091 = .ok (.invokevirtual 136, 3) := by decide +kernel
theorem dL_law_1094 : decode cL_law 1094 = .ok (.if_icmp .eq 641, 3) := by decide +kernel
theorem dL_law_1097 : decode cL_law 1097 = .ok (.iconst 0, 1) := by decide +kernel
theorem dL_law_1098 : decode cL_law 1098 = .ok (.ireturn, 1) := by decide +kernel
theorem dL_law_1099 : decode cL_law 1099 = .ok (.aload_n 1, 1) := by decide +kernel
theorem dL_law_1100 : decode cL_law 1100 = .ok (.invokevirtual 137, 3) := by decide +kernel
theorem dL_law_1103 : decode cL_law 1103 = .ok (.aload_n 2, 1) := by decide +kernel
theorem dL_law_1104 : decode cL_law 1104 = .ok (.invokevirtual 140, 3) := by decide +kernel
theorem dL_law_1107 : decode cL_law 1107 = .ok (.if_icmp .eq 628, 3) := by decide +kernel
theorem dL_law_1110 : decode cL_law 1110 = .ok (.iconst 0, 1) := by decide +kernel
theorem dL_law_1111 : decode cL_law 1111 = .ok (.ireturn, 1) := by decide +kernel
theorem dL_law_1112 : decode cL_law 1112 = .ok (.aload_n 1, 1) := by decide +kernel
theorem dL_law_1113 : decode cL_law 1113 = .ok (.aload_n 0, 1) := by decide +kernel
theorem dL_law_1114 : decode cL_law 1114 = .ok (.iload_n 3, 1) := by decide +kernel
theorem dL_law_1115 : decode cL_law 1115 = .ok (.iconst 1, 1) := by decide +kernel
theorem dL_law_1116 : decode cL_law 1116 = .ok (.iadd, 1) := by decide +kernel
theorem dL_law_1117 : decode cL_law 1117 = .ok (.iaload, 1) := by decide +kernel
theorem dL_law_1118 : decode cL_law 1118 = .ok (.invokevirtual 141, 3) := by decide +kernel
theorem dL_law_1121 : decode cL_law 1121 = .ok (.aload_n 2, 1) := by decide +kernel
theorem dL_law_1122 : decode cL_law 1122 = .ok (.aload_n 0, 1) := by decide +kernel
theorem dL_law_1123 : decode cL_law 1123 = .ok (.iload_n 3, 1) := by decide +kernel
theorem dL_law_1124 : decode cL_law 1124 = .ok (.iconst 1, 1) := by decide +kernel
theorem dL_law_1125 : decode cL_law 1125 = .ok (.iadd, 1) := by decide +kernel
theorem dL_law_1126 : decode cL_law 1126 = .ok (.iaload, 1) := by decide +kernel
theorem dL_law_1127 : decode cL_law 1127 = .ok (.invokevirtual 144, 3) := by decide +kernel
theorem dL_law_1130 : decode cL_law 1130 = .ok (.if_icmp .eq 605, 3) := by decide +kernel
theorem dL_law_1133 : decode cL_law 1133 = .ok (.iconst 0, 1) := by decide +kernel
theorem dL_law_1134 : decode cL_law 1134 = .ok (.ireturn, 1) := by decide +kernel
theorem dL_law_1135 : decode cL_law 1135 = .ok (.aload_n 1, 1) := by decide +kernel
theorem dL_law_1136 : decode cL_law 1136 = .ok (.invokevirtual 145, 3) := by decide +kernel
theorem dL_law_1139 : decode cL_law 1139 = .ok (.aload_n 2, 1) := by decide +kernel
theorem dL_law_1140 : decode cL_law 1140 = .ok (.invokevirtual 148, 3) := by decide +kernel
theorem dL_law_1143 : decode cL_law 1143 = .ok (.if_icmp .eq 592, 3) := by decide +kernel
theorem dL_law_1146 : decode cL_law 1146 = .ok (.iconst 0, 1) := by decide +kernel
theorem dL_law_1147 : decode cL_law 1147 = .ok (.ireturn, 1) := by decide +kernel
theorem dL_law_1148 : decode cL_law 1148 = .ok (.aload_n 1, 1) := by decide +kernel
theorem dL_law_1149 : decode cL_law 1149 = .ok (.aload_n 0, 1) := by decide +kernel
theorem dL_law_1150 : decode cL_law 1150 = .ok (.iload_n 3, 1) := by decide +kernel
theorem dL_law_1151 : decode cL_law 1151 = .ok (.iconst 1, 1) := by decide +kernel
theorem dL_law_1152 : decode cL_law 1152 = .ok (.iadd, 1) := by decide +kernel
theorem dL_law_1153 : decode cL_law 1153 = .ok (.iaload, 1) := by decide +kernel
theorem dL_law_1154 : decode cL_law 1154 = .ok (.invokevirtual 149, 3) := by decide +kernel
theorem dL_law_1157 : decode cL_law 1157 = .ok (.aload_n 2, 1) := by decide +kernel
theorem dL_law_1158 : decode cL_law 1158 = .ok (.aload_n 0, 1) := by decide +kernel
theorem dL_law_1159 : decode cL_law 1159 = .ok (.iload_n 3, 1) := by decide +kernel
theorem dL_law_1160 : decode cL_law 1160 = .ok (.iconst 1, 1) := by decide +kernel
theorem dL_law_1161 : decode cL_law 1161 = .ok (.iadd, 1) := by decide +kernel
theorem dL_law_1162 : decode cL_law 1162 = .ok (.iaload, 1) := by decide +kernel
theorem dL_law_1163 : decode cL_law 1163 = .ok (.invokevirtual 152, 3) := by decide +kernel
theorem dL_law_1166 : decode cL_law 1166 = .ok (.if_icmp .eq 569, 3) := by decide +kernel
theorem dL_law_1169 : decode cL_law 1169 = .ok (.iconst 0, 1) := by decide +kernel
theorem dL_law_1170 : decode cL_law 1170 = .ok (.ireturn, 1) := by decide +kernel
theorem dL_law_1171 : decode cL_law 1171 = .ok (.aload_n 1, 1) := by decide +kernel
theorem dL_law_1172 : decode cL_law 1172 = .ok (.invokevirtual 153, 3) := by decide +kernel
theorem dL_law_1175 : decode cL_law 1175 = .ok (.aload_n 2, 1) := by decide +kernel
theorem dL_law_1176 : decode cL_law 1176 = .ok (.invokevirtual 156, 3) := by decide +kernel
theorem dL_law_1179 : decode cL_law 1179 = .ok (.if_icmp .eq 556, 3) := by decide +kernel
theorem dL_law_1182 : decode cL_law 1182 = .ok (.iconst 0, 1) := by decide +kernel
theorem dL_law_1183 : decode cL_law 1183 = .ok (.ireturn, 1) := by decide +kernel
theorem dL_law_1184 : decode cL_law 1184 = .ok (.aload_n 1, 1) := by decide +kernel
theorem dL_law_1185 : decode cL_law 1185 = .ok (.aload_n 0, 1) := by decide +kernel
theorem dL_law_1186 : decode cL_law 1186 = .ok (.iload_n 3, 1) := by decide +kernel
theorem dL_law_1187 : decode cL_law 1187 = .ok (.iconst 1, 1) := by decide +kernel
theorem dL_law_1188 : decode cL_law 1188 = .ok (.iadd, 1) := by decide +kernel
theorem dL_law_1189 : decode cL_law 1189 = .ok (.iaload, 1) := by decide +kernel
theorem dL_law_1190 : decode cL_law 1190 = .ok (.aload_n 0, 1) := by decide +kernel
theorem dL_law_1191 : decode cL_law 1191 = .ok (.iload_n 3, 1) := by decide +kernel
theorem dL_law_1192 : decode cL_law 1192 = .ok (.iconst 2, 1) := by decide +kernel
theorem dL_law_1193 : decode cL_law 1193 = .ok (.iadd, 1) := by decide +kernel
theorem dL_law_1194 : decode cL_law 1194 = .ok (.iaload, 1) := by decide +kernel
theorem dL_law_1195 : decode cL_law 1195 = .ok (.invokevirtual 157, 3) := by decide +kernel
theorem dL_law_1198 : decode cL_law 1198 = .ok (.aload_n 2, 1) := by decide +kernel
theorem dL_law_1199 : decode cL_law 1199 = .ok (.aload_n 0, 1) := by decide +kernel
theorem dL_law_1200 : decode cL_law 1200 = .ok (.iload_n 3, 1) := by decide +kernel
theorem dL_law_1201 : decode cL_law 1201 = .ok (.iconst 1, 1) := by decide +kernel
theorem dL_law_1202 : decode cL_law 1202 = .ok (.iadd, 1) := by decide +kernel
theorem dL_law_1203 : decode cL_law 1203 = .ok (.iaload, 1) := by decide +kernel
theorem dL_law_1204 : decode cL_law 1204 = .ok (.aload_n 0, 1) := by decide +kernel
theorem dL_law_1205 : decode cL_law 1205 = .ok (.iload_n 3, 1) := by decide +kernel
theorem dL_law_1206 : decode cL_law 1206 = .ok (.iconst 2, 1) := by decide +kernel
theorem dL_law_1207 : decode cL_law 1207 = .ok (.iadd, 1) := by decide +kernel
theorem dL_law_1208 : decode cL_law 1208 = .ok (.iaload, 1) := by decide +kernel
theorem dL_law_1209 : decode cL_law 1209 = .ok (.invokevirtual 160, 3) := by decide +kernel
theorem dL_law_1212 : decode cL_law 1212 = .ok (.if_icmp .eq 523, 3) := by decide +kernel
theorem dL_law_1215 : decode cL_law 1215 = .ok (.iconst 0, 1) := by decide +kernel
theorem dL_law_1216 : decode cL_law 1216 = .ok (.ireturn, 1) := by decide +kernel
theorem dL_law_1217 : decode cL_law 1217 = .ok (.aload_n 1, 1) := by decide +kernel
theorem dL_law_1218 : decode cL_law 1218 = .ok (.aload_n 0, 1) := by decide +kernel
theorem dL_law_1219 : decode cL_law 1219 = .ok (.iload_n 3, 1) := by decide +kernel
theorem dL_law_1220 : decode cL_law 1220 = .ok (.iconst 1, 1) := by decide +kernel
theorem dL_law_1221 : decode cL_law 1221 = .ok (.iadd, 1) := by decide +kernel
theorem dL_law_1222 : decode cL_law 1222 = .ok (.iaload, 1) := by decide +kernel
theorem dL_law_1223 : decode cL_law 1223 = .ok (.invokevirtual 161, 3) := by decide +kernel
theorem dL_law_1226 : decode cL_law 1226 = .ok (.aload_n 2, 1) := by decide +kernel
theorem dL_law_1227 : decode cL_law 1227 = .ok (.aload_n 0, 1) := by decide +kernel
theorem dL_law_1228 : decode cL_law 1228 = .ok (.iload_n 3, 1) := by decide +kernel
theorem dL_law_1229 : decode cL_law 1229 = .ok (.iconst 1, 1) := by decide +kernel
theorem dL_law_1230 : decode cL_law 1230 = .ok (.iadd, 1) := by decide +kernel
theorem dL_law_1231 : decode cL_law 1231 = .ok (.iaload, 1) := by decide +kernel
theorem dL_law_1232 : decode cL_law 1232 = .ok (.invokevirtual 164, 3) := by decide +kernel
theorem dL_law_1235 : decode cL_law 1235 = .ok (.if_icmp .eq 500, 3) := by decide +kernel
theorem dL_law_1238 : decode cL_law 1238 = .ok (.iconst 0, 1) := by decide +kernel
theorem dL_law_1239 : decode cL_law 1239 = .ok (.ireturn, 1) := by decide +kernel
theorem dL_law_1240 : decode cL_law 1240 = .ok (.aload_n 1, 1) := by decide +kernel
theorem dL_law_1241 : decode cL_law 1241 = .ok (.aload_n 0, 1) := by decide +kernel
theorem dL_law_1242 : decode cL_law 1242 = .ok (.iload_n 3, 1) := by decide +kernel
theorem dL_law_1243 : decode cL_law 1243 = .ok (.iconst 1, 1) := by decide +kernel
theorem dL_law_1244 : decode cL_law 1244 = .ok (.iadd, 1) := by decide +kernel
theorem dL_law_1245 : decode cL_law 1245 = .ok (.iaload, 1) := by decide +kernel
theorem dL_law_1246 : decode cL_law 1246 = .ok (.aload_n 0, 1) := by decide +kernel
theorem dL_law_1247 : decode cL_law 1247 = .ok (.iload_n 3, 1) := by decide +kernel
theorem dL_law_1248 : decode cL_law 1248 = .ok (.iconst 2, 1) := by decide +kernel
theorem dL_law_1249 : decode cL_law 1249 = .ok (.iadd, 1) := by decide +kernel
theorem dL_law_1250 : decode cL_law 1250 = .ok (.iaload, 1) := by decide +kernel
theorem dL_law_1251 : decode cL_law 1251 = .ok (.invokevirtual 165, 3) := by decide +kernel
theorem dL_law_1254 : decode cL_law 1254 = .ok (.aload_n 2, 1) := by decide +kernel
theorem dL_law_1255 : decode cL_law 1255 = .ok (.aload_n 0, 1) := by decide +kernel
theorem dL_law_1256 : decode cL_law 1256 = .ok (.iload_n 3, 1) := by decide +kernel
theorem dL_law_1257 : decode cL_law 1257 = .ok (.iconst 1, 1) := by decide +kernel
theorem dL_law_1258 : decode cL_law 1258 = .ok (.iadd, 1) := by decide +kernel
theorem dL_law_1259 : decode cL_law 1259 = .ok (.iaload, 1) := by decide +kernel
theorem dL_law_1260 : decode cL_law 1260 = .ok (.aload_n 0, 1) := by decide +kernel
theorem dL_law_1261 : decode cL_law 1261 = .ok (.iload_n 3, 1) := by decide +kernel
theorem dL_law_1262 : decode cL_law 1262 = .ok (.iconst 2, 1) := by decide +kernel
theorem dL_law_1263 : decode cL_law 1263 = .ok (.iadd, 1) := by decide +kernel
theorem dL_law_1264 : decode cL_law 1264 = .ok (.iaload, 1) := by decide +kernel
theorem dL_law_1265 : decode cL_law 1265 = .ok (.invokevirtual 168, 3) := by decide +kernel
theorem dL_law_1268 : decode cL_law 1268 = .ok (.if_icmp .eq 467, 3) := by decide +kernel
theorem dL_law_1271 : decode cL_law 1271 = .ok (.iconst 0, 1) := by decide +kernel
theorem dL_law_1272 : decode cL_law 1272 = .ok (.ireturn, 1) := by decide +kernel
theorem dL_law_1273 : decode cL_law 1273 = .ok (.aload_n 1, 1) := by decide +kernel
theorem dL_law_1274 : decode cL_law 1274 = .ok (.aload_n 0, 1) := by decide +kernel
theorem dL_law_1275 : decode cL_law 1275 = .ok (.iload_n 3, 1) := by decide +kernel
theorem dL_law_1276 : decode cL_law 1276 = .ok (.iconst 1, 1) := by decide +kernel
theorem dL_law_1277 : decode cL_law 1277 = .ok (.iadd, 1) := by decide +kernel
theorem dL_law_1278 : decode cL_law 1278 = .ok (.iaload, 1) := by decide +kernel
theorem dL_law_1279 : decode cL_law 1279 = .ok (.aload_n 0, 1) := by decide +kernel
theorem dL_law_1280 : decode cL_law 1280 = .ok (.iload_n 3, 1) := by decide +kernel
theorem dL_law_1281 : decode cL_law 1281 = .ok (.iconst 2, 1) := by decide +kernel
theorem dL_law_1282 : decode cL_law 1282 = .ok (.iadd, 1) := by decide +kernel
theorem dL_law_1283 : decode cL_law 1283 = .ok (.iaload, 1) := by decide +kernel
theorem dL_law_1284 : decode cL_law 1284 = .ok (.aload_n 0, 1) := by decide +kernel
theorem dL_law_1285 : decode cL_law 1285 = .ok (.iload_n 3, 1) := by decide +kernel
theorem dL_law_1286 : decode cL_law 1286 = .ok (.iconst 3, 1) := by decide +kernel
theorem dL_law_1287 : decode cL_law 1287 = .ok (.iadd, 1) := by decide +kernel
theorem dL_law_1288 : decode cL_law 1288 = .ok (.iaload, 1) := by decide +kernel
theorem dL_law_1289 : decode cL_law 1289 = .ok (.invokevirtual 169, 3) := by decide +kernel
theorem dL_law_1292 : decode cL_law 1292 = .ok (.aload_n 2, 1) := by decide +kernel
theorem dL_law_1293 : decode cL_law 1293 = .ok (.aload_n 0, 1) := by decide +kernel
theorem dL_law_1294 : decode cL_law 1294 = .ok (.iload_n 3, 1) := by decide +kernel
theorem dL_law_1295 : decode cL_law 1295 = .ok (.iconst 1, 1) := by decide +kernel
theorem dL_law_1296 : decode cL_law 1296 = .ok (.iadd, 1) := by decide +kernel
theorem dL_law_1297 : decode cL_law 1297 = .ok (.iaload, 1) := by decide +kernel
theorem dL_law_1298 : decode cL_law 1298 = .ok (.aload_n 0, 1) := by decide +kernel
theorem dL_law_1299 : decode cL_law 1299 = .ok (.iload_n 3, 1) := by decide +kernel
theorem dL_law_1300 : decode cL_law 1300 = .ok (.iconst 2, 1) := by decide +kernel
theorem dL_law_1301 : decode cL_law 1301 = .ok (.iadd, 1) := by decide +kernel
theorem dL_law_1302 : decode cL_law 1302 = .ok (.iaload, 1) := by decide +kernel
theorem dL_law_1303 : decode cL_law 1303 = .ok (.aload_n 0, 1) := by decide +kernel
theorem dL_law_1304 : decode cL_law 1304 = .ok (.iload_n 3, 1) := by decide +kernel
theorem dL_law_1305 : decode cL_law 1305 = .ok (.iconst 3, 1) := by decide +kernel
theorem dL_law_1306 : decode cL_law 1306 = .ok (.iadd, 1) := by decide +kernel
theorem dL_law_1307 : decode cL_law 1307 = .ok (.iaload, 1) := by decide +kernel
theorem dL_law_1308 : decode cL_law 1308 = .ok (.invokevirtual 172, 3) := by decide +kernel
theorem dL_law_1311 : decode cL_law 1311 = .ok (.if_icmp .eq 424, 3) := by decide +kernel
theorem dL_law_1314 : decode cL_law 1314 = .ok (.iconst 0, 1) := by decide +kernel
theorem dL_law_1315 : decode cL_law 1315 = .ok (.ireturn, 1) := by decide +kernel
theorem dL_law_1316 : decode cL_law 1316 = .ok (.aload_n 1, 1) := by decide +kernel
theorem dL_law_1317 : decode cL_law 1317 = .ok (.invokevirtual 173, 3) := by decide +kernel
theorem dL_law_1320 : decode cL_law 1320 = .ok (.aload_n 2, 1) := by decide +kernel
theorem dL_law_1321 : decode cL_law 1321 = .ok (.invokevirtual 176, 3) := by decide +kernel
theorem dL_law_1324 : decode cL_law 1324 = .ok (.if_icmp .eq 411, 3) := by decide +kernel
theorem dL_law_1327 : decode cL_law 1327 = .ok (.iconst 0, 1) := by decide +kernel
theorem dL_law_1328 : decode cL_law 1328 = .ok (.ireturn, 1) := by decide +kernel
theorem dL_law_1329 : decode cL_law 1329 = .ok (.aload_n 1, 1) := by decide +kernel
theorem dL_law_1330 : decode cL_law 1330 = .ok (.aload_n 0, 1) := by decide +kernel
theorem dL_law_1331 : decode cL_law 1331 = .ok (.iload_n 3, 1) := by decide +kernel
theorem dL_law_1332 : decode cL_law 1332 = .ok (.iconst 1, 1) := by decide +kernel
theorem dL_law_1333 : decode cL_law 1333 = .ok (.iadd, 1) := by decide +kernel
theorem dL_law_1334 : decode cL_law 1334 = .ok (.iaload, 1) := by decide +kernel
theorem dL_law_1335 : decode cL_law 1335 = .ok (.aload_n 0, 1) := by decide +kernel
theorem dL_law_1336 : decode cL_law 1336 = .ok (.iload_n 3, 1) := by decide +kernel
theorem dL_law_1337 : decode cL_law 1337 = .ok (.iconst 2, 1) := by decide +kernel
theorem dL_law_1338 : decode cL_law 1338 = .ok (.iadd, 1) := by decide +kernel
theorem dL_law_1339 : decode cL_law 1339 = .ok (.iaload, 1) := by decide +kernel
theorem dL_law_1340 : decode cL_law 1340 = .ok (.aload_n 0, 1) := by decide +kernel
theorem dL_law_1341 : decode cL_law 1341 = .ok (.iload_n 3, 1) := by decide +kernel
theorem dL_law_1342 : decode cL_law 1342 = .ok (.iconst 3, 1) := by decide +kernel
theorem dL_law_1343 : decode cL_law 1343 = .ok (.iadd, 1) := by decide +kernel
theorem dL_law_1344 : decode cL_law 1344 = .ok (.iaload, 1) := by decide +kernel
theorem dL_law_1345 : decode cL_law 1345 = .ok (.invokevirtual 177, 3) := by decide +kernel
theorem dL_law_1348 : decode cL_law 1348 = .ok (.aload_n 2, 1) := by decide +kernel
theorem dL_law_1349 : decode cL_law 1349 = .ok (.aload_n 0, 1) := by decide +kernel
theorem dL_law_1350 : decode cL_law 1350 = .ok (.iload_n 3, 1) := by decide +kernel
theorem dL_law_1351 : decode cL_law 1351 = .ok (.iconst 1, 1) := by decide +kernel
theorem dL_law_1352 : decode cL_law 1352 = .ok (.iadd, 1) := by decide +kernel
theorem dL_law_1353 : decode cL_law 1353 = .ok (.iaload, 1) := by decide +kernel
theorem dL_law_1354 : decode cL_law 1354 = .ok (.aload_n 0, 1) := by decide +kernel
theorem dL_law_1355 : decode cL_law 1355 = .ok (.iload_n 3, 1) := by decide +kernel
theorem dL_law_1356 : decode cL_law 1356 = .ok (.iconst 2, 1) := by decide +kernel
theorem dL_law_1357 : decode cL_law 1357 = .ok (.iadd, 1) := by decide +kernel
theorem dL_law_1358 : decode cL_law 1358 = .ok (.iaload, 1) := by decide +kernel
theorem dL_law_1359 : decode cL_law 1359 = .ok (.aload_n 0, 1) := by decide +kernel
theorem dL_law_1360 : decode cL_law 1360 = .ok (.iload_n 3, 1) := by decide +kernel
theorem dL_law_1361 : decode cL_law 1361 = .ok (.iconst 3, 1) := by decide +kernel
theorem dL_law_1362 : decode cL_law 1362 = .ok (.iadd, 1) := by decide +kernel
theorem dL_law_1363 : decode cL_law 1363 = .ok (.iaload, 1) := by decide +kernel
theorem dL_law_1364 : decode cL_law 1364 = .ok (.invokevirtual 180, 3) := by decide +kernel
theorem dL_law_1367 : decode cL_law 1367 = .ok (.if_icmp .eq 368, 3) := by decide +kernel
theorem dL_law_1370 : decode cL_law 1370 = .ok (.iconst 0, 1) := by decide +kernel
theorem dL_law_1371 : decode cL_law 1371 = .ok (.ireturn, 1) := by decide +kernel
theorem dL_law_1372 : decode cL_law 1372 = .ok (.aload_n 1, 1) := by decide +kernel
theorem dL_law_1373 : decode cL_law 1373 = .ok (.aload_n 0, 1) := by decide +kernel
theorem dL_law_1374 : decode cL_law 1374 = .ok (.iload_n 3, 1) := by decide +kernel
theorem dL_law_1375 : decode cL_law 1375 = .ok (.iconst 1, 1) := by decide +kernel
theorem dL_law_1376 : decode cL_law 1376 = .ok (.iadd, 1) := by decide +kernel
theorem dL_law_1377 : decode cL_law 1377 = .ok (.iaload, 1) := by decide +kernel
theorem dL_law_1378 : decode cL_law 1378 = .ok (.aload_n 0, 1) := by decide +kernel
theorem dL_law_1379 : decode cL_law 1379 = .ok (.iload_n 3, 1) := by decide +kernel
theorem dL_law_1380 : decode cL_law 1380 = .ok (.iconst 2, 1) := by decide +kernel
theorem dL_law_1381 : decode cL_law 1381 = .ok (.iadd, 1) := by decide +kernel
theorem dL_law_1382 : decode cL_law 1382 = .ok (.iaload, 1) := by decide +kernel
theorem dL_law_1383 : decode cL_law 1383 = .ok (.aload_n 0, 1) := by decide +kernel
theorem dL_law_1384 : decode cL_law 1384 = .ok (.iload_n 3, 1) := by decide +kernel
theorem dL_law_1385 : decode cL_law 1385 = .ok (.iconst 3, 1) := by decide +kernel
theorem dL_law_1386 : decode cL_law 1386 = .ok (.iadd, 1) := by decide +kernel
theorem dL_law_1387 : decode cL_law 1387 = .ok (.iaload, 1) := by decide +kernel
theorem dL_law_1388 : decode cL_law 1388 = .ok (.invokevirtual 181, 3) := by decide +kernel
theorem dL_law_1391 : decode cL_law 1391 = .ok (.aload_n 2, 1) := by decide +kernel
theorem dL_law_1392 : decode cL_law 1392 = .ok (.aload_n 0, 1) := by decide +kernel
theorem dL_law_1393 : decode cL_law 1393 = .ok (.iload_n 3, 1) := by decide +kernel
theorem dL_law_1394 : decode cL_law 1394 = .ok (.iconst 1, 1) := by decide +kernel
theorem dL_law_1395 : decode cL_law 1395 = .ok (.iadd, 1) := by decide +kernel
theorem dL_law_1396 : decode cL_law 1396 = .ok (.iaload, 1) := by decide +kernel
theorem dL_law_1397 : decode cL_law 1397 = .ok (.aload_n 0, 1) := by decide +kernel
theorem dL_law_1398 : decode cL_law 1398 = .ok (.iload_n 3, 1) := by decide +kernel
theorem dL_law_1399 : decode cL_law 1399 = .ok (.iconst 2, 1) := by decide +kernel
theorem dL_law_1400 : decode cL_law 1400 = .ok (.iadd, 1) := by decide +kernel
theorem dL_law_1401 : decode cL_law 1401 = .ok (.iaload, 1) := by decide +kernel
theorem dL_law_1402 : decode cL_law 1402 = .ok (.aload_n 0, 1) := by decide +kernel
theorem dL_law_1403 : decode cL_law 1403 = .ok (.iload_n 3, 1) := by decide +kernel
theorem dL_law_1404 : decode cL_law 1404 = .ok (.iconst 3, 1) := by decide +kernel
theorem dL_law_1405 : decode cL_law 1405 = .ok (.iadd, 1) := by decide +kernel
theorem dL_law_1406 : decode cL_law 1406 = .ok (.iaload, 1) := by decide +kernel
theorem dL_law_1407 : decode cL_law 1407 = .ok (.invokevirtual 184, 3) := by decide +kernel
theorem dL_law_1410 : decode cL_law 1410 = .ok (.if_icmp .eq 325, 3) := by decide +kernel
theorem dL_law_1413 : decode cL_law 1413 = .ok (.iconst 0, 1) := by decide +kernel
theorem dL_law_1414 : decode cL_law 1414 = .ok (.ireturn, 1) := by decide +kernel
theorem dL_law_1415 : decode cL_law 1415 = .ok (.aload_n 1, 1) := by decide +kernel
theorem dL_law_1416 : decode cL_law 1416 = .ok (.aload_n 0, 1) := by decide +kernel
theorem dL_law_1417 : decode cL_law 1417 = .ok (.iload_n 3, 1) := by decide +kernel
theorem dL_law_1418 : decode cL_law 1418 = .ok (.iconst 1, 1) := by decide +kernel
theorem dL_law_1419 : decode cL_law 1419 = .ok (.iadd, 1) := by decide +kernel
theorem dL_law_1420 : decode cL_law 1420 = .ok (.iaload, 1) := by decide +kernel
theorem dL_law_1421 : decode cL_law 1421 = .ok (.aload_n 0, 1) := by decide +kernel
theorem dL_law_1422 : decode cL_law 1422 = .ok (.iload_n 3, 1) := by decide +kernel
theorem dL_law_1423 : decode cL_law 1423 = .ok (.iconst 2, 1) := by decide +kernel
theorem dL_law_1424 : decode cL_law 1424 = .ok (.iadd, 1) := by decide +kernel
theorem dL_law_1425 : decode cL_law 1425 = .ok (.iaload, 1) := by decide +kernel
theorem dL_law_1426 : decode cL_law 1426 = .ok (.aload_n 0, 1) := by decide +kernel
theorem dL_law_1427 : decode cL_law 1427 = .ok (.iload_n 3, 1) := by decide +kernel
theorem dL_law_1428 : decode cL_law 1428 = .ok (.iconst 3, 1) := by decide +kernel
theorem dL_law_1429 : decode cL_law 1429 = .ok (.iadd, 1) := by decide +kernel
theorem dL_law_1430 : decode cL_law 1430 = .ok (.iaload, 1) := by decide +kernel
theorem dL_law_1431 : decode cL_law 1431 = .ok (.invokevirtual 185, 3) := by decide +kernel
theorem dL_law_1434 : decode cL_law 1434 = .ok (.aload_n 2, 1) := by decide +kernel
theorem dL_law_1435 : decode cL_law 1435 = .ok (.aload_n 0, 1) := by decide +kernel
theorem dL_law_1436 : decode cL_law 1436 = .ok (.iload_n 3, 1) := by decide +kernel
theorem dL_law_1437 : decode cL_law 1437 = .ok (.iconst 1, 1) := by decide +kernel
theorem dL_law_1438 : decode cL_law 1438 = .ok (.iadd, 1) := by decide +kernel
theorem dL_law_1439 : decode cL_law 1439 = .ok (.iaload, 1) := by decide +kernel
theorem dL_law_1440 : decode cL_law 1440 = .ok (.aload_n 0, 1) := by decide +kernel
theorem dL_law_1441 : decode cL_law 1441 = .ok (.iload_n 3, 1) := by decide +kernel
theorem dL_law_1442 : decode cL_law 1442 = .ok (.iconst 2, 1) := by decide +kernel
theorem dL_law_1443 : decode cL_law 1443 = .ok (.iadd, 1) := by decide +kernel
theorem dL_law_1444 : decode cL_law 1444 = .ok (.iaload, 1) := by decide +kernel
theorem dL_law_1445 : decode cL_law 1445 = .ok (.aload_n 0, 1) := by decide +kernel
theorem dL_law_1446 : decode cL_law 1446 = .ok (.iload_n 3, 1) := by decide +kernel
theorem dL_law_1447 : decode cL_law 1447 = .ok (.iconst 3, 1) := by decide +kernel
theorem dL_law_1448 : decode cL_law 1448 = .ok (.iadd, 1) := by decide +kernel
theorem dL_law_1449 : decode cL_law 1449 = .ok (.iaload, 1) := by decide +kernel
theorem dL_law_1450 : decode cL_law 1450 = .ok (.invokevirtual 188, 3) := by decide +kernel
theorem dL_law_1453 : decode cL_law 1453 = .ok (.if_icmp .eq 282, 3) := by decide +kernel
theorem dL_law_1456 : decode cL_law 1456 = .ok (.iconst 0, 1) := by decide +kernel
theorem dL_law_1457 : decode cL_law 1457 = .ok (.ireturn, 1) := by decide +kernel
theorem dL_law_1458 : decode cL_law 1458 = .ok (.aload_n 1, 1) := by decide +kernel
theorem dL_law_1459 : decode cL_law 1459 = .ok (.aload_n 0, 1) := by decide +kernel
theorem dL_law_1460 : decode cL_law 1460 = .ok (.iload_n 3, 1) := by decide +kernel
theorem dL_law_1461 : decode cL_law 1461 = .ok (.iconst 1, 1) := by decide +kernel
theorem dL_law_1462 : decode cL_law 1462 = .ok (.iadd, 1) := by decide +kernel
theorem dL_law_1463 : decode cL_law 1463 = .ok (.iaload, 1) := by decide +kernel
theorem dL_law_1464 : decode cL_law 1464 = .ok (.aload_n 0, 1) := by decide +kernel
theorem dL_law_1465 : decode cL_law 1465 = .ok (.iload_n 3, 1) := by decide +kernel
theorem dL_law_1466 : decode cL_law 1466 = .ok (.iconst 2, 1) := by decide +kernel
theorem dL_law_1467 : decode cL_law 1467 = .ok (.iadd, 1) := by decide +kernel
theorem dL_law_1468 : decode cL_law 1468 = .ok (.iaload, 1) := by decide +kernel
theorem dL_law_1469 : decode cL_law 1469 = .ok (.aload_n 0, 1) := by decide +kernel
theorem dL_law_1470 : decode cL_law 1470 = .ok (.iload_n 3, 1) := by decide +kernel
theorem dL_law_1471 : decode cL_law 1471 = .ok (.iconst 3, 1) := by decide +kernel
theorem dL_law_1472 : decode cL_law 1472 = .ok (.iadd, 1) := by decide +kernel
theorem dL_law_1473 : decode cL_law 1473 = .ok (.iaload, 1) := by decide +kernel
theorem dL_law_1474 : decode cL_law 1474 = .ok (.invokevirtual 189, 3) := by decide +kernel
theorem dL_law_1477 : decode cL_law 1477 = .ok (.aload_n 2, 1) := by decide +kernel
theorem dL_law_1478 : decode cL_law 1478 = .ok (.aload_n 0, 1) := by decide +kernel
theorem dL_law_1479 : decode cL_law 1479 = .ok (.iload_n 3, 1) := by decide +kernel
theorem dL_law_1480 : decode cL_law 1480 = .ok (.iconst 1, 1) := by decide +kernel
theorem dL_law_1481 : decode cL_law 1481 = .ok (.iadd, 1) := by decide +kernel
theorem dL_law_1482 : decode cL_law 1482 = .ok (.iaload, 1) := by decide +kernel
theorem dL_law_1483 : decode cL_law 1483 = .ok (.aload_n 0, 1) := by decide +kernel
theorem dL_law_1484 : decode cL_law 1484 = .ok (.iload_n 3, 1) := by decide +kernel
theorem dL_law_1485 : decode cL_law 1485 = .ok (.iconst 2, 1) := by decide +kernel
theorem dL_law_1486 : decode cL_law 1486 = .ok (.iadd, 1) := by decide +kernel
theorem dL_law_1487 : decode cL_law 1487 = .ok (.iaload, 1) := by decide +kernel
theorem dL_law_1488 : decode cL_law 1488 = .ok (.aload_n 0, 1) := by decide +kernel
theorem dL_law_1489 : decode cL_law 1489 = .ok (.iload_n 3, 1) := by decide +kernel
theorem dL_law_1490 : decode cL_law 1490 = .ok (.iconst 3, 1) := by decide +kernel
theorem dL_law_1491 : decode cL_law 1491 = .ok (.iadd, 1) := by decide +kernel
theorem dL_law_1492 : decode cL_law 1492 = .ok (.iaload, 1) := by decide +kernel
theorem dL_law_1493 : decode cL_law 1493 = .ok (.invokevirtual 192, 3) := by decide +kernel
theorem dL_law_1496 : decode cL_law 1496 = .ok (.if_icmp .eq 239, 3) := by decide +kernel
theorem dL_law_1499 : decode cL_law 1499 = .ok (.iconst 0, 1) := by decide +kernel
theorem dL_law_1500 : decode cL_law 1500 = .ok (.ireturn, 1) := by decide +kernel
theorem dL_law_1501 : decode cL_law 1501 = .ok (.aload_n 1, 1) := by decide +kernel
theorem dL_law_1502 : decode cL_law 1502 = .ok (.aload_n 0, 1) := by decide +kernel
theorem dL_law_1503 : decode cL_law 1503 = .ok (.iload_n 3, 1) := by decide +kernel
theorem dL_law_1504 : decode cL_law 1504 = .ok (.iconst 1, 1) := by decide +kernel
theorem dL_law_1505 : decode cL_law 1505 = .ok (.iadd, 1) := by decide +kernel
theorem dL_law_1506 : decode cL_law 1506 = .ok (.iaload, 1) := by decide +kernel
theorem dL_law_1507 : decode cL_law 1507 = .ok (.aload_n 0, 1) := by decide +kernel
theorem dL_law_1508 : decode cL_law 1508 = .ok (.iload_n 3, 1) := by decide +kernel
theorem dL_law_1509 : decode cL_law 1509 = .ok (.iconst 2, 1) := by decide +kernel
theorem dL_law_1510 : decode cL_law 1510 = .ok (.iadd, 1) := by decide +kernel
theorem dL_law_1511 : decode cL_law 1511 = .ok (.iaload, 1) := by decide +kernel
theorem dL_law_1512 : decode cL_law 1512 = .ok (.aload_n 0, 1) := by decide +kernel
theorem dL_law_1513 : decode cL_law 1513 = .ok (.iload_n 3, 1) := by decide +kernel
theorem dL_law_1514 : decode cL_law 1514 = .ok (.iconst 3, 1) := by decide +kernel
theorem dL_law_1515 : decode cL_law 1515 = .ok (.iadd, 1) := by decide +kernel
theorem dL_law_1516 : decode cL_law 1516 = .ok (.iaload, 1) := by decide +kernel
theorem dL_law_1517 : decode cL_law 1517 = .ok (.invokevirtual 193, 3) := by decide +kernel
theorem dL_law_1520 : decode cL_law 1520 = .ok (.aload_n 2, 1) := by decide +kernel
theorem dL_law_1521 : decode cL_law 1521 = .ok (.aload_n 0, 1) := by decide +kernel
theorem dL_law_1522 : decode cL_law 1522 = .ok (.iload_n 3, 1) := by decide +kernel
theorem dL_law_1523 : decode cL_law 1523 = .ok (.iconst 1, 1) := by decide +kernel
theorem dL_law_1524 : decode cL_law 1524 = .ok (.iadd, 1) := by decide +kernel
theorem dL_law_1525 : decode cL_law 1525 = .ok (.iaload, 1) := by decide +kernel
theorem dL_law_1526 : decode cL_law 1526 = .ok (.aload_n 0, 1) := by decide +kernel
theorem dL_law_1527 : decode cL_law 1527 = .ok (.iload_n 3, 1) := by decide +kernel
theorem dL_law_1528 : decode cL_law 1528 = .ok (.iconst 2, 1) := by decide +kernel
theorem dL_law_1529 : decode cL_law 1529 = .ok (.iadd, 1) := by decide +kernel
theorem dL_law_1530 : decode cL_law 1530 = .ok (.iaload, 1) := by decide +kernel
theorem dL_law_1531 : decode cL_law 1531 = .ok (.aload_n 0, 1) := by decide +kernel
theorem dL_law_1532 : decode cL_law 1532 = .ok (.iload_n 3, 1) := by decide +kernel
theorem dL_law_1533 : decode cL_law 1533 = .ok (.iconst 3, 1) := by decide +kernel
theorem dL_law_1534 : decode cL_law 1534 = .ok (.iadd, 1) := by decide +kernel
theorem dL_law_1535 : decode cL_law 1535 = .ok (.iaload, 1) := by decide +kernel
theorem dL_law_1536 : decode cL_law 1536 = .ok (.invokevirtual 196, 3) := by decide +kernel
theorem dL_law_1539 : decode cL_law 1539 = .ok (.if_icmp .eq 196, 3) := by decide +kernel
theorem dL_law_1542 : decode cL_law 1542 = .ok (.iconst 0, 1) := by decide +kernel
theorem dL_law_1543 : decode cL_law 1543 = .ok (.ireturn, 1) := by decide +kernel
theorem dL_law_1544 : decode cL_law 1544 = .ok (.aload_n 1, 1) := by decide +kernel
theorem dL_law_1545 : decode cL_law 1545 = .ok (.aload_n 0, 1) := by decide +kernel
theorem dL_law_1546 : decode cL_law 1546 = .ok (.iload_n 3, 1) := by decide +kernel
theorem dL_law_1547 : decode cL_law 1547 = .ok (.iconst 1, 1) := by decide +kernel
theorem dL_law_1548 : decode cL_law 1548 = .ok (.iadd, 1) := by decide +kernel
theorem dL_law_1549 : decode cL_law 1549 = .ok (.iaload, 1) := by decide +kernel
theorem dL_law_1550 : decode cL_law 1550 = .ok (.aload_n 0, 1) := by decide +kernel
theorem dL_law_1551 : decode cL_law 1551 = .ok (.iload_n 3, 1) := by decide +kernel
theorem dL_law_1552 : decode cL_law 1552 = .ok (.iconst 2, 1) := by decide +kernel
theorem dL_law_1553 : decode cL_law 1553 = .ok (.iadd, 1) := by decide +kernel
theorem dL_law_1554 : decode cL_law 1554 = .ok (.iaload, 1) := by decide +kernel
theorem dL_law_1555 : decode cL_law 1555 = .ok (.aload_n 0, 1) := by decide +kernel
theorem dL_law_1556 : decode cL_law 1556 = .ok (.iload_n 3, 1) := by decide +kernel
theorem dL_law_1557 : decode cL_law 1557 = .ok (.iconst 3, 1) := by decide +kernel
theorem dL_law_1558 : decode cL_law 1558 = .ok (.iadd, 1) := by decide +kernel
theorem dL_law_1559 : decode cL_law 1559 = .ok (.iaload, 1) := by decide +kernel
theorem dL_law_1560 : decode cL_law 1560 = .ok (.invokevirtual 197, 3) := by decide +kernel
theorem dL_law_1563 : decode cL_law 1563 = .ok (.aload_n 2, 1) := by decide +kernel
theorem dL_law_1564 : decode cL_law 1564 = .ok (.aload_n 0, 1) := by decide +kernel
theorem dL_law_1565 : decode cL_law 1565 = .ok (.iload_n 3, 1) := by decide +kernel
theorem dL_law_1566 : decode cL_law 1566 = .ok (.iconst 1, 1) := by decide +kernel
theorem dL_law_1567 : decode cL_law 1567 = .ok (.iadd, 1) := by decide +kernel
theorem dL_law_1568 : decode cL_law 1568 = .ok (.iaload, 1) := by decide +kernel
theorem dL_law_1569 : decode cL_law 1569 = .ok (.aload_n 0, 1) := by decide +kernel
theorem dL_law_1570 : decode cL_law 1570 = .ok (.iload_n 3, 1) := by decide +kernel
theorem dL_law_1571 : decode cL_law 1571 = .ok (.iconst 2, 1) := by decide +kernel
theorem dL_law_1572 : decode cL_law 1572 = .ok (.iadd, 1) := by decide +kernel
theorem dL_law_1573 : decode cL_law 1573 = .ok (.iaload, 1) := by decide +kernel
theorem dL_law_1574 : decode cL_law 1574 = .ok (.aload_n 0, 1) := by decide +kernel
theorem dL_law_1575 : decode cL_law 1575 = .ok (.iload_n 3, 1) := by decide +kernel
theorem dL_law_1576 : decode cL_law 1576 = .ok (.iconst 3, 1) := by decide +kernel
theorem dL_law_1577 : decode cL_law 1577 = .ok (.iadd, 1) := by decide +kernel
theorem dL_law_1578 : decode cL_law 1578 = .ok (.iaload, 1) := by decide +kernel
theorem dL_law_1579 : decode cL_law 1579 = .ok (.invokevirtual 200, 3) := by decide +kernel
theorem dL_law_1582 : decode cL_law 1582 = .ok (.if_icmp .eq 153, 3) := by decide +kernel
theorem dL_law_1585 : decode cL_law 1585 = .ok (.iconst 0, 1) := by decide +kernel
theorem dL_law_1586 : decode cL_law 1586 = .ok (.ireturn, 1) := by decide +kernel
theorem dL_law_1587 : decode cL_law 1587 = .ok (.aload_n 1, 1) := by decide +kernel
theorem dL_law_1588 : decode cL_law 1588 = .ok (.aload_n 0, 1) := by decide +kernel
theorem dL_law_1589 : decode cL_law 1589 = .ok (.iload_n 3, 1) := by decide +kernel
theorem dL_law_1590 : decode cL_law 1590 = .ok (.iconst 1, 1) := by decide +kernel
theorem dL_law_1591 : decode cL_law 1591 = .ok (.iadd, 1) := by decide +kernel
theorem dL_law_1592 : decode cL_law 1592 = .ok (.iaload, 1) := by decide +kernel
theorem dL_law_1593 : decode cL_law 1593 = .ok (.aload_n 0, 1) := by decide +kernel
theorem dL_law_1594 : decode cL_law 1594 = .ok (.iload_n 3, 1) := by decide +kernel
theorem dL_law_1595 : decode cL_law 1595 = .ok (.iconst 2, 1) := by decide +kernel
theorem dL_law_1596 : decode cL_law 1596 = .ok (.iadd, 1) := by decide +kernel
theorem dL_law_1597 : decode cL_law 1597 = .ok (.iaload, 1) := by decide +kernel
theorem dL_law_1598 : decode cL_law 1598 = .ok (.invokevirtual 201, 3) := by decide +kernel
theorem dL_law_1601 : decode cL_law 1601 = .ok (.aload_n 2, 1) := by decide +kernel
theorem dL_law_1602 : decode cL_law 1602 = .ok (.aload_n 0, 1) := by decide +kernel
theorem dL_law_1603 : decode cL_law 1603 = .ok (.iload_n 3, 1) := by decide +kernel
theorem dL_law_1604 : decode cL_law 1604 = .ok (.iconst 1, 1) := by decide +kernel
theorem dL_law_1605 : decode cL_law 1605 = .ok (.iadd, 1) := by decide +kernel
theorem dL_law_1606 : decode cL_law 1606 = .ok (.iaload, 1) := by decide +kernel
theorem dL_law_1607 : decode cL_law 1607 = .ok (.aload_n 0, 1) := by decide +kernel
theorem dL_law_1608 : decode cL_law 1608 = .ok (.iload_n 3, 1) := by decide +kernel
theorem dL_law_1609 : decode cL_law 1609 = .ok (.iconst 2, 1) := by decide +kernel
theorem dL_law_1610 : decode cL_law 1610 = .ok (.iadd, 1) := by decide +kernel
theorem dL_law_1611 : decode cL_law 1611 = .ok (.iaload, 1) := by decide +kernel
theorem dL_law_1612 : decode cL_law 1612 = .ok (.invokevirtual 204, 3) := by decide +kernel
theorem dL_law_1615 : decode cL_law 1615 = .ok (.if_icmp .eq 120, 3) := by decide +kernel
theorem dL_law_1618 : decode cL_law 1618 = .ok (.iconst 0, 1) := by decide +kernel
theorem dL_law_1619 : decode cL_law 1619 = .ok (.ireturn, 1) := by decide +kernel
theorem dL_law_1620 : decode cL_law 1620 = .ok (.aload_n 1, 1) := by decide +kernel
theorem dL_law_1621 : decode cL_law 1621 = .ok (.aload_n 0, 1) := by decide +kernel
theorem dL_law_1622 : decode cL_law 1622 = .ok (.iload_n 3, 1) := by decide +kernel
theorem dL_law_1623 : decode cL_law 1623 = .ok (.iconst 1, 1) := by decide +kernel
theorem dL_law_1624 : decode cL_law 1624 = .ok (.iadd, 1) := by decide +kernel
theorem dL_law_1625 : decode cL_law 1625 = .ok (.iaload, 1) := by decide +kernel
theorem dL_law_1626 : decode cL_law 1626 = .ok (.aload_n 0, 1) := by decide +kernel
theorem dL_law_1627 : decode cL_law 1627 = .ok (.iload_n 3, 1) := by decide +kernel
theorem dL_law_1628 : decode cL_law 1628 = .ok (.iconst 2, 1) := by decide +kernel
theorem dL_law_1629 : decode cL_law 1629 = .ok (.iadd, 1) := by decide +kernel
theorem dL_law_1630 : decode cL_law 1630 = .ok (.iaload, 1) := by decide +kernel
theorem dL_law_1631 : decode cL_law 1631 = .ok (.aload_n 0, 1) := by decide +kernel
theorem dL_law_1632 : decode cL_law 1632 = .ok (.iload_n 3, 1) := by decide +kernel
theorem dL_law_1633 : decode cL_law 1633 = .ok (.iconst 3, 1) := by decide +kernel
theorem dL_law_1634 : decode cL_law 1634 = .ok (.iadd, 1) := by decide +kernel
theorem dL_law_1635 : decode cL_law 1635 = .ok (.iaload, 1) := by decide +kernel
theorem dL_law_1636 : decode cL_law 1636 = .ok (.invokevirtual 205, 3) := by decide +kernel
theorem dL_law_1639 : decode cL_law 1639 = .ok (.aload_n 2, 1) := by decide +kernel
theorem dL_law_1640 : decode cL_law 1640 = .ok (.aload_n 0, 1) := by decide +kernel
theorem dL_law_1641 : decode cL_law 1641 = .ok (.iload_n 3, 1) := by decide +kernel
theorem dL_law_1642 : decode cL_law 1642 = .ok (.iconst 1, 1) := by decide +kernel
theorem dL_law_1643 : decode cL_law 1643 = .ok (.iadd, 1) := by decide +kernel
theorem dL_law_1644 : decode cL_law 1644 = .ok (.iaload, 1) := by decide +kernel
theorem dL_law_1645 : decode cL_law 1645 = .ok (.aload_n 0, 1) := by decide +kernel
theorem dL_law_1646 : decode cL_law 1646 = .ok (.iload_n 3, 1) := by decide +kernel
theorem dL_law_1647 : decode cL_law 1647 = .ok (.iconst 2, 1) := by decide +kernel
theorem dL_law_1648 : decode cL_law 1648 = .ok (.iadd, 1) := by decide +kernel
theorem dL_law_1649 : decode cL_law 1649 = .ok (.iaload, 1) := by decide +kernel
theorem dL_law_1650 : decode cL_law 1650 = .ok (.aload_n 0, 1) := by decide +kernel
theorem dL_law_1651 : decode cL_law 1651 = .ok (.iload_n 3, 1) := by decide +kernel
theorem dL_law_1652 : decode cL_law 1652 = .ok (.iconst 3, 1) := by decide +kernel
theorem dL_law_1653 : decode cL_law 1653 = .ok (.iadd, 1) := by decide +kernel
theorem dL_law_1654 : decode cL_law 1654 = .ok (.iaload, 1) := by decide +kernel
theorem dL_law_1655 : decode cL_law 1655 = .ok (.invokevirtual 208, 3) := by decide +kernel
theorem dL_law_1658 : decode cL_law 1658 = .ok (.if_icmp .eq 77, 3) := by decide +kernel
theorem dL_law_1661 : decode cL_law 1661 = .ok (.iconst 0, 1) := by decide +kernel
theorem dL_law_1662 : decode cL_law 1662 = .ok (.ireturn, 1) := by decide +kernel
theorem dL_law_1663 : decode cL_law 1663 = .ok (.aload_n 1, 1) := by decide +kernel
theorem dL_law_1664 : decode cL_law 1664 = .ok (.aload_n 0, 1) := by decide +kernel
theorem dL_law_1665 : decode cL_law 1665 = .ok (.iload_n 3, 1) := by decide +kernel
theorem dL_law_1666 : decode cL_law 1666 = .ok (.iconst 1, 1) := by decide +kernel
theorem dL_law_1667 : decode cL_law 1667 = .ok (.iadd, 1) := by decide +kernel
theorem dL_law_1668 : decode cL_law 1668 = .ok (.iaload, 1) := by decide +kernel
theorem dL_law_1669 : decode cL_law 1669 = .ok (.invokevirtual 209, 3) := by decide +kernel
theorem dL_law_1672 : decode cL_law 1672 = .ok (.aload_n 2, 1) := by decide +kernel
theorem dL_law_1673 : decode cL_law 1673 = .ok (.aload_n 0, 1) := by decide +kernel
theorem dL_law_1674 : decode cL_law 1674 = .ok (.iload_n 3, 1) := by decide +kernel
theorem dL_law_1675 : decode cL_law 1675 = .ok (.iconst 1, 1) := by decide +kernel
theorem dL_law_1676 : decode cL_law 1676 = .ok (.iadd, 1) := by decide +kernel
theorem dL_law_1677 : decode cL_law 1677 = .ok (.iaload, 1) := by decide +kernel
theorem dL_law_1678 : decode cL_law 1678 = .ok (.invokevirtual 212, 3) := by decide +kernel
theorem dL_law_1681 : decode cL_law 1681 = .ok (.if_icmp .eq 54, 3) := by decide +kernel
theorem dL_law_1684 : decode cL_law 1684 = .ok (.iconst 0, 1) := by decide +kernel
theorem dL_law_1685 : decode cL_law 1685 = .ok (.ireturn, 1) := by decide +kernel
theorem dL_law_1686 : decode cL_law 1686 = .ok (.aload_n 1, 1) := by decide +kernel
theorem dL_law_1687 : decode cL_law 1687 = .ok (.aload_n 0, 1) := by decide +kernel
theorem dL_law_1688 : decode cL_law 1688 = .ok (.iload_n 3, 1) := by decide +kernel
theorem dL_law_1689 : decode cL_law 1689 = .ok (.iconst 1, 1) := by decide +kernel
theorem dL_law_1690 : decode cL_law 1690 = .ok (.iadd, 1) := by decide +kernel
theorem dL_law_1691 : decode cL_law 1691 = .ok (.iaload, 1) := by decide +kernel
theorem dL_law_1692 : decode cL_law 1692 = .ok (.invokevirtual 213, 3) := by decide +kernel
theorem dL_law_1695 : decode cL_law 1695 = .ok (.aload_n 2, 1) := by decide +kernel
theorem dL_law_1696 : decode cL_law 1696 = .ok (.aload_n 0, 1) := by decide +kernel
theorem dL_law_1697 : decode cL_law 1697 = .ok (.iload_n 3, 1) := by decide +kernel
theorem dL_law_1698 : decode cL_law 1698 = .ok (.iconst 1, 1) := by decide +kernel
theorem dL_law_1699 : decode cL_law 1699 = .ok (.iadd, 1) := by decide +kernel
theorem dL_law_1700 : decode cL_law 1700 = .ok (.iaload, 1) := by decide +kernel
theorem dL_law_1701 : decode cL_law 1701 = .ok (.invokevirtual 216, 3) := by decide +kernel
theorem dL_law_1704 : decode cL_law 1704 = .ok (.if_icmp .eq 31, 3) := by decide +kernel
theorem dL_law_1707 : decode cL_law 1707 = .ok (.iconst 0, 1) := by decide +kernel
theorem dL_law_1708 : decode cL_law 1708 = .ok (.ireturn, 1) := by decide +kernel
theorem dL_law_1709 : decode cL_law 1709 = .ok (.aload_n 1, 1) := by decide +kernel
theorem dL_law_1710 : decode cL_law 1710 = .ok (.invokevirtual 217, 3) := by decide +kernel
theorem dL_law_1713 : decode cL_law 1713 = .ok (.aload_n 2, 1) := by decide +kernel
theorem dL_law_1714 : decode cL_law 1714 = .ok (.invokevirtual 220, 3) := by decide +kernel
theorem dL_law_1717 : decode cL_law 1717 = .ok (.if_icmp .eq 18, 3) := by decide +kernel
theorem dL_law_1720 : decode cL_law 1720 = .ok (.iconst 0, 1) := by decide +kernel
theorem dL_law_1721 : decode cL_law 1721 = .ok (.ireturn, 1) := by decide +kernel
theorem dL_law_1722 : decode cL_law 1722 = .ok (.aload_n 1, 1) := by decide +kernel
theorem dL_law_1723 : decode cL_law 1723 = .ok (.invokevirtual 221, 3) := by decide +kernel
theorem dL_law_1726 : decode cL_law 1726 = .ok (.aload_n 2, 1) := by decide +kernel
theorem dL_law_1727 : decode cL_law 1727 = .ok (.invokevirtual 224, 3) := by decide +kernel
theorem dL_law_1730 : decode cL_law 1730 = .ok (.if_icmp .eq 5, 3) := by decide +kernel
theorem dL_law_1733 : decode cL_law 1733 = .ok (.iconst 0, 1) := by decide +kernel
theorem dL_law_1734 : decode cL_law 1734 = .ok (.ireturn, 1) := by decide +kernel
theorem dL_law_1735 : decode cL_law 1735 = .ok (.iinc 3 5, 3) := by decide +kernel
theorem dL_law_1738 : decode cL_law 1738 = .ok (.goto (-1720), 3) := by decide +kernel
theorem dL_law_1741 : decode cL_law 1741 = .ok (.iconst 1, 1) := by decide +kernel
theorem dL_law_1742 : decode cL_law 1742 = .ok (.ireturn, 1) := by decide +kernel
