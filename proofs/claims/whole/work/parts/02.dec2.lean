theorem dX8_alterRow_17 : decode cX8_alterRow 17 = .ok (.iadd, 1) := by decide +kernel
theorem dX8_alterRow_18 : decode cX8_alterRow 18 = .ok (.iload_n 3, 1) := by decide +kernel
theorem dX8_alterRow_19 : decode cX8_alterRow 19 = .ok (.invokestatic 130, 3) := by decide +kernel
theorem dX8_alterRow_22 : decode cX8_alterRow 22 = .ok (.goto 5, 3) := by decide +kernel
theorem dX8_alterRow_25 : decode cX8_alterRow 25 = .ok (.bipush (-9), 2) := by decide +kernel
theorem dX8_alterRow_27 : decode cX8_alterRow 27 = .ok (.ireturn, 1) := by decide +kernel
theorem dX8_judge_0 : decode cX8_judge 0 = .ok (.aload_n 0, 1) := by decide +kernel
theorem dX8_judge_1 : decode cX8_judge 1 = .ok (.getfield 22, 3) := by decide +kernel
theorem dX8_judge_4 : decode cX8_judge 4 = .ok (.aload_n 0, 1) := by decide +kernel
theorem dX8_judge_5 : decode cX8_judge 5 = .ok (.getfield 10, 3) := by decide +kernel
theorem dX8_judge_8 : decode cX8_judge 8 = .ok (.getfield 94, 3) := by decide +kernel
theorem dX8_judge_11 : decode cX8_judge 11 = .ok (.invokevirtual 189, 3) := by decide +kernel
theorem dX8_judge_14 : decode cX8_judge 14 = .ok (.iconst 0, 1) := by decide +kernel
theorem dX8_judge_15 : decode cX8_judge 15 = .ok (.istore_n 1, 1) := by decide +kernel
theorem dX8_judge_16 : decode cX8_judge 16 = .ok (.iload_n 1, 1) := by decide +kernel
theorem dX8_judge_17 : decode cX8_judge 17 = .ok (.aload_n 0, 1) := by decide +kernel
theorem dX8_judge_18 : decode cX8_judge 18 = .ok (.getfield 72, 3) := by decide +kernel
theorem dX8_judge_21 : decode cX8_judge 21 = .ok (.if_icmp .ge 98, 3) := by decide +kernel
theorem dX8_judge_24 : decode cX8_judge 24 = .ok (.aload_n 0, 1) := by decide +kernel
theorem dX8_judge_25 : decode cX8_judge 25 = .ok (.getfield 65, 3) := by decide +kernel
theorem dX8_judge_28 : decode cX8_judge 28 = .ok (.iconst 3, 1) := by decide +kernel
theorem dX8_judge_29 : decode cX8_judge 29 = .ok (.iload_n 1, 1) := by decide +kernel
theorem dX8_judge_30 : decode cX8_judge 30 = .ok (.imul, 1) := by decide +kernel
theorem dX8_judge_31 : decode cX8_judge 31 = .ok (.iaload, 1) := by decide +kernel
theorem dX8_judge_32 : decode cX8_judge 32 = .ok (.istore_n 2, 1) := by decide +kernel
theorem dX8_judge_33 : decode cX8_judge 33 = .ok (.aload_n 0, 1) := by decide +kernel
theorem dX8_judge_34 : decode cX8_judge 34 = .ok (.getfield 10, 3) := by decide +kernel
theorem dX8_judge_37 : decode cX8_judge 37 = .ok (.iload_n 2, 1) := by decide +kernel
theorem dX8_judge_38 : decode cX8_judge 38 = .ok (.invokevirtual 294, 3) := by decide +kernel
theorem dX8_judge_41 : decode cX8_judge 41 = .ok (.ifCond .eq 17, 3) := by decide +kernel
theorem dX8_judge_44 : decode cX8_judge 44 = .ok (.aload_n 0, 1) := by decide +kernel
theorem dX8_judge_45 : decode cX8_judge 45 = .ok (.getfield 10, 3) := by decide +kernel
theorem dX8_judge_48 : decode cX8_judge 48 = .ok (.aload_n 0, 1) := by decide +kernel
theorem dX8_judge_49 : decode cX8_judge 49 = .ok (.getfield 22, 3) := by decide +kernel
theorem dX8_judge_52 : decode cX8_judge 52 = .ok (.invokevirtual 159, 3) := by decide +kernel
theorem dX8_judge_55 : decode cX8_judge 55 = .ok (.ifCond .eq 7, 3) := by decide +kernel
theorem dX8_judge_58 : decode cX8_judge 58 = .ok (.iload_n 1, 1) := by decide +kernel
theorem dX8_judge_59 : decode cX8_judge 59 = .ok (.iconst 1, 1) := by decide +kernel
theorem dX8_judge_60 : decode cX8_judge 60 = .ok (.iadd, 1) := by decide +kernel
theorem dX8_judge_61 : decode cX8_judge 61 = .ok (.ireturn, 1) := by decide +kernel
theorem dX8_judge_62 : decode cX8_judge 62 = .ok (.aload_n 0, 1) := by decide +kernel
theorem dX8_judge_63 : decode cX8_judge 63 = .ok (.getfield 10, 3) := by decide +kernel
theorem dX8_judge_66 : decode cX8_judge 66 = .ok (.aload_n 0, 1) := by decide +kernel
theorem dX8_judge_67 : decode cX8_judge 67 = .ok (.getfield 22, 3) := by decide +kernel
theorem dX8_judge_70 : decode cX8_judge 70 = .ok (.iload_n 2, 1) := by decide +kernel
theorem dX8_judge_71 : decode cX8_judge 71 = .ok (.invokevirtual 287, 3) := by decide +kernel
theorem dX8_judge_74 : decode cX8_judge 74 = .ok (.istore_n 3, 1) := by decide +kernel
theorem dX8_judge_75 : decode cX8_judge 75 = .ok (.iload_n 3, 1) := by decide +kernel
theorem dX8_judge_76 : decode cX8_judge 76 = .ok (.aload_n 0, 1) := by decide +kernel
theorem dX8_judge_77 : decode cX8_judge 77 = .ok (.getfield 65, 3) := by decide +kernel
theorem dX8_judge_80 : decode cX8_judge 80 = .ok (.iconst 3, 1) := by decide +kernel
theorem dX8_judge_81 : decode cX8_judge 81 = .ok (.iload_n 1, 1) := by decide +kernel
theorem dX8_judge_82 : decode cX8_judge 82 = .ok (.imul, 1) := by decide +kernel
theorem dX8_judge_83 : decode cX8_judge 83 = .ok (.iconst 1, 1) := by decide +kernel
theorem dX8_judge_84 : decode cX8_judge 84 = .ok (.iadd, 1) := by decide +kernel
theorem dX8_judge_85 : decode cX8_judge 85 = .ok (.iaload, 1) := by decide +kernel
theorem dX8_judge_86 : decode cX8_judge 86 = .ok (.if_icmp .ne 23, 3) := by decide +kernel
theorem dX8_judge_89 : decode cX8_judge 89 = .ok (.aload_n 0, 1) := by decide +kernel
theorem dX8_judge_90 : decode cX8_judge 90 = .ok (.getfield 22, 3) := by decide +kernel
theorem dX8_judge_93 : decode cX8_judge 93 = .ok (.getfield 156, 3) := by decide +kernel
theorem dX8_judge_96 : decode cX8_judge 96 = .ok (.aload_n 0, 1) := by decide +kernel
theorem dX8_judge_97 : decode cX8_judge 97 = .ok (.getfield 65, 3) := by decide +kernel
theorem dX8_judge_100 : decode cX8_judge 100 = .ok (.iconst 3, 1) := by decide +kernel
theorem dX8_judge_101 : decode cX8_judge 101 = .ok (.iload_n 1, 1) := by decide +kernel
theorem dX8_judge_102 : decode cX8_judge 102 = .ok (.imul, 1) := by decide +kernel
theorem dX8_judge_103 : decode cX8_judge 103 = .ok (.iconst 2, 1) := by decide +kernel
theorem dX8_judge_104 : decode cX8_judge 104 = .ok (.iadd, 1) := by decide +kernel
theorem dX8_judge_105 : decode cX8_judge 105 = .ok (.iaload, 1) := by decide +kernel
theorem dX8_judge_106 : decode cX8_judge 106 = .ok (.if_icmp .eq 7, 3) := by decide +kernel
theorem dX8_judge_109 : decode cX8_judge 109 = .ok (.iload_n 1, 1) := by decide +kernel
theorem dX8_judge_110 : decode cX8_judge 110 = .ok (.iconst 1, 1) := by decide +kernel
theorem dX8_judge_111 : decode cX8_judge 111 = .ok (.iadd, 1) := by decide +kernel
theorem dX8_judge_112 : decode cX8_judge 112 = .ok (.ireturn, 1) := by decide +kernel
theorem dX8_judge_113 : decode cX8_judge 113 = .ok (.iinc 1 1, 3) := by decide +kernel
theorem dX8_judge_116 : decode cX8_judge 116 = .ok (.goto (-100), 3) := by decide +kernel
theorem dX8_judge_119 : decode cX8_judge 119 = .ok (.iconst 0, 1) := by decide +kernel
theorem dX8_judge_120 : decode cX8_judge 120 = .ok (.ireturn, 1) := by decide +kernel
theorem dX8_sheet_0 : decode cX8_sheet 0 = .ok (.iload_n 1, 1) := by decide +kernel
theorem dX8_sheet_1 : decode cX8_sheet 1 = .ok (.invokestatic 297, 3) := by decide +kernel
theorem dX8_sheet_4 : decode cX8_sheet 4 = .ok (.ifCond .eq 12, 3) := by decide +kernel
theorem dX8_sheet_7 : decode cX8_sheet 7 = .ok (.iload_n 2, 1) := by decide +kernel
theorem dX8_sheet_8 : decode cX8_sheet 8 = .ok (.iconst (-1), 1) := by decide +kernel
theorem dX8_sheet_9 : decode cX8_sheet 9 = .ok (.iconst 4, 1) := by decide +kernel
theorem dX8_sheet_10 : decode cX8_sheet 10 = .ok (.invokestatic 79, 3) := by decide +kernel
theorem dX8_sheet_13 : decode cX8_sheet 13 = .ok (.ifCond .ne 5, 3) := by decide +kernel
theorem dX8_sheet_16 : decode cX8_sheet 16 = .ok (.iconst (-1), 1) := by decide +kernel
theorem dX8_sheet_17 : decode cX8_sheet 17 = .ok (.ireturn, 1) := by decide +kernel
theorem dX8_sheet_18 : decode cX8_sheet 18 = .ok (.iload_n 2, 1) := by decide +kernel
theorem dX8_sheet_19 : decode cX8_sheet 19 = .ok (.iconst (-1), 1) := by decide +kernel
theorem dX8_sheet_20 : decode cX8_sheet 20 = .ok (.if_icmp .eq 11, 3) := by decide +kernel
theorem dX8_sheet_23 : decode cX8_sheet 23 = .ok (.iload_n 3, 1) := by decide +kernel
theorem dX8_sheet_24 : decode cX8_sheet 24 = .ok (.bipush 40, 2) := by decide +kernel
theorem dX8_sheet_26 : decode cX8_sheet 26 = .ok (.if_icmp .le 5, 3) := by decide +kernel
theorem dX8_sheet_29 : decode cX8_sheet 29 = .ok (.iconst (-1), 1) := by decide +kernel
theorem dX8_sheet_30 : decode cX8_sheet 30 = .ok (.ireturn, 1) := by decide +kernel
theorem dX8_sheet_31 : decode cX8_sheet 31 = .ok (.iload_n 2, 1) := by decide +kernel
theorem dX8_sheet_32 : decode cX8_sheet 32 = .ok (.iconst (-1), 1) := by decide +kernel
theorem dX8_sheet_33 : decode cX8_sheet 33 = .ok (.if_icmp .eq 10, 3) := by decide +kernel
theorem dX8_sheet_36 : decode cX8_sheet 36 = .ok (.iload_n 3, 1) := by decide +kernel
theorem dX8_sheet_37 : decode cX8_sheet 37 = .ok (.ifCond .ge 6, 3) := by decide +kernel
theorem dX8_sheet_40 : decode cX8_sheet 40 = .ok (.bipush (-14), 2) := by decide +kernel
theorem dX8_sheet_42 : decode cX8_sheet 42 = .ok (.ireturn, 1) := by decide +kernel
theorem dX8_sheet_43 : decode cX8_sheet 43 = .ok (.aload_n 0, 1) := by decide +kernel
theorem dX8_sheet_44 : decode cX8_sheet 44 = .ok (.getfield 50, 3) := by decide +kernel
theorem dX8_sheet_47 : decode cX8_sheet 47 = .ok (.iload_n 1, 1) := by decide +kernel
theorem dX8_sheet_48 : decode cX8_sheet 48 = .ok (.iload_n 2, 1) := by decide +kernel
theorem dX8_sheet_49 : decode cX8_sheet 49 = .ok (.iload_n 3, 1) := by decide +kernel
theorem dX8_sheet_50 : decode cX8_sheet 50 = .ok (.invokevirtual 300, 3) := by decide +kernel
theorem dX8_sheet_53 : decode cX8_sheet 53 = .ok (.iconst 1, 1) := by decide +kernel
theorem dX8_sheet_54 : decode cX8_sheet 54 = .ok (.ireturn, 1) := by decide +kernel
theorem dX8_write_0 : decode cX8_write 0 = .ok (.iload_n 1, 1) := by decide +kernel
theorem dX8_write_1 : decode cX8_write 1 = .ok (.invokestatic 297, 3) := by decide +kernel
theorem dX8_write_4 : decode cX8_write 4 = .ok (.ifCond .ne 5, 3) := by decide +kernel
theorem dX8_write_7 : decode cX8_write 7 = .ok (.iconst (-1), 1) := by decide +kernel
theorem dX8_write_8 : decode cX8_write 8 = .ok (.ireturn, 1) := by decide +kernel
theorem dX8_write_9 : decode cX8_write 9 = .ok (.aload_n 0, 1) := by decide +kernel
theorem dX8_write_10 : decode cX8_write 10 = .ok (.getfield 50, 3) := by decide +kernel
theorem dX8_write_13 : decode cX8_write 13 = .ok (.iload_n 1, 1) := by decide +kernel
theorem dX8_write_14 : decode cX8_write 14 = .ok (.invokevirtual 304, 3) := by decide +kernel
theorem dX8_write_17 : decode cX8_write 17 = .ok (.ifCond .eq 6, 3) := by decide +kernel
theorem dX8_write_20 : decode cX8_write 20 = .ok (.bipush (-11), 2) := by decide +kernel
theorem dX8_write_22 : decode cX8_write 22 = .ok (.ireturn, 1) := by decide +kernel
theorem dX8_write_23 : decode cX8_write 23 = .ok (.aload_n 0, 1) := by decide +kernel
theorem dX8_write_24 : decode cX8_write 24 = .ok (.getfield 50, 3) := by decide +kernel
theorem dX8_write_27 : decode cX8_write 27 = .ok (.iload_n 1, 1) := by decide +kernel
theorem dX8_write_28 : decode cX8_write 28 = .ok (.iload_n 2, 1) := by decide +kernel
theorem dX8_write_29 : decode cX8_write 29 = .ok (.invokevirtual 307, 3) := by decide +kernel
theorem dX8_write_32 : decode cX8_write 32 = .ok (.ifCond .ne 6, 3) := by decide +kernel
theorem dX8_write_35 : decode cX8_write 35 = .ok (.bipush (-12), 2) := by decide +kernel
theorem dX8_write_37 : decode cX8_write 37 = .ok (.ireturn, 1) := by decide +kernel
theorem dX8_write_38 : decode cX8_write 38 = .ok (.aload_n 0, 1) := by decide +kernel
theorem dX8_write_39 : decode cX8_write 39 = .ok (.getfield 50, 3) := by decide +kernel
theorem dX8_write_42 : decode cX8_write 42 = .ok (.iload_n 1, 1) := by decide +kernel
theorem dX8_write_43 : decode cX8_write 43 = .ok (.iload_n 2, 1) := by decide +kernel
theorem dX8_write_44 : decode cX8_write 44 = .ok (.iload_n 3, 1) := by decide +kernel
theorem dX8_write_45 : decode cX8_write 45 = .ok (.invokevirtual 310, 3) := by decide +kernel
theorem dX8_write_48 : decode cX8_write 48 = .ok (.iconst 1, 1) := by decide +kernel
theorem dX8_write_49 : decode cX8_write 49 = .ok (.ireturn, 1) := by decide +kernel
theorem dX8_item_0 : decode cX8_item 0 = .ok (.iload_n 1, 1) := by decide +kernel
theorem dX8_item_1 : decode cX8_item 1 = .ok (.invokestatic 297, 3) := by decide +kernel
theorem dX8_item_4 : decode cX8_item 4 = .ok (.ifCond .eq 12, 3) := by decide +kernel
theorem dX8_item_7 : decode cX8_item 7 = .ok (.iload_n 2, 1) := by decide +kernel
theorem dX8_item_8 : decode cX8_item 8 = .ok (.iconst 0, 1) := by decide +kernel
theorem dX8_item_9 : decode cX8_item 9 = .ok (.iconst 4, 1) := by decide +kernel
theorem dX8_item_10 : decode cX8_item 10 = .ok (.invokestatic 79, 3) := by decide +kernel
theorem dX8_item_13 : decode cX8_item 13 = .ok (.ifCond .ne 5, 3) := by decide +kernel
theorem dX8_item_16 : decode cX8_item 16 = .ok (.iconst (-1), 1) := by decide +kernel
theorem dX8_item_17 : decode cX8_item 17 = .ok (.ireturn, 1) := by decide +kernel
theorem dX8_item_18 : decode cX8_item 18 = .ok (.aload_n 0, 1) := by decide +kernel
theorem dX8_item_19 : decode cX8_item 19 = .ok (.getfield 50, 3) := by decide +kernel
theorem dX8_item_22 : decode cX8_item 22 = .ok (.iload_n 1, 1) := by decide +kernel
theorem dX8_item_23 : decode cX8_item 23 = .ok (.iload_n 2, 1) := by decide +kernel
theorem dX8_item_24 : decode cX8_item 24 = .ok (.invokevirtual 312, 3) := by decide +kernel
theorem dX8_item_27 : decode cX8_item 27 = .ok (.istore 4, 2) := by decide +kernel
theorem dX8_item_29 : decode cX8_item 29 = .ok (.iload 4, 2) := by decide +kernel
theorem dX8_item_31 : decode cX8_item 31 = .ok (.ifCond .eq 6, 3) := by decide +kernel
theorem dX8_item_34 : decode cX8_item 34 = .ok (.iload 4, 2) := by decide +kernel
theorem dX8_item_36 : decode cX8_item 36 = .ok (.ireturn, 1) := by decide +kernel
theorem dX8_item_37 : decode cX8_item 37 = .ok (.aload_n 0, 1) := by decide +kernel
theorem dX8_item_38 : decode cX8_item 38 = .ok (.getfield 50, 3) := by decide +kernel
theorem dX8_item_41 : decode cX8_item 41 = .ok (.iload_n 1, 1) := by decide +kernel
theorem dX8_item_42 : decode cX8_item 42 = .ok (.iload_n 3, 1) := by decide +kernel
theorem dX8_item_43 : decode cX8_item 43 = .ok (.invokevirtual 307, 3) := by decide +kernel
theorem dX8_item_46 : decode cX8_item 46 = .ok (.ifCond .eq 15, 3) := by decide +kernel
theorem dX8_item_49 : decode cX8_item 49 = .ok (.aload_n 0, 1) := by decide +kernel
theorem dX8_item_50 : decode cX8_item 50 = .ok (.getfield 50, 3) := by decide +kernel
theorem dX8_item_53 : decode cX8_item 53 = .ok (.iload_n 1, 1) := by decide +kernel
theorem dX8_item_54 : decode cX8_item 54 = .ok (.iload_n 3, 1) := by decide +kernel
theorem dX8_item_55 : decode cX8_item 55 = .ok (.invokevirtual 315, 3) := by decide +kernel
theorem dX8_item_58 : decode cX8_item 58 = .ok (.goto 5, 3) := by decide +kernel
theorem dX8_item_61 : decode cX8_item 61 = .ok (.bipush (-12), 2) := by decide +kernel
theorem dX8_item_63 : decode cX8_item 63 = .ok (.ireturn, 1) := by decide +kernel
theorem dX8_goAll_0 : decode cX8_goAll 0 = .ok (.iload_n 1, 1) := by decide +kernel
theorem dX8_goAll_1 : decode cX8_goAll 1 = .ok (.invokestatic 297, 3) := by decide +kernel
theorem dX8_goAll_4 : decode cX8_goAll 4 = .ok (.ifCond .eq 13, 3) := by decide +kernel
theorem dX8_goAll_7 : decode cX8_goAll 7 = .ok (.iload_n 3, 1) := by decide +kernel
theorem dX8_goAll_8 : decode cX8_goAll 8 = .ok (.iconst 0, 1) := by decide +kernel
theorem dX8_goAll_9 : decode cX8_goAll 9 = .ok (.bipush 20, 2) := by decide +kernel
theorem dX8_goAll_11 : decode cX8_goAll 11 = .ok (.invokestatic 79, 3) := by decide +kernel
theorem dX8_goAll_14 : decode cX8_goAll 14 = .ok (.ifCond .ne 5, 3) := by decide +kernel
theorem dX8_goAll_17 : decode cX8_goAll 17 = .ok (.iconst (-1), 1) := by decide +kernel
theorem dX8_goAll_18 : decode cX8_goAll 18 = .ok (.ireturn, 1) := by decide +kernel
theorem dX8_goAll_19 : decode cX8_goAll 19 = .ok (.aload_n 0, 1) := by decide +kernel
theorem dX8_goAll_20 : decode cX8_goAll 20 = .ok (.getfield 50, 3) := by decide +kernel
theorem dX8_goAll_23 : decode cX8_goAll 23 = .ok (.iload_n 1, 1) := by decide +kernel
theorem dX8_goAll_24 : decode cX8_goAll 24 = .ok (.iconst 0, 1) := by decide +kernel
theorem dX8_goAll_25 : decode cX8_goAll 25 = .ok (.invokevirtual 312, 3) := by decide +kernel
theorem dX8_goAll_28 : decode cX8_goAll 28 = .ok (.istore 4, 2) := by decide +kernel
theorem dX8_goAll_30 : decode cX8_goAll 30 = .ok (.iload 4, 2) := by decide +kernel
theorem dX8_goAll_32 : decode cX8_goAll 32 = .ok (.ifCond .eq 6, 3) := by decide +kernel
theorem dX8_goAll_35 : decode cX8_goAll 35 = .ok (.iload 4, 2) := by decide +kernel
theorem dX8_goAll_37 : decode cX8_goAll 37 = .ok (.ireturn, 1) := by decide +kernel
theorem dX8_goAll_38 : decode cX8_goAll 38 = .ok (.iconst 0, 1) := by decide +kernel
theorem dX8_goAll_39 : decode cX8_goAll 39 = .ok (.istore 5, 2) := by decide +kernel
theorem dX8_goAll_41 : decode cX8_goAll 41 = .ok (.iconst 0, 1) := by decide +kernel
theorem dX8_goAll_42 : decode cX8_goAll 42 = .ok (.istore 6, 2) := by decide +kernel
theorem dX8_goAll_44 : decode cX8_goAll 44 = .ok (.iload 6, 2) := by decide +kernel
theorem dX8_goAll_46 : decode cX8_goAll 46 = .ok (.iload_n 3, 1) := by decide +kernel
theorem dX8_goAll_47 : decode cX8_goAll 47 = .ok (.if_icmp .ge 91, 3) := by decide +kernel
theorem dX8_goAll_50 : decode cX8_goAll 50 = .ok (.aload_n 0, 1) := by decide +kernel
theorem dX8_goAll_51 : decode cX8_goAll 51 = .ok (.getfield 50, 3) := by decide +kernel
theorem dX8_goAll_54 : decode cX8_goAll 54 = .ok (.iload_n 1, 1) := by decide +kernel
theorem dX8_goAll_55 : decode cX8_goAll 55 = .ok (.iload_n 2, 1) := by decide +kernel
theorem dX8_goAll_56 : decode cX8_goAll 56 = .ok (.iload 6, 2) := by decide +kernel
theorem dX8_goAll_58 : decode cX8_goAll 58 = .ok (.iadd, 1) := by decide +kernel
theorem dX8_goAll_59 : decode cX8_goAll 59 = .ok (.invokevirtual 307, 3) := by decide +kernel
theorem dX8_goAll_62 : decode cX8_goAll 62 = .ok (.ifCond .ne 6, 3) := by decide +kernel
theorem dX8_goAll_65 : decode cX8_goAll 65 = .ok (.bipush (-12), 2) := by decide +kernel
theorem dX8_goAll_67 : decode cX8_goAll 67 = .ok (.ireturn, 1) := by decide +kernel
theorem dX8_goAll_68 : decode cX8_goAll 68 = .ok (.aload_n 0, 1) := by decide +kernel
theorem dX8_goAll_69 : decode cX8_goAll 69 = .ok (.getfield 50, 3) := by decide +kernel
theorem dX8_goAll_72 : decode cX8_goAll 72 = .ok (.iload_n 1, 1) := by decide +kernel
theorem dX8_goAll_73 : decode cX8_goAll 73 = .ok (.iload_n 2, 1) := by decide +kernel
theorem dX8_goAll_74 : decode cX8_goAll 74 = .ok (.iload 6, 2) := by decide +kernel
theorem dX8_goAll_76 : decode cX8_goAll 76 = .ok (.iadd, 1) := by decide +kernel
theorem dX8_goAll_77 : decode cX8_goAll 77 = .ok (.invokevirtual 315, 3) := by decide +kernel
theorem dX8_goAll_80 : decode cX8_goAll 80 = .ok (.istore 7, 2) := by decide +kernel
theorem dX8_goAll_82 : decode cX8_goAll 82 = .ok (.aload_n 0, 1) := by decide +kernel
theorem dX8_goAll_83 : decode cX8_goAll 83 = .ok (.getfield 10, 3) := by decide +kernel
theorem dX8_goAll_86 : decode cX8_goAll 86 = .ok (.iload 7, 2) := by decide +kernel
theorem dX8_goAll_88 : decode cX8_goAll 88 = .ok (.invokevirtual 294, 3) := by decide +kernel
theorem dX8_goAll_91 : decode cX8_goAll 91 = .ok (.ifCond .eq 41, 3) := by decide +kernel
theorem dX8_goAll_94 : decode cX8_goAll 94 = .ok (.aload_n 0, 1) := by decide +kernel
theorem dX8_goAll_95 : decode cX8_goAll 95 = .ok (.getfield 10, 3) := by decide +kernel
theorem dX8_goAll_98 : decode cX8_goAll 98 = .ok (.aload_n 0, 1) := by decide +kernel
theorem dX8_goAll_99 : decode cX8_goAll 99 = .ok (.getfield 10, 3) := by decide +kernel
theorem dX8_goAll_102 : decode cX8_goAll 102 = .ok (.getfield 94, 3) := by decide +kernel
theorem dX8_goAll_105 : decode cX8_goAll 105 = .ok (.invokevirtual 159, 3) := by decide +kernel
theorem dX8_goAll_108 : decode cX8_goAll 108 = .ok (.ifCond .ne 24, 3) := by decide +kernel
theorem dX8_goAll_111 : decode cX8_goAll 111 = .ok (.iload 5, 2) := by decide +kernel
theorem dX8_goAll_113 : decode cX8_goAll 113 = .ok (.aload_n 0, 1) := by decide +kernel
theorem dX8_goAll_114 : decode cX8_goAll 114 = .ok (.getfield 10, 3) := by decide +kernel
theorem dX8_goAll_117 : decode cX8_goAll 117 = .ok (.aload_n 0, 1) := by decide +kernel
theorem dX8_goAll_118 : decode cX8_goAll 118 = .ok (.getfield 10, 3) := by decide +kernel
theorem dX8_goAll_121 : decode cX8_goAll 121 = .ok (.getfield 94, 3) := by decide +kernel
theorem dX8_goAll_124 : decode cX8_goAll 124 = .ok (.iload 7, 2) := by decide +kernel
theorem dX8_goAll_126 : decode cX8_goAll 126 = .ok (.invokevirtual 287, 3) := by decide +kernel
theorem dX8_goAll_129 : decode cX8_goAll 129 = .ok (.iadd, 1) := by decide +kernel
theorem dX8_goAll_130 : decode cX8_goAll 130 = .ok (.istore 5, 2) := by decide +kernel
theorem dX8_goAll_132 : decode cX8_goAll 132 = .ok (.iinc 6 1, 3) := by decide +kernel
theorem dX8_goAll_135 : decode cX8_goAll 135 = .ok (.goto (-91), 3) := by decide +kernel
theorem dX8_goAll_138 : decode cX8_goAll 138 = .ok (.iload 5, 2) := by decide +kernel
theorem dX8_goAll_140 : decode cX8_goAll 140 = .ok (.ireturn, 1) := by decide +kernel
theorem dX8_wouldBe_0 : decode cX8_wouldBe 0 = .ok (.iload_n 1, 1) := by decide +kernel
theorem dX8_wouldBe_1 : decode cX8_wouldBe 1 = .ok (.invokestatic 297, 3) := by decide +kernel
theorem dX8_wouldBe_4 : decode cX8_wouldBe 4 = .ok (.ifCond .eq 13, 3) := by decide +kernel
theorem dX8_wouldBe_7 : decode cX8_wouldBe 7 = .ok (.iload_n 3, 1) := by decide +kernel
theorem dX8_wouldBe_8 : decode cX8_wouldBe 8 = .ok (.iconst 0, 1) := by decide +kernel
theorem dX8_wouldBe_9 : decode cX8_wouldBe 9 = .ok (.bipush 20, 2) := by decide +kernel
theorem dX8_wouldBe_11 : decode cX8_wouldBe 11 = .ok (.invokestatic 79, 3) := by decide +kernel
theorem dX8_wouldBe_14 : decode cX8_wouldBe 14 = .ok (.ifCond .ne 5, 3) := by decide +kernel
theorem dX8_wouldBe_17 : decode cX8_wouldBe 17 = .ok (.iconst (-1), 1) := by decide +kernel
theorem dX8_wouldBe_18 : decode cX8_wouldBe 18 = .ok (.ireturn, 1) := by decide +kernel
theorem dX8_wouldBe_19 : decode cX8_wouldBe 19 = .ok (.aload_n 0, 1) := by decide +kernel
theorem dX8_wouldBe_20 : decode cX8_wouldBe 20 = .ok (.getfield 50, 3) := by decide +kernel
theorem dX8_wouldBe_23 : decode cX8_wouldBe 23 = .ok (.iload_n 1, 1) := by decide +kernel
theorem dX8_wouldBe_24 : decode cX8_wouldBe 24 = .ok (.iconst 0, 1) := by decide +kernel
theorem dX8_wouldBe_25 : decode cX8_wouldBe 25 = .ok (.invokevirtual 312, 3) := by decide +kernel
theorem dX8_wouldBe_28 : decode cX8_wouldBe 28 = .ok (.istore 4, 2) := by decide +kernel
theorem dX8_wouldBe_30 : decode cX8_wouldBe 30 = .ok (.iload 4, 2) := by decide +kernel
theorem dX8_wouldBe_32 : decode cX8_wouldBe 32 = .ok (.ifCond .eq 6, 3) := by decide +kernel
theorem dX8_wouldBe_35 : decode cX8_wouldBe 35 = .ok (.iload 4, 2) := by decide +kernel
theorem dX8_wouldBe_37 : decode cX8_wouldBe 37 = .ok (.ireturn, 1) := by decide +kernel
theorem dX8_wouldBe_38 : decode cX8_wouldBe 38 = .ok (.aload_n 0, 1) := by decide +kernel
theorem dX8_wouldBe_39 : decode cX8_wouldBe 39 = .ok (.getfield 22, 3) := by decide +kernel
theorem dX8_wouldBe_42 : decode cX8_wouldBe 42 = .ok (.aload_n 0, 1) := by decide +kernel
theorem dX8_wouldBe_43 : decode cX8_wouldBe 43 = .ok (.getfield 10, 3) := by decide +kernel
theorem dX8_wouldBe_46 : decode cX8_wouldBe 46 = .ok (.getfield 94, 3) := by decide +kernel
theorem dX8_wouldBe_49 : decode cX8_wouldBe 49 = .ok (.invokevirtual 189, 3) := by decide +kernel
theorem dX8_wouldBe_52 : decode cX8_wouldBe 52 = .ok (.iconst 0, 1) := by decide +kernel
theorem dX8_wouldBe_53 : decode cX8_wouldBe 53 = .ok (.istore 5, 2) := by decide +kernel
theorem dX8_wouldBe_55 : decode cX8_wouldBe 55 = .ok (.iconst 0, 1) := by decide +kernel
theorem dX8_wouldBe_56 : decode cX8_wouldBe 56 = .ok (.istore 6, 2) := by decide +kernel
theorem dX8_wouldBe_58 : decode cX8_wouldBe 58 = .ok (.iload 6, 2) := by decide +kernel
theorem dX8_wouldBe_60 : decode cX8_wouldBe 60 = .ok (.iload_n 3, 1) := by decide +kernel
theorem dX8_wouldBe_61 : decode cX8_wouldBe 61 = .ok (.if_icmp .ge 88, 3) := by decide +kernel
theorem dX8_wouldBe_64 : decode cX8_wouldBe 64 = .ok (.aload_n 0, 1) := by decide +kernel
theorem dX8_wouldBe_65 : decode cX8_wouldBe 65 = .ok (.getfield 50, 3) := by decide +kernel
theorem dX8_wouldBe_68 : decode cX8_wouldBe 68 = .ok (.iload_n 1, 1) := by decide +kernel
theorem dX8_wouldBe_69 : decode cX8_wouldBe 69 = .ok (.iload_n 2, 1) := by decide +kernel
theorem dX8_wouldBe_70 : decode cX8_wouldBe 70 = .ok (.iload 6, 2) := by decide +kernel
theorem dX8_wouldBe_72 : decode cX8_wouldBe 72 = .ok (.iadd, 1) := by decide +kernel
theorem dX8_wouldBe_73 : decode cX8_wouldBe 73 = .ok (.invokevirtual 307, 3) := by decide +kernel
theorem dX8_wouldBe_76 : decode cX8_wouldBe 76 = .ok (.ifCond .ne 6, 3) := by decide +kernel
theorem dX8_wouldBe_79 : decode cX8_wouldBe 79 = .ok (.bipush (-12), 2) := by decide +kernel
theorem dX8_wouldBe_81 : decode cX8_wouldBe 81 = .ok (.ireturn, 1) := by decide +kernel
theorem dX8_wouldBe_82 : decode cX8_wouldBe 82 = .ok (.aload_n 0, 1) := by decide +kernel
theorem dX8_wouldBe_83 : decode cX8_wouldBe 83 = .ok (.getfield 50, 3) := by decide +kernel
theorem dX8_wouldBe_86 : decode cX8_wouldBe 86 = .ok (.iload_n 1, 1) := by decide +kernel
theorem dX8_wouldBe_87 : decode cX8_wouldBe 87 = .ok (.iload_n 2, 1) := by decide +kernel
theorem dX8_wouldBe_88 : decode cX8_wouldBe 88 = .ok (.iload 6, 2) := by decide +kernel
theorem dX8_wouldBe_90 : decode cX8_wouldBe 90 = .ok (.iadd, 1) := by decide +kernel
theorem dX8_wouldBe_91 : decode cX8_wouldBe 91 = .ok (.invokevirtual 315, 3) := by decide +kernel
theorem dX8_wouldBe_94 : decode cX8_wouldBe 94 = .ok (.istore 7, 2) := by decide +kernel
theorem dX8_wouldBe_96 : decode cX8_wouldBe 96 = .ok (.aload_n 0, 1) := by decide +kernel
theorem dX8_wouldBe_97 : decode cX8_wouldBe 97 = .ok (.getfield 10, 3) := by decide +kernel
theorem dX8_wouldBe_100 : decode cX8_wouldBe 100 = .ok (.iload 7, 2) := by decide +kernel
theorem dX8_wouldBe_102 : decode cX8_wouldBe 102 = .ok (.invokevirtual 294, 3) := by decide +kernel
theorem dX8_wouldBe_105 : decode cX8_wouldBe 105 = .ok (.ifCond .eq 17, 3) := by decide +kernel
theorem dX8_wouldBe_108 : decode cX8_wouldBe 108 = .ok (.aload_n 0, 1) := by decide +kernel
theorem dX8_wouldBe_109 : decode cX8_wouldBe 109 = .ok (.getfield 10, 3) := by decide +kernel
theorem dX8_wouldBe_112 : decode cX8_wouldBe 112 = .ok (.aload_n 0, 1) := by decide +kernel
theorem dX8_wouldBe_113 : decode cX8_wouldBe 113 = .ok (.getfield 22, 3) := by decide +kernel
theorem dX8_wouldBe_116 : decode cX8_wouldBe 116 = .ok (.invokevirtual 159, 3) := by decide +kernel
theorem dX8_wouldBe_119 : decode cX8_wouldBe 119 = .ok (.ifCond .eq 6, 3) := by decide +kernel
theorem dX8_wouldBe_122 : decode cX8_wouldBe 122 = .ok (.bipush (-4), 2) := by decide +kernel
theorem dX8_wouldBe_124 : decode cX8_wouldBe 124 = .ok (.ireturn, 1) := by decide +kernel
theorem dX8_wouldBe_125 : decode cX8_wouldBe 125 = .ok (.iload 5, 2) := by decide +kernel
theorem dX8_wouldBe_127 : decode cX8_wouldBe 127 = .ok (.aload_n 0, 1) := by decide +kernel
theorem dX8_wouldBe_128 : decode cX8_wouldBe 128 = .ok (.getfield 10, 3) := by decide +kernel
theorem dX8_wouldBe_131 : decode cX8_wouldBe 131 = .ok (.aload_n 0, 1) := by decide +kernel
theorem dX8_wouldBe_132 : decode cX8_wouldBe 132 = .ok (.getfield 22, 3) := by decide +kernel
theorem dX8_wouldBe_135 : decode cX8_wouldBe 135 = .ok (.iload 7, 2) := by decide +kernel
theorem dX8_wouldBe_137 : decode cX8_wouldBe 137 = .ok (.invokevirtual 287, 3) := by decide +kernel
theorem dX8_wouldBe_140 : decode cX8_wouldBe 140 = .ok (.iadd, 1) := by decide +kernel
theorem dX8_wouldBe_141 : decode cX8_wouldBe 141 = .ok (.istore 5, 2) := by decide +kernel
theorem dX8_wouldBe_143 : decode cX8_wouldBe 143 = .ok (.iinc 6 1, 3) := by decide +kernel
theorem dX8_wouldBe_146 : decode cX8_wouldBe 146 = .ok (.goto (-88), 3) := by decide +kernel
theorem dX8_wouldBe_149 : decode cX8_wouldBe 149 = .ok (.iload 5, 2) := by decide +kernel
theorem dX8_wouldBe_151 : decode cX8_wouldBe 151 = .ok (.ireturn, 1) := by decide +kernel
theorem dX8_shelf_0 : decode cX8_shelf 0 = .ok (.iload_n 1, 1) := by decide +kernel
theorem dX8_shelf_1 : decode cX8_shelf 1 = .ok (.invokestatic 318, 3) := by decide +kernel
theorem dX8_shelf_4 : decode cX8_shelf 4 = .ok (.ifCond .ne 5, 3) := by decide +kernel
theorem dX8_shelf_7 : decode cX8_shelf 7 = .ok (.iconst (-1), 1) := by decide +kernel
theorem dX8_shelf_8 : decode cX8_shelf 8 = .ok (.ireturn, 1) := by decide +kernel
theorem dX8_shelf_9 : decode cX8_shelf 9 = .ok (.iload_n 2, 1) := by decide +kernel
theorem dX8_shelf_10 : decode cX8_shelf 10 = .ok (.tableswitch 81 0 2 #[26, 51, 72], 26) := by decide +kernel
theorem dX8_shelf_36 : decode cX8_shelf 36 = .ok (.aload_n 0, 1) := by decide +kernel
theorem dX8_shelf_37 : decode cX8_shelf 37 = .ok (.getfield 10, 3) := by decide +kernel
theorem dX8_shelf_40 : decode cX8_shelf 40 = .ok (.iload_n 3, 1) := by decide +kernel
theorem dX8_shelf_41 : decode cX8_shelf 41 = .ok (.invokevirtual 90, 3) := by decide +kernel
theorem dX8_shelf_44 : decode cX8_shelf 44 = .ok (.ifCond .eq 15, 3) := by decide +kernel
theorem dX8_shelf_47 : decode cX8_shelf 47 = .ok (.aload_n 0, 1) := by decide +kernel
theorem dX8_shelf_48 : decode cX8_shelf 48 = .ok (.getfield 50, 3) := by decide +kernel
theorem dX8_shelf_51 : decode cX8_shelf 51 = .ok (.iload_n 1, 1) := by decide +kernel
theorem dX8_shelf_52 : decode cX8_shelf 52 = .ok (.iload_n 3, 1) := by decide +kernel
theorem dX8_shelf_53 : decode cX8_shelf 53 = .ok (.invokevirtual 321, 3) := by decide +kernel
theorem dX8_shelf_56 : decode cX8_shelf 56 = .ok (.goto 4, 3) := by decide +kernel
theorem dX8_shelf_59 : decode cX8_shelf 59 = .ok (.iconst (-1), 1) := by decide +kernel
theorem dX8_shelf_60 : decode cX8_shelf 60 = .ok (.ireturn, 1) := by decide +kernel
theorem dX8_shelf_61 : decode cX8_shelf 61 = .ok (.iload_n 3, 1) := by decide +kernel
theorem dX8_shelf_62 : decode cX8_shelf 62 = .ok (.invokestatic 297, 3) := by decide +kernel
theorem dX8_shelf_65 : decode cX8_shelf 65 = .ok (.ifCond .eq 15, 3) := by decide +kernel
theorem dX8_shelf_68 : decode cX8_shelf 68 = .ok (.aload_n 0, 1) := by decide +kernel
theorem dX8_shelf_69 : decode cX8_shelf 69 = .ok (.getfield 50, 3) := by decide +kernel
theorem dX8_shelf_72 : decode cX8_shelf 72 = .ok (.iload_n 1, 1) := by decide +kernel
theorem dX8_shelf_73 : decode cX8_shelf 73 = .ok (.iload_n 3, 1) := by decide +kernel
theorem dX8_shelf_74 : decode cX8_shelf 74 = .ok (.invokevirtual 324, 3) := by decide +kernel
theorem dX8_shelf_77 : decode cX8_shelf 77 = .ok (.goto 4, 3) := by decide +kernel
theorem dX8_shelf_80 : decode cX8_shelf 80 = .ok (.iconst (-1), 1) := by decide +kernel
theorem dX8_shelf_81 : decode cX8_shelf 81 = .ok (.ireturn, 1) := by decide +kernel
theorem dX8_shelf_82 : decode cX8_shelf 82 = .ok (.aload_n 0, 1) := by decide +kernel
theorem dX8_shelf_83 : decode cX8_shelf 83 = .ok (.getfield 50, 3) := by decide +kernel
theorem dX8_shelf_86 : decode cX8_shelf 86 = .ok (.iload_n 1, 1) := by decide +kernel
theorem dX8_shelf_87 : decode cX8_shelf 87 = .ok (.invokevirtual 327, 3) := by decide +kernel
theorem dX8_shelf_90 : decode cX8_shelf 90 = .ok (.ireturn, 1) := by decide +kernel
theorem dX8_shelf_91 : decode cX8_shelf 91 = .ok (.iconst (-1), 1) := by decide +kernel
theorem dX8_shelf_92 : decode cX8_shelf 92 = .ok (.ireturn, 1) := by decide +kernel
theorem dX8_taken_0 : decode cX8_taken 0 = .ok (.iload_n 1, 1) := by decide +kernel
theorem dX8_taken_1 : decode cX8_taken 1 = .ok (.invokestatic 318, 3) := by decide +kernel
theorem dX8_taken_4 : decode cX8_taken 4 = .ok (.ifCond .eq 23, 3) := by decide +kernel
theorem dX8_taken_7 : decode cX8_taken 7 = .ok (.iload_n 2, 1) := by decide +kernel
theorem dX8_taken_8 : decode cX8_taken 8 = .ok (.iconst 0, 1) := by decide +kernel
theorem dX8_taken_9 : decode cX8_taken 9 = .ok (.iconst 5, 1) := by decide +kernel
theorem dX8_taken_10 : decode cX8_taken 10 = .ok (.invokestatic 79, 3) := by decide +kernel
theorem dX8_taken_13 : decode cX8_taken 13 = .ok (.ifCond .ne 16, 3) := by decide +kernel
theorem dX8_taken_16 : decode cX8_taken 16 = .ok (.iload_n 2, 1) := by decide +kernel
theorem dX8_taken_17 : decode cX8_taken 17 = .ok (.bipush 10, 2) := by decide +kernel
theorem dX8_taken_19 : decode cX8_taken 19 = .ok (.bipush 14, 2) := by decide +kernel
theorem dX8_taken_21 : decode cX8_taken 21 = .ok (.invokestatic 79, 3) := by decide +kernel
theorem dX8_taken_24 : decode cX8_taken 24 = .ok (.ifCond .ne 5, 3) := by decide +kernel
theorem dX8_taken_27 : decode cX8_taken 27 = .ok (.iconst (-1), 1) := by decide +kernel
theorem dX8_taken_28 : decode cX8_taken 28 = .ok (.ireturn, 1) := by decide +kernel
theorem dX8_taken_29 : decode cX8_taken 29 = .ok (.aload_n 0, 1) := by decide +kernel
theorem dX8_taken_30 : decode cX8_taken 30 = .ok (.getfield 50, 3) := by decide +kernel
theorem dX8_taken_33 : decode cX8_taken 33 = .ok (.iload_n 1, 1) := by decide +kernel
theorem dX8_taken_34 : decode cX8_taken 34 = .ok (.invokevirtual 330, 3) := by decide +kernel
theorem dX8_taken_37 : decode cX8_taken 37 = .ok (.ifCond .eq 32, 3) := by decide +kernel
theorem dX8_taken_40 : decode cX8_taken 40 = .ok (.aload_n 0, 1) := by decide +kernel
theorem dX8_taken_41 : decode cX8_taken 41 = .ok (.getfield 50, 3) := by decide +kernel
theorem dX8_taken_44 : decode cX8_taken 44 = .ok (.iload_n 1, 1) := by decide +kernel
theorem dX8_taken_45 : decode cX8_taken 45 = .ok (.invokevirtual 333, 3) := by decide +kernel
theorem dX8_taken_48 : decode cX8_taken 48 = .ok (.iload_n 2, 1) := by decide +kernel
theorem dX8_taken_49 : decode cX8_taken 49 = .ok (.bipush 10, 2) := by decide +kernel
theorem dX8_taken_51 : decode cX8_taken 51 = .ok (.isub, 1) := by decide +kernel
theorem dX8_taken_52 : decode cX8_taken 52 = .ok (.if_icmp .ne 14, 3) := by decide +kernel
theorem dX8_taken_55 : decode cX8_taken 55 = .ok (.aload_n 0, 1) := by decide +kernel
theorem dX8_taken_56 : decode cX8_taken 56 = .ok (.getfield 50, 3) := by decide +kernel
theorem dX8_taken_59 : decode cX8_taken 59 = .ok (.iload_n 1, 1) := by decide +kernel
theorem dX8_taken_60 : decode cX8_taken 60 = .ok (.invokevirtual 336, 3) := by decide +kernel
theorem dX8_taken_63 : decode cX8_taken 63 = .ok (.goto 5, 3) := by decide +kernel
theorem dX8_taken_66 : decode cX8_taken 66 = .ok (.bipush (-13), 2) := by decide +kernel
theorem dX8_taken_68 : decode cX8_taken 68 = .ok (.ireturn, 1) := by decide +kernel
theorem dX8_taken_69 : decode cX8_taken 69 = .ok (.aload_n 0, 1) := by decide +kernel
theorem dX8_taken_70 : decode cX8_taken 70 = .ok (.getfield 50, 3) := by decide +kernel
theorem dX8_taken_73 : decode cX8_taken 73 = .ok (.iload_n 1, 1) := by decide +kernel
theorem dX8_taken_74 : decode cX8_taken 74 = .ok (.invokevirtual 339, 3) := by decide +kernel
theorem dX8_taken_77 : decode cX8_taken 77 = .ok (.istore_n 3, 1) := by decide +kernel
theorem dX8_taken_78 : decode cX8_taken 78 = .ok (.aload_n 0, 1) := by decide +kernel
theorem dX8_taken_79 : decode cX8_taken 79 = .ok (.getfield 10, 3) := by decide +kernel
theorem dX8_taken_82 : decode cX8_taken 82 = .ok (.iload_n 3, 1) := by decide +kernel
theorem dX8_taken_83 : decode cX8_taken 83 = .ok (.invokevirtual 90, 3) := by decide +kernel
theorem dX8_taken_86 : decode cX8_taken 86 = .ok (.ifCond .ne 6, 3) := by decide +kernel
theorem dX8_taken_89 : decode cX8_taken 89 = .ok (.bipush (-11), 2) := by decide +kernel
theorem dX8_taken_91 : decode cX8_taken 91 = .ok (.ireturn, 1) := by decide +kernel
theorem dX8_taken_92 : decode cX8_taken 92 = .ok (.iload_n 2, 1) := by decide +kernel
theorem dX8_taken_93 : decode cX8_taken 93 = .ok (.bipush 10, 2) := by decide +kernel
theorem dX8_taken_95 : decode cX8_taken 95 = .ok (.if_icmp .ge 23, 3) := by decide +kernel
theorem dX8_taken_98 : decode cX8_taken 98 = .ok (.aload_n 0, 1) := by decide +kernel
theorem dX8_taken_99 : decode cX8_taken 99 = .ok (.getfield 10, 3) := by decide +kernel
theorem dX8_taken_102 : decode cX8_taken 102 = .ok (.getfield 97, 3) := by decide +kernel
theorem dX8_taken_105 : decode cX8_taken 105 = .ok (.iload_n 3, 1) := by decide +kernel
theorem dX8_taken_106 : decode cX8_taken 106 = .ok (.iaload, 1) := by decide +kernel
theorem dX8_taken_107 : decode cX8_taken 107 = .ok (.iload_n 2, 1) := by decide +kernel
theorem dX8_taken_108 : decode cX8_taken 108 = .ok (.invokestatic 342, 3) := by decide +kernel
theorem dX8_taken_111 : decode cX8_taken 111 = .ok (.ifCond .eq 7, 3) := by decide +kernel
theorem dX8_taken_114 : decode cX8_taken 114 = .ok (.iload_n 3, 1) := by decide +kernel
theorem dX8_taken_115 : decode cX8_taken 115 = .ok (.goto 5, 3) := by decide +kernel
theorem dX8_taken_118 : decode cX8_taken 118 = .ok (.bipush (-13), 2) := by decide +kernel
theorem dX8_taken_120 : decode cX8_taken 120 = .ok (.ireturn, 1) := by decide +kernel
theorem dX8_act_0 : decode cX8_act 0 = .ok (.aload_n 0, 1) := by decide +kernel
theorem dX8_act_1 : decode cX8_act 1 = .ok (.getfield 57, 3) := by decide +kernel
theorem dX8_act_4 : decode cX8_act 4 = .ok (.invokevirtual 345, 3) := by decide +kernel
theorem dX8_act_7 : decode cX8_act 7 = .ok (.iload_n 1, 1) := by decide +kernel
theorem dX8_act_8 : decode cX8_act 8 = .ok (.invokestatic 318, 3) := by decide +kernel
theorem dX8_act_11 : decode cX8_act 11 = .ok (.ifCond .eq 14, 3) := by decide +kernel
theorem dX8_act_14 : decode cX8_act 14 = .ok (.aload_n 0, 1) := by decide +kernel
theorem dX8_act_15 : decode cX8_act 15 = .ok (.getfield 50, 3) := by decide +kernel
theorem dX8_act_18 : decode cX8_act 18 = .ok (.iload_n 1, 1) := by decide +kernel
theorem dX8_act_19 : decode cX8_act 19 = .ok (.invokevirtual 339, 3) := by decide +kernel
theorem dX8_act_22 : decode cX8_act 22 = .ok (.goto 5, 3) := by decide +kernel
theorem dX8_act_25 : decode cX8_act 25 = .ok (.bipush (-3), 2) := by decide +kernel
theorem dX8_act_27 : decode cX8_act 27 = .ok (.istore 4, 2) := by decide +kernel
theorem dX8_act_29 : decode cX8_act 29 = .ok (.aload_n 0, 1) := by decide +kernel
theorem dX8_act_30 : decode cX8_act 30 = .ok (.getfield 10, 3) := by decide +kernel
theorem dX8_act_33 : decode cX8_act 33 = .ok (.iload 4, 2) := by decide +kernel
theorem dX8_act_35 : decode cX8_act 35 = .ok (.invokevirtual 90, 3) := by decide +kernel
theorem dX8_act_38 : decode cX8_act 38 = .ok (.ifCond .ne 5, 3) := by decide +kernel
theorem dX8_act_41 : decode cX8_act 41 = .ok (.iconst 0, 1) := by decide +kernel
theorem dX8_act_42 : decode cX8_act 42 = .ok (.ireturn, 1) := by decide +kernel
theorem dX8_act_43 : decode cX8_act 43 = .ok (.aload_n 0, 1) := by decide +kernel
theorem dX8_act_44 : decode cX8_act 44 = .ok (.getfield 57, 3) := by decide +kernel
theorem dX8_act_47 : decode cX8_act 47 = .ok (.aload_n 0, 1) := by decide +kernel
theorem dX8_act_48 : decode cX8_act 48 = .ok (.getfield 10, 3) := by decide +kernel
theorem dX8_act_51 : decode cX8_act 51 = .ok (.getfield 97, 3) := by decide +kernel
theorem dX8_act_54 : decode cX8_act 54 = .ok (.iload 4, 2) := by decide +kernel
theorem dX8_act_56 : decode cX8_act 56 = .ok (.iaload, 1) := by decide +kernel
theorem dX8_act_57 : decode cX8_act 57 = .ok (.iload 4, 2) := by decide +kernel
theorem dX8_act_59 : decode cX8_act 59 = .ok (.aload_n 0, 1) := by decide +kernel
theorem dX8_act_60 : decode cX8_act 60 = .ok (.getfield 10, 3) := by decide +kernel
theorem dX8_act_63 : decode cX8_act 63 = .ok (.getfield 106, 3) := by decide +kernel
theorem dX8_act_66 : decode cX8_act 66 = .ok (.iload 4, 2) := by decide +kernel
theorem dX8_act_68 : decode cX8_act 68 = .ok (.iaload, 1) := by decide +kernel
theorem dX8_act_69 : decode cX8_act 69 = .ok (.invokevirtual 348, 3) := by decide +kernel
theorem dX8_act_72 : decode cX8_act 72 = .ok (.iconst 0, 1) := by decide +kernel
theorem dX8_act_73 : decode cX8_act 73 = .ok (.istore 5, 2) := by decide +kernel
theorem dX8_act_75 : decode cX8_act 75 = .ok (.iload_n 2, 1) := by decide +kernel
theorem dX8_act_76 : decode cX8_act 76 = .ok (.tableswitch 84 0 3 #[32, 45, 58, 71], 32) := by decide +kernel
theorem dX8_act_108 : decode cX8_act 108 = .ok (.aload_n 0, 1) := by decide +kernel
theorem dX8_act_109 : decode cX8_act 109 = .ok (.getfield 57, 3) := by decide +kernel
theorem dX8_act_112 : decode cX8_act 112 = .ok (.iload_n 3, 1) := by decide +kernel
theorem dX8_act_113 : decode cX8_act 113 = .ok (.invokevirtual 351, 3) := by decide +kernel
theorem dX8_act_116 : decode cX8_act 116 = .ok (.istore 5, 2) := by decide +kernel
theorem dX8_act_118 : decode cX8_act 118 = .ok (.goto 44, 3) := by decide +kernel
theorem dX8_act_121 : decode cX8_act 121 = .ok (.aload_n 0, 1) := by decide +kernel
theorem dX8_act_122 : decode cX8_act 122 = .ok (.getfield 57, 3) := by decide +kernel
theorem dX8_act_125 : decode cX8_act 125 = .ok (.iload_n 3, 1) := by decide +kernel
theorem dX8_act_126 : decode cX8_act 126 = .ok (.invokevirtual 354, 3) := by decide +kernel
theorem dX8_act_129 : decode cX8_act 129 = .ok (.istore 5, 2) := by decide +kernel
theorem dX8_act_131 : decode cX8_act 131 = .ok (.goto 31, 3) := by decide +kernel
theorem dX8_act_134 : decode cX8_act 134 = .ok (.aload_n 0, 1) := by decide +kernel
theorem dX8_act_135 : decode cX8_act 135 = .ok (.getfield 57, 3) := by decide +kernel
theorem dX8_act_138 : decode cX8_act 138 = .ok (.iload_n 3, 1) := by decide +kernel
theorem dX8_act_139 : decode cX8_act 139 = .ok (.invokevirtual 357, 3) := by decide +kernel
theorem dX8_act_142 : decode cX8_act 142 = .ok (.istore 5, 2) := by decide +kernel
theorem dX8_act_144 : decode cX8_act 144 = .ok (.goto 18, 3) := by decide +kernel
theorem dX8_act_147 : decode cX8_act 147 = .ok (.aload_n 0, 1) := by decide +kernel
theorem dX8_act_148 : decode cX8_act 148 = .ok (.getfield 57, 3) := by decide +kernel
theorem dX8_act_151 : decode cX8_act 151 = .ok (.iload_n 3, 1) := by decide +kernel
theorem dX8_act_152 : decode cX8_act 152 = .ok (.invokevirtual 360, 3) := by decide +kernel
theorem dX8_act_155 : decode cX8_act 155 = .ok (.istore 5, 2) := by decide +kernel
theorem dX8_act_157 : decode cX8_act 157 = .ok (.goto 5, 3) := by decide +kernel
theorem dX8_act_160 : decode cX8_act 160 = .ok (.iconst 0, 1) := by decide +kernel
theorem dX8_act_161 : decode cX8_act 161 = .ok (.ireturn, 1) := by decide +kernel
theorem dX8_act_162 : decode cX8_act 162 = .ok (.aload_n 0, 1) := by decide +kernel
theorem dX8_act_163 : decode cX8_act 163 = .ok (.getfield 57, 3) := by decide +kernel
theorem dX8_act_166 : decode cX8_act 166 = .ok (.getfield 363, 3) := by decide +kernel
theorem dX8_act_169 : decode cX8_act 169 = .ok (.ifCond .eq 8, 3) := by decide +kernel
theorem dX8_act_172 : decode cX8_act 172 = .ok (.bipush (-15), 2) := by decide +kernel
theorem dX8_act_174 : decode cX8_act 174 = .ok (.goto 5, 3) := by decide +kernel
theorem dX8_act_177 : decode cX8_act 177 = .ok (.iload 5, 2) := by decide +kernel
theorem dX8_act_179 : decode cX8_act 179 = .ok (.ireturn, 1) := by decide +kernel
theorem dX8_trace_0 : decode cX8_trace 0 = .ok (.iload_n 1, 1) := by decide +kernel
theorem dX8_trace_1 : decode cX8_trace 1 = .ok (.iconst 0, 1) := by decide +kernel
theorem dX8_trace_2 : decode cX8_trace 2 = .ok (.aload_n 0, 1) := by decide +kernel
theorem dX8_trace_3 : decode cX8_trace 3 = .ok (.getfield 57, 3) := by decide +kernel
theorem dX8_trace_6 : decode cX8_trace 6 = .ok (.getfield 366, 3) := by decide +kernel
theorem dX8_trace_9 : decode cX8_trace 9 = .ok (.iconst 1, 1) := by decide +kernel
theorem dX8_trace_10 : decode cX8_trace 10 = .ok (.isub, 1) := by decide +kernel
theorem dX8_trace_11 : decode cX8_trace 11 = .ok (.invokestatic 79, 3) := by decide +kernel
theorem dX8_trace_14 : decode cX8_trace 14 = .ok (.ifCond .eq 15, 3) := by decide +kernel
theorem dX8_trace_17 : decode cX8_trace 17 = .ok (.aload_n 0, 1) := by decide +kernel
theorem dX8_trace_18 : decode cX8_trace 18 = .ok (.getfield 57, 3) := by decide +kernel
theorem dX8_trace_21 : decode cX8_trace 21 = .ok (.getfield 369, 3) := by decide +kernel
theorem dX8_trace_24 : decode cX8_trace 24 = .ok (.iload_n 1, 1) := by decide +kernel
theorem dX8_trace_25 : decode cX8_trace 25 = .ok (.iaload, 1) := by decide +kernel
theorem dX8_trace_26 : decode cX8_trace 26 = .ok (.goto 5, 3) := by decide +kernel
theorem dX8_trace_29 : decode cX8_trace 29 = .ok (.bipush (-3), 2) := by decide +kernel
theorem dX8_trace_31 : decode cX8_trace 31 = .ok (.ireturn, 1) := by decide +kernel
theorem dX8_many_0 : decode cX8_many 0 = .ok (.iload_n 1, 1) := by decide +kernel
theorem dX8_many_1 : decode cX8_many 1 = .ok (.tableswitch 105 0 6 #[43, 51, 62, 76, 87, 92, 97], 43) := by decide +kernel
theorem dX8_many_44 : decode cX8_many 44 = .ok (.aload_n 0, 1) := by decide +kernel
theorem dX8_many_45 : decode cX8_many 45 = .ok (.getfield 10, 3) := by decide +kernel
theorem dX8_many_48 : decode cX8_many 48 = .ok (.getfield 83, 3) := by decide +kernel
theorem dX8_many_51 : decode cX8_many 51 = .ok (.ireturn, 1) := by decide +kernel
theorem dX8_many_52 : decode cX8_many 52 = .ok (.aload_n 0, 1) := by decide +kernel
theorem dX8_many_53 : decode cX8_many 53 = .ok (.getfield 10, 3) := by decide +kernel
theorem dX8_many_56 : decode cX8_many 56 = .ok (.getfield 175, 3) := by decide +kernel
theorem dX8_many_59 : decode cX8_many 59 = .ok (.getfield 182, 3) := by decide +kernel
theorem dX8_many_62 : decode cX8_many 62 = .ok (.ireturn, 1) := by decide +kernel
theorem dX8_many_63 : decode cX8_many 63 = .ok (.aload_n 0, 1) := by decide +kernel
theorem dX8_many_64 : decode cX8_many 64 = .ok (.getfield 10, 3) := by decide +kernel
theorem dX8_many_67 : decode cX8_many 67 = .ok (.getfield 94, 3) := by decide +kernel
theorem dX8_many_70 : decode cX8_many 70 = .ok (.getfield 156, 3) := by decide +kernel
theorem dX8_many_73 : decode cX8_many 73 = .ok (.invokestatic 273, 3) := by decide +kernel
theorem dX8_many_76 : decode cX8_many 76 = .ok (.ireturn, 1) := by decide +kernel
theorem dX8_many_77 : decode cX8_many 77 = .ok (.aload_n 0, 1) := by decide +kernel
theorem dX8_many_78 : decode cX8_many 78 = .ok (.getfield 10, 3) := by decide +kernel
theorem dX8_many_81 : decode cX8_many 81 = .ok (.getfield 244, 3) := by decide +kernel
theorem dX8_many_84 : decode cX8_many 84 = .ok (.getfield 248, 3) := by decide +kernel
theorem dX8_many_87 : decode cX8_many 87 = .ok (.ireturn, 1) := by decide +kernel
theorem dX8_many_88 : decode cX8_many 88 = .ok (.aload_n 0, 1) := by decide +kernel
theorem dX8_many_89 : decode cX8_many 89 = .ok (.getfield 72, 3) := by decide +kernel
theorem dX8_many_92 : decode cX8_many 92 = .ok (.ireturn, 1) := by decide +kernel
theorem dX8_many_93 : decode cX8_many 93 = .ok (.aload_n 0, 1) := by decide +kernel
theorem dX8_many_94 : decode cX8_many 94 = .ok (.getfield 68, 3) := by decide +kernel
theorem dX8_many_97 : decode cX8_many 97 = .ok (.ireturn, 1) := by decide +kernel
theorem dX8_many_98 : decode cX8_many 98 = .ok (.aload_n 0, 1) := by decide +kernel
theorem dX8_many_99 : decode cX8_many 99 = .ok (.getfield 57, 3) := by decide +kernel
theorem dX8_many_102 : decode cX8_many 102 = .ok (.getfield 366, 3) := by decide +kernel
theorem dX8_many_105 : decode cX8_many 105 = .ok (.ireturn, 1) := by decide +kernel
theorem dX8_many_106 : decode cX8_many 106 = .ok (.iconst (-1), 1) := by decide +kernel
theorem dX8_many_107 : decode cX8_many 107 = .ok (.ireturn, 1) := by decide +kernel
theorem dX8_keep_0 : decode cX8_keep 0 = .ok (.aload_n 0, 1) := by decide +kernel
theorem dX8_keep_1 : decode cX8_keep 1 = .ok (.getfield 16, 3) := by decide +kernel
theorem dX8_keep_4 : decode cX8_keep 4 = .ok (.aload_n 0, 1) := by decide +kernel
theorem dX8_keep_5 : decode cX8_keep 5 = .ok (.getfield 10, 3) := by decide +kernel
theorem dX8_keep_8 : decode cX8_keep 8 = .ok (.invokevirtual 372, 3) := by decide +kernel
theorem dX8_keep_11 : decode cX8_keep 11 = .ok (.aload_n 0, 1) := by decide +kernel
theorem dX8_keep_12 : decode cX8_keep 12 = .ok (.iconst 1, 1) := by decide +kernel
theorem dX8_keep_13 : decode cX8_keep 13 = .ok (.putfield 75, 3) := by decide +kernel
theorem dX8_keep_16 : decode cX8_keep 16 = .ok (.iconst 1, 1) := by decide +kernel
theorem dX8_keep_17 : decode cX8_keep 17 = .ok (.ireturn, 1) := by decide +kernel
theorem dX8_again_0 : decode cX8_again 0 = .ok (.aload_n 0, 1) := by decide +kernel
theorem dX8_again_1 : decode cX8_again 1 = .ok (.getfield 75, 3) := by decide +kernel
theorem dX8_again_4 : decode cX8_again 4 = .ok (.ifCond .ne 6, 3) := by decide +kernel
theorem dX8_again_7 : decode cX8_again 7 = .ok (.bipush (-3), 2) := by decide +kernel
theorem dX8_again_9 : decode cX8_again 9 = .ok (.ireturn, 1) := by decide +kernel
theorem dX8_again_10 : decode cX8_again 10 = .ok (.aload_n 0, 1) := by decide +kernel
theorem dX8_again_11 : decode cX8_again 11 = .ok (.getfield 10, 3) := by decide +kernel
theorem dX8_again_14 : decode cX8_again 14 = .ok (.aload_n 0, 1) := by decide +kernel
theorem dX8_again_15 : decode cX8_again 15 = .ok (.getfield 16, 3) := by decide +kernel
theorem dX8_again_18 : decode cX8_again 18 = .ok (.invokevirtual 372, 3) := by decide +kernel
theorem dX8_again_21 : decode cX8_again 21 = .ok (.aload_n 0, 1) := by decide +kernel
theorem dX8_again_22 : decode cX8_again 22 = .ok (.getfield 10, 3) := by decide +kernel
theorem dX8_again_25 : decode cX8_again 25 = .ok (.getfield 83, 3) := by decide +kernel
theorem dX8_again_28 : decode cX8_again 28 = .ok (.ireturn, 1) := by decide +kernel
theorem dX8_within_0 : decode cX8_within 0 = .ok (.iload_n 0, 1) := by decide +kernel
theorem dX8_within_1 : decode cX8_within 1 = .ok (.iload_n 1, 1) := by decide +kernel
theorem dX8_within_2 : decode cX8_within 2 = .ok (.if_icmp .lt 12, 3) := by decide +kernel
theorem dX8_within_5 : decode cX8_within 5 = .ok (.iload_n 0, 1) := by decide +kernel
theorem dX8_within_6 : decode cX8_within 6 = .ok (.iload_n 2, 1) := by decide +kernel
theorem dX8_within_7 : decode cX8_within 7 = .ok (.if_icmp .gt 7, 3) := by decide +kernel
theorem dX8_within_10 : decode cX8_within 10 = .ok (.iconst 1, 1) := by decide +kernel
theorem dX8_within_11 : decode cX8_within 11 = .ok (.goto 4, 3) := by decide +kernel
theorem dX8_within_14 : decode cX8_within 14 = .ok (.iconst 0, 1) := by decide +kernel
theorem dX8_within_15 : decode cX8_within 15 = .ok (.ireturn, 1) := by decide +kernel
theorem dX8_isOrUnder_0 : decode cX8_isOrUnder 0 = .ok (.getstatic 375, 3) := by decide +kernel
theorem dX8_isOrUnder_3 : decode cX8_isOrUnder 3 = .ok (.iload_n 0, 1) := by decide +kernel
theorem dX8_isOrUnder_4 : decode cX8_isOrUnder 4 = .ok (.iaload, 1) := by decide +kernel
theorem dX8_isOrUnder_5 : decode cX8_isOrUnder 5 = .ok (.iload_n 1, 1) := by decide +kernel
theorem dX8_isOrUnder_6 : decode cX8_isOrUnder 6 = .ok (.ishr, 1) := by decide +kernel
theorem dX8_isOrUnder_7 : decode cX8_isOrUnder 7 = .ok (.iconst 1, 1) := by decide +kernel
theorem dX8_isOrUnder_8 : decode cX8_isOrUnder 8 = .ok (.iand, 1) := by decide +kernel
theorem dX8_isOrUnder_9 : decode cX8_isOrUnder 9 = .ok (.iconst 1, 1) := by decide +kernel
theorem dX8_isOrUnder_10 : decode cX8_isOrUnder 10 = .ok (.if_icmp .ne 7, 3) := by decide +kernel
theorem dX8_isOrUnder_13 : decode cX8_isOrUnder 13 = .ok (.iconst 1, 1) := by decide +kernel
theorem dX8_isOrUnder_14 : decode cX8_isOrUnder 14 = .ok (.goto 4, 3) := by decide +kernel
theorem dX8_isOrUnder_17 : decode cX8_isOrUnder 17 = .ok (.iconst 0, 1) := by decide +kernel
theorem dX8_isOrUnder_18 : decode cX8_isOrUnder 18 = .ok (.ireturn, 1) := by decide +kernel
theorem dX8_put_0 : decode cX8_put 0 = .ok (.aload_n 0, 1) := by decide +kernel
theorem dX8_put_1 : decode cX8_put 1 = .ok (.iload_n 1, 1) := by decide +kernel
theorem dX8_put_2 : decode cX8_put 2 = .ok (.iaload, 1) := by decide +kernel
theorem dX8_put_3 : decode cX8_put 3 = .ok (.istore_n 3, 1) := by decide +kernel
theorem dX8_put_4 : decode cX8_put 4 = .ok (.aload_n 0, 1) := by decide +kernel
theorem dX8_put_5 : decode cX8_put 5 = .ok (.iload_n 1, 1) := by decide +kernel
theorem dX8_put_6 : decode cX8_put 6 = .ok (.iload_n 2, 1) := by decide +kernel
theorem dX8_put_7 : decode cX8_put 7 = .ok (.iastore, 1) := by decide +kernel
theorem dX8_put_8 : decode cX8_put 8 = .ok (.iload_n 3, 1) := by decide +kernel
theorem dX8_put_9 : decode cX8_put 9 = .ok (.ireturn, 1) := by decide +kernel
theorem dX8_leastOfSet_0 : decode cX8_leastOfSet 0 = .ok (.iconst 0, 1) := by decide +kernel
theorem dX8_leastOfSet_1 : decode cX8_leastOfSet 1 = .ok (.istore_n 1, 1) := by decide +kernel
theorem dX8_leastOfSet_2 : decode cX8_leastOfSet 2 = .ok (.iload_n 1, 1) := by decide +kernel
theorem dX8_leastOfSet_3 : decode cX8_leastOfSet 3 = .ok (.bipush 6, 2) := by decide +kernel
theorem dX8_leastOfSet_5 : decode cX8_leastOfSet 5 = .ok (.if_icmp .ge 20, 3) := by decide +kernel
theorem dX8_leastOfSet_8 : decode cX8_leastOfSet 8 = .ok (.iload_n 0, 1) := by decide +kernel
theorem dX8_leastOfSet_9 : decode cX8_leastOfSet 9 = .ok (.iload_n 1, 1) := by decide +kernel
theorem dX8_leastOfSet_10 : decode cX8_leastOfSet 10 = .ok (.ishr, 1) := by decide +kernel
theorem dX8_leastOfSet_11 : decode cX8_leastOfSet 11 = .ok (.iconst 1, 1) := by decide +kernel
theorem dX8_leastOfSet_12 : decode cX8_leastOfSet 12 = .ok (.iand, 1) := by decide +kernel
theorem dX8_leastOfSet_13 : decode cX8_leastOfSet 13 = .ok (.iconst 1, 1) := by decide +kernel
theorem dX8_leastOfSet_14 : decode cX8_leastOfSet 14 = .ok (.if_icmp .ne 5, 3) := by decide +kernel
theorem dX8_leastOfSet_17 : decode cX8_leastOfSet 17 = .ok (.iload_n 1, 1) := by decide +kernel
theorem dX8_leastOfSet_18 : decode cX8_leastOfSet 18 = .ok (.ireturn, 1) := by decide +kernel
theorem dX8_leastOfSet_19 : decode cX8_leastOfSet 19 = .ok (.iinc 1 1, 3) := by decide +kernel
theorem dX8_leastOfSet_22 : decode cX8_leastOfSet 22 = .ok (.goto (-20), 3) := by decide +kernel
theorem dX8_leastOfSet_25 : decode cX8_leastOfSet 25 = .ok (.bipush (-3), 2) := by decide +kernel
theorem dX8_leastOfSet_27 : decode cX8_leastOfSet 27 = .ok (.ireturn, 1) := by decide +kernel
theorem dX8_hasCell_0 : decode cX8_hasCell 0 = .ok (.iload_n 1, 1) := by decide +kernel
theorem dX8_hasCell_1 : decode cX8_hasCell 1 = .ok (.iconst 0, 1) := by decide +kernel
theorem dX8_hasCell_2 : decode cX8_hasCell 2 = .ok (.aload_n 0, 1) := by decide +kernel
theorem dX8_hasCell_3 : decode cX8_hasCell 3 = .ok (.getfield 72, 3) := by decide +kernel
theorem dX8_hasCell_6 : decode cX8_hasCell 6 = .ok (.iconst 1, 1) := by decide +kernel
theorem dX8_hasCell_7 : decode cX8_hasCell 7 = .ok (.isub, 1) := by decide +kernel
theorem dX8_hasCell_8 : decode cX8_hasCell 8 = .ok (.invokestatic 79, 3) := by decide +kernel
theorem dX8_hasCell_11 : decode cX8_hasCell 11 = .ok (.ifCond .eq 16, 3) := by decide +kernel
theorem dX8_hasCell_14 : decode cX8_hasCell 14 = .ok (.iload_n 2, 1) := by decide +kernel
theorem dX8_hasCell_15 : decode cX8_hasCell 15 = .ok (.iconst 0, 1) := by decide +kernel
theorem dX8_hasCell_16 : decode cX8_hasCell 16 = .ok (.iconst 2, 1) := by decide +kernel
theorem dX8_hasCell_17 : decode cX8_hasCell 17 = .ok (.invokestatic 79, 3) := by decide +kernel
theorem dX8_hasCell_20 : decode cX8_hasCell 20 = .ok (.ifCond .eq 7, 3) := by decide +kernel
theorem dX8_hasCell_23 : decode cX8_hasCell 23 = .ok (.iconst 1, 1) := by decide +kernel
theorem dX8_hasCell_24 : decode cX8_hasCell 24 = .ok (.goto 4, 3) := by decide +kernel
theorem dX8_hasCell_27 : decode cX8_hasCell 27 = .ok (.iconst 0, 1) := by decide +kernel
theorem dX8_hasCell_28 : decode cX8_hasCell 28 = .ok (.ireturn, 1) := by decide +kernel
theorem dX8_worthOfRest_0 : decode cX8_worthOfRest 0 = .ok (.aload_n 0, 1) := by decide +kernel
theorem dX8_worthOfRest_1 : decode cX8_worthOfRest 1 = .ok (.getfield 22, 3) := by decide +kernel
theorem dX8_worthOfRest_4 : decode cX8_worthOfRest 4 = .ok (.aload_n 0, 1) := by decide +kernel
theorem dX8_worthOfRest_5 : decode cX8_worthOfRest 5 = .ok (.getfield 10, 3) := by decide +kernel
theorem dX8_worthOfRest_8 : decode cX8_worthOfRest 8 = .ok (.getfield 94, 3) := by decide +kernel
theorem dX8_worthOfRest_11 : decode cX8_worthOfRest 11 = .ok (.invokevirtual 189, 3) := by decide +kernel
theorem dX8_worthOfRest_14 : decode cX8_worthOfRest 14 = .ok (.iconst 0, 1) := by decide +kernel
theorem dX8_worthOfRest_15 : decode cX8_worthOfRest 15 = .ok (.istore_n 2, 1) := by decide +kernel
theorem dX8_worthOfRest_16 : decode cX8_worthOfRest 16 = .ok (.iload_n 2, 1) := by decide +kernel
theorem dX8_worthOfRest_17 : decode cX8_worthOfRest 17 = .ok (.iload_n 1, 1) := by decide +kernel
theorem dX8_worthOfRest_18 : decode cX8_worthOfRest 18 = .ok (.if_icmp .ge 35, 3) := by decide +kernel
theorem dX8_worthOfRest_21 : decode cX8_worthOfRest 21 = .ok (.aload_n 0, 1) := by decide +kernel
theorem dX8_worthOfRest_22 : decode cX8_worthOfRest 22 = .ok (.getfield 10, 3) := by decide +kernel
theorem dX8_worthOfRest_25 : decode cX8_worthOfRest 25 = .ok (.aload_n 0, 1) := by decide +kernel
theorem dX8_worthOfRest_26 : decode cX8_worthOfRest 26 = .ok (.getfield 22, 3) := by decide +kernel
theorem dX8_worthOfRest_29 : decode cX8_worthOfRest 29 = .ok (.invokevirtual 159, 3) := by decide +kernel
theorem dX8_worthOfRest_32 : decode cX8_worthOfRest 32 = .ok (.ifCond .ne 21, 3) := by decide +kernel
theorem dX8_worthOfRest_35 : decode cX8_worthOfRest 35 = .ok (.aload_n 0, 1) := by decide +kernel
theorem dX8_worthOfRest_36 : decode cX8_worthOfRest 36 = .ok (.getfield 10, 3) := by decide +kernel
theorem dX8_worthOfRest_39 : decode cX8_worthOfRest 39 = .ok (.aload_n 0, 1) := by decide +kernel
theorem dX8_worthOfRest_40 : decode cX8_worthOfRest 40 = .ok (.getfield 22, 3) := by decide +kernel
theorem dX8_worthOfRest_43 : decode cX8_worthOfRest 43 = .ok (.invokevirtual 183, 3) := by decide +kernel
theorem dX8_worthOfRest_46 : decode cX8_worthOfRest 46 = .ok (.pop, 1) := by decide +kernel
theorem dX8_worthOfRest_47 : decode cX8_worthOfRest 47 = .ok (.iinc 2 1, 3) := by decide +kernel
theorem dX8_worthOfRest_50 : decode cX8_worthOfRest 50 = .ok (.goto (-34), 3) := by decide +kernel
theorem dX8_worthOfRest_53 : decode cX8_worthOfRest 53 = .ok (.aload_n 0, 1) := by decide +kernel
theorem dX8_worthOfRest_54 : decode cX8_worthOfRest 54 = .ok (.getfield 22, 3) := by decide +kernel
theorem dX8_worthOfRest_57 : decode cX8_worthOfRest 57 = .ok (.getfield 153, 3) := by decide +kernel
theorem dX8_worthOfRest_60 : decode cX8_worthOfRest 60 = .ok (.aload_n 0, 1) := by decide +kernel
theorem dX8_worthOfRest_61 : decode cX8_worthOfRest 61 = .ok (.getfield 10, 3) := by decide +kernel
theorem dX8_worthOfRest_64 : decode cX8_worthOfRest 64 = .ok (.getfield 94, 3) := by decide +kernel
theorem dX8_worthOfRest_67 : decode cX8_worthOfRest 67 = .ok (.getfield 153, 3) := by decide +kernel
theorem dX8_worthOfRest_70 : decode cX8_worthOfRest 70 = .ok (.isub, 1) := by decide +kernel
theorem dX8_worthOfRest_71 : decode cX8_worthOfRest 71 = .ok (.ireturn, 1) := by decide +kernel
theorem dX8_worthByLot_0 : decode cX8_worthByLot 0 = .ok (.aload_n 0, 1) := by decide +kernel
theorem dX8_worthByLot_1 : decode cX8_worthByLot 1 = .ok (.getfield 22, 3) := by decide +kernel
theorem dX8_worthByLot_4 : decode cX8_worthByLot 4 = .ok (.aload_n 0, 1) := by decide +kernel
theorem dX8_worthByLot_5 : decode cX8_worthByLot 5 = .ok (.getfield 10, 3) := by decide +kernel
theorem dX8_worthByLot_8 : decode cX8_worthByLot 8 = .ok (.getfield 94, 3) := by decide +kernel
theorem dX8_worthByLot_11 : decode cX8_worthByLot 11 = .ok (.invokevirtual 189, 3) := by decide +kernel
theorem dX8_worthByLot_14 : decode cX8_worthByLot 14 = .ok (.iconst 0, 1) := by decide +kernel
theorem dX8_worthByLot_15 : decode cX8_worthByLot 15 = .ok (.istore_n 1, 1) := by decide +kernel
theorem dX8_worthByLot_16 : decode cX8_worthByLot 16 = .ok (.iload_n 1, 1) := by decide +kernel
theorem dX8_worthByLot_17 : decode cX8_worthByLot 17 = .ok (.bipush 16, 2) := by decide +kernel
theorem dX8_worthByLot_19 : decode cX8_worthByLot 19 = .ok (.if_icmp .ge 35, 3) := by decide +kernel
theorem dX8_worthByLot_22 : decode cX8_worthByLot 22 = .ok (.aload_n 0, 1) := by decide +kernel
theorem dX8_worthByLot_23 : decode cX8_worthByLot 23 = .ok (.getfield 10, 3) := by decide +kernel
theorem dX8_worthByLot_26 : decode cX8_worthByLot 26 = .ok (.aload_n 0, 1) := by decide +kernel
theorem dX8_worthByLot_27 : decode cX8_worthByLot 27 = .ok (.getfield 22, 3) := by decide +kernel
theorem dX8_worthByLot_30 : decode cX8_worthByLot 30 = .ok (.invokevirtual 159, 3) := by decide +kernel
theorem dX8_worthByLot_33 : decode cX8_worthByLot 33 = .ok (.ifCond .ne 21, 3) := by decide +kernel
theorem dX8_worthByLot_36 : decode cX8_worthByLot 36 = .ok (.aload_n 0, 1) := by decide +kernel
theorem dX8_worthByLot_37 : decode cX8_worthByLot 37 = .ok (.getfield 10, 3) := by decide +kernel
theorem dX8_worthByLot_40 : decode cX8_worthByLot 40 = .ok (.aload_n 0, 1) := by decide +kernel
theorem dX8_worthByLot_41 : decode cX8_worthByLot 41 = .ok (.getfield 22, 3) := by decide +kernel
theorem dX8_worthByLot_44 : decode cX8_worthByLot 44 = .ok (.invokevirtual 281, 3) := by decide +kernel
theorem dX8_worthByLot_47 : decode cX8_worthByLot 47 = .ok (.pop, 1) := by decide +kernel
theorem dX8_worthByLot_48 : decode cX8_worthByLot 48 = .ok (.iinc 1 1, 3) := by decide +kernel
theorem dX8_worthByLot_51 : decode cX8_worthByLot 51 = .ok (.goto (-35), 3) := by decide +kernel
theorem dX8_worthByLot_54 : decode cX8_worthByLot 54 = .ok (.aload_n 0, 1) := by decide +kernel
theorem dX8_worthByLot_55 : decode cX8_worthByLot 55 = .ok (.getfield 22, 3) := by decide +kernel
theorem dX8_worthByLot_58 : decode cX8_worthByLot 58 = .ok (.getfield 153, 3) := by decide +kernel
theorem dX8_worthByLot_61 : decode cX8_worthByLot 61 = .ok (.aload_n 0, 1) := by decide +kernel
theorem dX8_worthByLot_62 : decode cX8_worthByLot 62 = .ok (.getfield 10, 3) := by decide +kernel
theorem dX8_worthByLot_65 : decode cX8_worthByLot 65 = .ok (.getfield 94, 3) := by decide +kernel
theorem dX8_worthByLot_68 : decode cX8_worthByLot 68 = .ok (.getfield 153, 3) := by decide +kernel
theorem dX8_worthByLot_71 : decode cX8_worthByLot 71 = .ok (.isub, 1) := by decide +kernel
theorem dX8_worthByLot_72 : decode cX8_worthByLot 72 = .ok (.ireturn, 1) := by decide +kernel
theorem dX8_leastOfBest_0 : decode cX8_leastOfBest 0 = .ok (.aload_n 1, 1) := by decide +kernel
theorem dX8_leastOfBest_1 : decode cX8_leastOfBest 1 = .ok (.iload_n 2, 1) := by decide +kernel
theorem dX8_leastOfBest_2 : decode cX8_leastOfBest 2 = .ok (.iaload, 1) := by decide +kernel
theorem dX8_leastOfBest_3 : decode cX8_leastOfBest 3 = .ok (.istore 4, 2) := by decide +kernel
theorem dX8_leastOfBest_5 : decode cX8_leastOfBest 5 = .ok (.iconst 0, 1) := by decide +kernel
theorem dX8_leastOfBest_6 : decode cX8_leastOfBest 6 = .ok (.istore 5, 2) := by decide +kernel
theorem dX8_leastOfBest_8 : decode cX8_leastOfBest 8 = .ok (.iconst (-1), 1) := by decide +kernel
theorem dX8_leastOfBest_9 : decode cX8_leastOfBest 9 = .ok (.istore 6, 2) := by decide +kernel
theorem dX8_leastOfBest_11 : decode cX8_leastOfBest 11 = .ok (.iconst 0, 1) := by decide +kernel
theorem dX8_leastOfBest_12 : decode cX8_leastOfBest 12 = .ok (.istore 7, 2) := by decide +kernel
theorem dX8_leastOfBest_14 : decode cX8_leastOfBest 14 = .ok (.iload 7, 2) := by decide +kernel
theorem dX8_leastOfBest_16 : decode cX8_leastOfBest 16 = .ok (.iload_n 3, 1) := by decide +kernel
theorem dX8_leastOfBest_17 : decode cX8_leastOfBest 17 = .ok (.if_icmp .gt 37, 3) := by decide +kernel
theorem dX8_leastOfBest_20 : decode cX8_leastOfBest 20 = .ok (.aload_n 1, 1) := by decide +kernel
theorem dX8_leastOfBest_21 : decode cX8_leastOfBest 21 = .ok (.iload_n 2, 1) := by decide +kernel
theorem dX8_leastOfBest_22 : decode cX8_leastOfBest 22 = .ok (.iload 7, 2) := by decide +kernel
theorem dX8_leastOfBest_24 : decode cX8_leastOfBest 24 = .ok (.iastore, 1) := by decide +kernel
theorem dX8_leastOfBest_25 : decode cX8_leastOfBest 25 = .ok (.aload_n 0, 1) := by decide +kernel
theorem dX8_leastOfBest_26 : decode cX8_leastOfBest 26 = .ok (.bipush 16, 2) := by decide +kernel
theorem dX8_leastOfBest_28 : decode cX8_leastOfBest 28 = .ok (.invokevirtual 186, 3) := by decide +kernel
theorem dX8_leastOfBest_31 : decode cX8_leastOfBest 31 = .ok (.istore 8, 2) := by decide +kernel
theorem dX8_leastOfBest_33 : decode cX8_leastOfBest 33 = .ok (.iload 8, 2) := by decide +kernel
theorem dX8_leastOfBest_35 : decode cX8_leastOfBest 35 = .ok (.iload 6, 2) := by decide +kernel
theorem dX8_leastOfBest_37 : decode cX8_leastOfBest 37 = .ok (.if_icmp .le 11, 3) := by decide +kernel
theorem dX8_leastOfBest_40 : decode cX8_leastOfBest 40 = .ok (.iload 8, 2) := by decide +kernel
theorem dX8_leastOfBest_42 : decode cX8_leastOfBest 42 = .ok (.istore 6, 2) := by decide +kernel
theorem dX8_leastOfBest_44 : decode cX8_leastOfBest 44 = .ok (.iload 7, 2) := by decide +kernel
theorem dX8_leastOfBest_46 : decode cX8_leastOfBest 46 = .ok (.istore 5, 2) := by decide +kernel
theorem dX8_leastOfBest_48 : decode cX8_leastOfBest 48 = .ok (.iinc 7 1, 3) := by decide +kernel
theorem dX8_leastOfBest_51 : decode cX8_leastOfBest 51 = .ok (.goto (-37), 3) := by decide +kernel
theorem dX8_leastOfBest_54 : decode cX8_leastOfBest 54 = .ok (.aload_n 1, 1) := by decide +kernel
theorem dX8_leastOfBest_55 : decode cX8_leastOfBest 55 = .ok (.iload_n 2, 1) := by decide +kernel
theorem dX8_leastOfBest_56 : decode cX8_leastOfBest 56 = .ok (.iload 4, 2) := by decide +kernel
theorem dX8_leastOfBest_58 : decode cX8_leastOfBest 58 = .ok (.iastore, 1) := by decide +kernel
theorem dX8_leastOfBest_59 : decode cX8_leastOfBest 59 = .ok (.iload 5, 2) := by decide +kernel
theorem dX8_leastOfBest_61 : decode cX8_leastOfBest 61 = .ok (.ireturn, 1) := by decide +kernel
theorem dX8_countConvoys_0 : decode cX8_countConvoys 0 = .ok (.iconst 0, 1) := by decide +kernel
theorem dX8_countConvoys_1 : decode cX8_countConvoys 1 = .ok (.istore_n 1, 1) := by decide +kernel
theorem dX8_countConvoys_2 : decode cX8_countConvoys 2 = .ok (.iconst 0, 1) := by decide +kernel
theorem dX8_countConvoys_3 : decode cX8_countConvoys 3 = .ok (.istore_n 2, 1) := by decide +kernel
theorem dX8_countConvoys_4 : decode cX8_countConvoys 4 = .ok (.iload_n 2, 1) := by decide +kernel
theorem dX8_countConvoys_5 : decode cX8_countConvoys 5 = .ok (.aload_n 0, 1) := by decide +kernel
theorem dX8_countConvoys_6 : decode cX8_countConvoys 6 = .ok (.getfield 10, 3) := by decide +kernel
theorem dX8_countConvoys_9 : decode cX8_countConvoys 9 = .ok (.getfield 83, 3) := by decide +kernel
theorem dX8_countConvoys_12 : decode cX8_countConvoys 12 = .ok (.if_icmp .ge 41, 3) := by decide +kernel
theorem dX8_countConvoys_15 : decode cX8_countConvoys 15 = .ok (.aload_n 0, 1) := by decide +kernel
theorem dX8_countConvoys_16 : decode cX8_countConvoys 16 = .ok (.getfield 10, 3) := by decide +kernel
theorem dX8_countConvoys_19 : decode cX8_countConvoys 19 = .ok (.getfield 94, 3) := by decide +kernel
theorem dX8_countConvoys_22 : decode cX8_countConvoys 22 = .ok (.iload_n 2, 1) := by decide +kernel
theorem dX8_countConvoys_23 : decode cX8_countConvoys 23 = .ok (.invokevirtual 109, 3) := by decide +kernel
theorem dX8_countConvoys_26 : decode cX8_countConvoys 26 = .ok (.ifCond .ne 21, 3) := by decide +kernel
theorem dX8_countConvoys_29 : decode cX8_countConvoys 29 = .ok (.aload_n 0, 1) := by decide +kernel
theorem dX8_countConvoys_30 : decode cX8_countConvoys 30 = .ok (.getfield 10, 3) := by decide +kernel
theorem dX8_countConvoys_33 : decode cX8_countConvoys 33 = .ok (.iload_n 2, 1) := by decide +kernel
theorem dX8_countConvoys_34 : decode cX8_countConvoys 34 = .ok (.invokevirtual 206, 3) := by decide +kernel
theorem dX8_countConvoys_37 : decode cX8_countConvoys 37 = .ok (.invokestatic 234, 3) := by decide +kernel
theorem dX8_countConvoys_40 : decode cX8_countConvoys 40 = .ok (.iload_n 2, 1) := by decide +kernel
theorem dX8_countConvoys_41 : decode cX8_countConvoys 41 = .ok (.if_icmp .ne 6, 3) := by decide +kernel
theorem dX8_countConvoys_44 : decode cX8_countConvoys 44 = .ok (.iinc 1 1, 3) := by decide +kernel
theorem dX8_countConvoys_47 : decode cX8_countConvoys 47 = .ok (.iinc 2 1, 3) := by decide +kernel
theorem dX8_countConvoys_50 : decode cX8_countConvoys 50 = .ok (.goto (-46), 3) := by decide +kernel
theorem dX8_countConvoys_53 : decode cX8_countConvoys 53 = .ok (.iload_n 1, 1) := by decide +kernel
theorem dX8_countConvoys_54 : decode cX8_countConvoys 54 = .ok (.ireturn, 1) := by decide +kernel
theorem dX8_countLone_0 : decode cX8_countLone 0 = .ok (.iconst 0, 1) := by decide +kernel
theorem dX8_countLone_1 : decode cX8_countLone 1 = .ok (.istore_n 1, 1) := by decide +kernel
theorem dX8_countLone_2 : decode cX8_countLone 2 = .ok (.iconst 0, 1) := by decide +kernel
theorem dX8_countLone_3 : decode cX8_countLone 3 = .ok (.istore_n 2, 1) := by decide +kernel
theorem dX8_countLone_4 : decode cX8_countLone 4 = .ok (.iload_n 2, 1) := by decide +kernel
theorem dX8_countLone_5 : decode cX8_countLone 5 = .ok (.sipush 500, 3) := by decide +kernel
theorem dX8_countLone_8 : decode cX8_countLone 8 = .ok (.if_icmp .ge 33, 3) := by decide +kernel
theorem dX8_countLone_11 : decode cX8_countLone 11 = .ok (.aload_n 0, 1) := by decide +kernel
theorem dX8_countLone_12 : decode cX8_countLone 12 = .ok (.getfield 10, 3) := by decide +kernel
theorem dX8_countLone_15 : decode cX8_countLone 15 = .ok (.getfield 244, 3) := by decide +kernel
theorem dX8_countLone_18 : decode cX8_countLone 18 = .ok (.iload_n 2, 1) := by decide +kernel
theorem dX8_countLone_19 : decode cX8_countLone 19 = .ok (.aload_n 0, 1) := by decide +kernel
theorem dX8_countLone_20 : decode cX8_countLone 20 = .ok (.getfield 10, 3) := by decide +kernel
theorem dX8_countLone_23 : decode cX8_countLone 23 = .ok (.getfield 138, 3) := by decide +kernel
theorem dX8_countLone_26 : decode cX8_countLone 26 = .ok (.invokevirtual 269, 3) := by decide +kernel
theorem dX8_countLone_29 : decode cX8_countLone 29 = .ok (.ifCond .ne 6, 3) := by decide +kernel
theorem dX8_countLone_32 : decode cX8_countLone 32 = .ok (.iinc 1 1, 3) := by decide +kernel
theorem dX8_countLone_35 : decode cX8_countLone 35 = .ok (.iinc 2 1, 3) := by decide +kernel
theorem dX8_countLone_38 : decode cX8_countLone 38 = .ok (.goto (-34), 3) := by decide +kernel
theorem dX8_countLone_41 : decode cX8_countLone 41 = .ok (.iload_n 1, 1) := by decide +kernel
theorem dX8_countLone_42 : decode cX8_countLone 42 = .ok (.ireturn, 1) := by decide +kernel
theorem dX8_firstLone_0 : decode cX8_firstLone 0 = .ok (.iconst 0, 1) := by decide +kernel
theorem dX8_firstLone_1 : decode cX8_firstLone 1 = .ok (.istore_n 1, 1) := by decide +kernel
theorem dX8_firstLone_2 : decode cX8_firstLone 2 = .ok (.iload_n 1, 1) := by decide +kernel
theorem dX8_firstLone_3 : decode cX8_firstLone 3 = .ok (.sipush 500, 3) := by decide +kernel
theorem dX8_firstLone_6 : decode cX8_firstLone 6 = .ok (.if_icmp .ge 32, 3) := by decide +kernel
theorem dX8_firstLone_9 : decode cX8_firstLone 9 = .ok (.aload_n 0, 1) := by decide +kernel
theorem dX8_firstLone_10 : decode cX8_firstLone 10 = .ok (.getfield 10, 3) := by decide +kernel
theorem dX8_firstLone_13 : decode cX8_firstLone 13 = .ok (.getfield 244, 3) := by decide +kernel
theorem dX8_firstLone_16 : decode cX8_firstLone 16 = .ok (.iload_n 1, 1) := by decide +kernel
theorem dX8_firstLone_17 : decode cX8_firstLone 17 = .ok (.aload_n 0, 1) := by decide +kernel
theorem dX8_firstLone_18 : decode cX8_firstLone 18 = .ok (.getfield 10, 3) := by decide +kernel
theorem dX8_firstLone_21 : decode cX8_firstLone 21 = .ok (.getfield 138, 3) := by decide +kernel
theorem dX8_firstLone_24 : decode cX8_firstLone 24 = .ok (.invokevirtual 269, 3) := by decide +kernel
theorem dX8_firstLone_27 : decode cX8_firstLone 27 = .ok (.ifCond .ne 5, 3) := by decide +kernel
theorem dX8_firstLone_30 : decode cX8_firstLone 30 = .ok (.iload_n 1, 1) := by decide +kernel
theorem dX8_firstLone_31 : decode cX8_firstLone 31 = .ok (.ireturn, 1) := by decide +kernel
theorem dX8_firstLone_32 : decode cX8_firstLone 32 = .ok (.iinc 1 1, 3) := by decide +kernel
theorem dX8_firstLone_35 : decode cX8_firstLone 35 = .ok (.goto (-33), 3) := by decide +kernel
theorem dX8_firstLone_38 : decode cX8_firstLone 38 = .ok (.bipush (-3), 2) := by decide +kernel
theorem dX8_firstLone_40 : decode cX8_firstLone 40 = .ok (.ireturn, 1) := by decide +kernel
theorem dX8_nearsAlone_0 : decode cX8_nearsAlone 0 = .ok (.iload_n 1, 1) := by decide +kernel
theorem dX8_nearsAlone_1 : decode cX8_nearsAlone 1 = .ok (.iconst 2, 1) := by decide +kernel
theorem dX8_nearsAlone_2 : decode cX8_nearsAlone 2 = .ok (.ishr, 1) := by decide +kernel
theorem dX8_nearsAlone_3 : decode cX8_nearsAlone 3 = .ok (.istore_n 3, 1) := by decide +kernel
theorem dX8_nearsAlone_4 : decode cX8_nearsAlone 4 = .ok (.iload_n 1, 1) := by decide +kernel
theorem dX8_nearsAlone_5 : decode cX8_nearsAlone 5 = .ok (.iconst 3, 1) := by decide +kernel
theorem dX8_nearsAlone_6 : decode cX8_nearsAlone 6 = .ok (.iand, 1) := by decide +kernel
theorem dX8_nearsAlone_7 : decode cX8_nearsAlone 7 = .ok (.istore 4, 2) := by decide +kernel
theorem dX8_nearsAlone_9 : decode cX8_nearsAlone 9 = .ok (.iload_n 0, 1) := by decide +kernel
theorem dX8_nearsAlone_10 : decode cX8_nearsAlone 10 = .ok (.tableswitch 70 1 5 #[34, 39, 43, 50, 55], 34) := by decide +kernel
theorem dX8_nearsAlone_44 : decode cX8_nearsAlone 44 = .ok (.iload_n 3, 1) := by decide +kernel
theorem dX8_nearsAlone_45 : decode cX8_nearsAlone 45 = .ok (.iload 4, 2) := by decide +kernel
theorem dX8_nearsAlone_47 : decode cX8_nearsAlone 47 = .ok (.imul, 1) := by decide +kernel
theorem dX8_nearsAlone_48 : decode cX8_nearsAlone 48 = .ok (.ireturn, 1) := by decide +kernel
theorem dX8_nearsAlone_49 : decode cX8_nearsAlone 49 = .ok (.iconst 2, 1) := by decide +kernel
theorem dX8_nearsAlone_50 : decode cX8_nearsAlone 50 = .ok (.iload_n 3, 1) := by decide +kernel
theorem dX8_nearsAlone_51 : decode cX8_nearsAlone 51 = .ok (.imul, 1) := by decide +kernel
theorem dX8_nearsAlone_52 : decode cX8_nearsAlone 52 = .ok (.ireturn, 1) := by decide +kernel
theorem dX8_nearsAlone_53 : decode cX8_nearsAlone 53 = .ok (.iconst 2, 1) := by decide +kernel
theorem dX8_nearsAlone_54 : decode cX8_nearsAlone 54 = .ok (.iload_n 3, 1) := by decide +kernel
theorem dX8_nearsAlone_55 : decode cX8_nearsAlone 55 = .ok (.imul, 1) := by decide +kernel
theorem dX8_nearsAlone_56 : decode cX8_nearsAlone 56 = .ok (.iload 4, 2) := by decide +kernel
theorem dX8_nearsAlone_58 : decode cX8_nearsAlone 58 = .ok (.iadd, 1) := by decide +kernel
theorem dX8_nearsAlone_59 : decode cX8_nearsAlone 59 = .ok (.ireturn, 1) := by decide +kernel
theorem dX8_nearsAlone_60 : decode cX8_nearsAlone 60 = .ok (.iconst 3, 1) := by decide +kernel
theorem dX8_nearsAlone_61 : decode cX8_nearsAlone 61 = .ok (.iload 4, 2) := by decide +kernel
theorem dX8_nearsAlone_63 : decode cX8_nearsAlone 63 = .ok (.iadd, 1) := by decide +kernel
theorem dX8_nearsAlone_64 : decode cX8_nearsAlone 64 = .ok (.ireturn, 1) := by decide +kernel
theorem dX8_nearsAlone_65 : decode cX8_nearsAlone 65 = .ok (.iload_n 2, 1) := by decide +kernel
theorem dX8_nearsAlone_66 : decode cX8_nearsAlone 66 = .ok (.iconst 3, 1) := by decide +kernel
theorem dX8_nearsAlone_67 : decode cX8_nearsAlone 67 = .ok (.irem, 1) := by decide +kernel
theorem dX8_nearsAlone_68 : decode cX8_nearsAlone 68 = .ok (.ifCond .ne 7, 3) := by decide +kernel
theorem dX8_nearsAlone_71 : decode cX8_nearsAlone 71 = .ok (.iconst 0, 1) := by decide +kernel
theorem dX8_nearsAlone_72 : decode cX8_nearsAlone 72 = .ok (.goto 7, 3) := by decide +kernel
theorem dX8_nearsAlone_75 : decode cX8_nearsAlone 75 = .ok (.iconst 3, 1) := by decide +kernel
theorem dX8_nearsAlone_76 : decode cX8_nearsAlone 76 = .ok (.iload 4, 2) := by decide +kernel
theorem dX8_nearsAlone_78 : decode cX8_nearsAlone 78 = .ok (.iadd, 1) := by decide +kernel
theorem dX8_nearsAlone_79 : decode cX8_nearsAlone 79 = .ok (.ireturn, 1) := by decide +kernel
theorem dX8_nearsAlone_80 : decode cX8_nearsAlone 80 = .ok (.iconst 2, 1) := by decide +kernel
theorem dX8_nearsAlone_81 : decode cX8_nearsAlone 81 = .ok (.iload_n 3, 1) := by decide +kernel
theorem dX8_nearsAlone_82 : decode cX8_nearsAlone 82 = .ok (.iadd, 1) := by decide +kernel
theorem dX8_nearsAlone_83 : decode cX8_nearsAlone 83 = .ok (.ireturn, 1) := by decide +kernel
theorem dX8_reachesAlone_0 : decode cX8_reachesAlone 0 = .ok (.iload_n 2, 1) := by decide +kernel
theorem dX8_reachesAlone_1 : decode cX8_reachesAlone 1 = .ok (.iconst 2, 1) := by decide +kernel
theorem dX8_reachesAlone_2 : decode cX8_reachesAlone 2 = .ok (.ishr, 1) := by decide +kernel
theorem dX8_reachesAlone_3 : decode cX8_reachesAlone 3 = .ok (.istore_n 3, 1) := by decide +kernel
theorem dX8_reachesAlone_4 : decode cX8_reachesAlone 4 = .ok (.bipush 10, 2) := by decide +kernel
theorem dX8_reachesAlone_6 : decode cX8_reachesAlone 6 = .ok (.iconst 2, 1) := by decide +kernel
theorem dX8_reachesAlone_7 : decode cX8_reachesAlone 7 = .ok (.iload_n 1, 1) := by decide +kernel
theorem dX8_reachesAlone_8 : decode cX8_reachesAlone 8 = .ok (.imul, 1) := by decide +kernel
theorem dX8_reachesAlone_9 : decode cX8_reachesAlone 9 = .ok (.iadd, 1) := by decide +kernel
theorem dX8_reachesAlone_10 : decode cX8_reachesAlone 10 = .ok (.istore 4, 2) := by decide +kernel
theorem dX8_reachesAlone_12 : decode cX8_reachesAlone 12 = .ok (.iload_n 0, 1) := by decide +kernel
theorem dX8_reachesAlone_13 : decode cX8_reachesAlone 13 = .ok (.tableswitch 72 1 5 #[35, 38, 43, 56, 63], 35) := by decide +kernel
theorem dX8_reachesAlone_48 : decode cX8_reachesAlone 48 = .ok (.bipush 20, 2) := by decide +kernel
theorem dX8_reachesAlone_50 : decode cX8_reachesAlone 50 = .ok (.ireturn, 1) := by decide +kernel
theorem dX8_reachesAlone_51 : decode cX8_reachesAlone 51 = .ok (.iload 4, 2) := by decide +kernel
theorem dX8_reachesAlone_53 : decode cX8_reachesAlone 53 = .ok (.iconst 5, 1) := by decide +kernel
theorem dX8_reachesAlone_54 : decode cX8_reachesAlone 54 = .ok (.iadd, 1) := by decide +kernel
theorem dX8_reachesAlone_55 : decode cX8_reachesAlone 55 = .ok (.ireturn, 1) := by decide +kernel
theorem dX8_reachesAlone_56 : decode cX8_reachesAlone 56 = .ok (.iconst 0, 1) := by decide +kernel
theorem dX8_reachesAlone_57 : decode cX8_reachesAlone 57 = .ok (.iload 4, 2) := by decide +kernel
theorem dX8_reachesAlone_59 : decode cX8_reachesAlone 59 = .ok (.iconst 5, 1) := by decide +kernel
theorem dX8_reachesAlone_60 : decode cX8_reachesAlone 60 = .ok (.iadd, 1) := by decide +kernel
theorem dX8_reachesAlone_61 : decode cX8_reachesAlone 61 = .ok (.iconst 3, 1) := by decide +kernel
theorem dX8_reachesAlone_62 : decode cX8_reachesAlone 62 = .ok (.iload_n 3, 1) := by decide +kernel
theorem dX8_reachesAlone_63 : decode cX8_reachesAlone 63 = .ok (.imul, 1) := by decide +kernel
theorem dX8_reachesAlone_64 : decode cX8_reachesAlone 64 = .ok (.isub, 1) := by decide +kernel
theorem dX8_reachesAlone_65 : decode cX8_reachesAlone 65 = .ok (.invokestatic 378, 3) := by decide +kernel
theorem dX8_reachesAlone_68 : decode cX8_reachesAlone 68 = .ok (.ireturn, 1) := by decide +kernel
theorem dX8_reachesAlone_69 : decode cX8_reachesAlone 69 = .ok (.iload 4, 2) := by decide +kernel
theorem dX8_reachesAlone_71 : decode cX8_reachesAlone 71 = .ok (.iconst 3, 1) := by decide +kernel
theorem dX8_reachesAlone_72 : decode cX8_reachesAlone 72 = .ok (.iload_n 3, 1) := by decide +kernel
theorem dX8_reachesAlone_73 : decode cX8_reachesAlone 73 = .ok (.imul, 1) := by decide +kernel
theorem dX8_reachesAlone_74 : decode cX8_reachesAlone 74 = .ok (.iadd, 1) := by decide +kernel
theorem dX8_reachesAlone_75 : decode cX8_reachesAlone 75 = .ok (.ireturn, 1) := by decide +kernel
theorem dX8_reachesAlone_76 : decode cX8_reachesAlone 76 = .ok (.iload 4, 2) := by decide +kernel
theorem dX8_reachesAlone_78 : decode cX8_reachesAlone 78 = .ok (.iconst 3, 1) := by decide +kernel
theorem dX8_reachesAlone_79 : decode cX8_reachesAlone 79 = .ok (.iload_n 3, 1) := by decide +kernel
theorem dX8_reachesAlone_80 : decode cX8_reachesAlone 80 = .ok (.imul, 1) := by decide +kernel
theorem dX8_reachesAlone_81 : decode cX8_reachesAlone 81 = .ok (.iadd, 1) := by decide +kernel
theorem dX8_reachesAlone_82 : decode cX8_reachesAlone 82 = .ok (.iconst 2, 1) := by decide +kernel
theorem dX8_reachesAlone_83 : decode cX8_reachesAlone 83 = .ok (.idiv, 1) := by decide +kernel
theorem dX8_reachesAlone_84 : decode cX8_reachesAlone 84 = .ok (.ireturn, 1) := by decide +kernel
theorem dX8_reachesAlone_85 : decode cX8_reachesAlone 85 = .ok (.iload 4, 2) := by decide +kernel
theorem dX8_reachesAlone_87 : decode cX8_reachesAlone 87 = .ok (.ireturn, 1) := by decide +kernel
theorem dX9_init_0 : decode cX9_init 0 = .ok (.aload_n 0, 1) := by decide +kernel
theorem dX9_init_1 : decode cX9_init 1 = .ok (.invokespecial 1, 3) := by decide +kernel
theorem dX9_init_4 : decode cX9_init 4 = .ok (.aload_n 0, 1) := by decide +kernel
theorem dX9_init_5 : decode cX9_init 5 = .ok (.sipush 313, 3) := by decide +kernel
theorem dX9_init_8 : decode cX9_init 8 = .ok (.newarray .int, 2) := by decide +kernel
theorem dX9_init_10 : decode cX9_init 10 = .ok (.putfield 9, 3) := by decide +kernel
theorem dX9_init_13 : decode cX9_init 13 = .ok (.aload_n 0, 1) := by decide +kernel
theorem dX9_init_14 : decode cX9_init 14 = .ok (.sipush 313, 3) := by decide +kernel
theorem dX9_init_17 : decode cX9_init 17 = .ok (.newarray .int, 2) := by decide +kernel
theorem dX9_init_19 : decode cX9_init 19 = .ok (.putfield 13, 3) := by decide +kernel
theorem dX9_init_22 : decode cX9_init 22 = .ok (.aload_n 0, 1) := by decide +kernel
theorem dX9_init_23 : decode cX9_init 23 = .ok (.bipush 65, 2) := by decide +kernel
theorem dX9_init_25 : decode cX9_init 25 = .ok (.newarray .int, 2) := by decide +kernel
theorem dX9_init_27 : decode cX9_init 27 = .ok (.putfield 16, 3) := by decide +kernel
theorem dX9_init_30 : decode cX9_init 30 = .ok (.aload_n 0, 1) := by decide +kernel
theorem dX9_init_31 : decode cX9_init 31 = .ok (.sipush 200, 3) := by decide +kernel
theorem dX9_init_34 : decode cX9_init 34 = .ok (.newarray .int, 2) := by decide +kernel
theorem dX9_init_36 : decode cX9_init 36 = .ok (.putfield 19, 3) := by decide +kernel
theorem dX9_init_39 : decode cX9_init 39 = .ok (.aload_n 0, 1) := by decide +kernel
theorem dX9_init_40 : decode cX9_init 40 = .ok (.sipush 200, 3) := by decide +kernel
theorem dX9_init_43 : decode cX9_init 43 = .ok (.newarray .int, 2) := by decide +kernel
theorem dX9_init_45 : decode cX9_init 45 = .ok (.putfield 22, 3) := by decide +kernel
theorem dX9_init_48 : decode cX9_init 48 = .ok (.aload_n 0, 1) := by decide +kernel
theorem dX9_init_49 : decode cX9_init 49 = .ok (.sipush 144, 3) := by decide +kernel
theorem dX9_init_52 : decode cX9_init 52 = .ok (.newarray .char, 2) := by decide +kernel
theorem dX9_init_54 : decode cX9_init 54 = .ok (.dup, 1) := by decide +kernel
theorem dX9_init_55 : decode cX9_init 55 = .ok (.iconst 0, 1) := by decide +kernel
theorem dX9_init_56 : decode cX9_init 56 = .ok (.bipush 115, 2) := by decide +kernel
theorem dX9_init_58 : decode cX9_init 58 = .ok (.castore, 1) := by decide +kernel
theorem dX9_init_59 : decode cX9_init 59 = .ok (.dup, 1) := by decide +kernel
theorem dX9_init_60 : decode cX9_init 60 = .ok (.iconst 1, 1) := by decide +kernel
theorem dX9_init_61 : decode cX9_init 61 = .ok (.bipush 104, 2) := by decide +kernel
theorem dX9_init_63 : decode cX9_init 63 = .ok (.castore, 1) := by decide +kernel
theorem dX9_init_64 : decode cX9_init 64 = .ok (.dup, 1) := by decide +kernel
theorem dX9_init_65 : decode cX9_init 65 = .ok (.iconst 2, 1) := by decide +kernel
theorem dX9_init_66 : decode cX9_init 66 = .ok (.bipush 105, 2) := by decide +kernel
theorem dX9_init_68 : decode cX9_init 68 = .ok (.castore, 1) := by decide +kernel
theorem dX9_init_69 : decode cX9_init 69 = .ok (.dup, 1) := by decide +kernel
theorem dX9_init_70 : decode cX9_init 70 = .ok (.iconst 3, 1) := by decide +kernel
theorem dX9_init_71 : decode cX9_init 71 = .ok (.bipush 112, 2) := by decide +kernel
theorem dX9_init_73 : decode cX9_init 73 = .ok (.castore, 1) := by decide +kernel
theorem dX9_init_74 : decode cX9_init 74 = .ok (.dup, 1) := by decide +kernel
theorem dX9_init_75 : decode cX9_init 75 = .ok (.iconst 4, 1) := by decide +kernel
theorem dX9_init_76 : decode cX9_init 76 = .ok (.bipush 32, 2) := by decide +kernel
theorem dX9_init_78 : decode cX9_init 78 = .ok (.castore, 1) := by decide +kernel
theorem dX9_init_79 : decode cX9_init 79 = .ok (.dup, 1) := by decide +kernel
theorem dX9_init_80 : decode cX9_init 80 = .ok (.iconst 5, 1) := by decide +kernel
theorem dX9_init_81 : decode cX9_init 81 = .ok (.bipush 32, 2) := by decide +kernel
theorem dX9_init_83 : decode cX9_init 83 = .ok (.castore, 1) := by decide +kernel
theorem dX9_init_84 : decode cX9_init 84 = .ok (.dup, 1) := by decide +kernel
theorem dX9_init_85 : decode cX9_init 85 = .ok (.bipush 6, 2) := by decide +kernel
theorem dX9_init_87 : decode cX9_init 87 = .ok (.bipush 32, 2) := by decide +kernel
theorem dX9_init_89 : decode cX9_init 89 = .ok (.castore, 1) := by decide +kernel
theorem dX9_init_90 : decode cX9_init 90 = .ok (.dup, 1) := by decide +kernel
theorem dX9_init_91 : decode cX9_init 91 = .ok (.bipush 7, 2) := by decide +kernel
theorem dX9_init_93 : decode cX9_init 93 = .ok (.bipush 32, 2) := by decide +kernel
theorem dX9_init_95 : decode cX9_init 95 = .ok (.castore, 1) := by decide +kernel
theorem dX9_init_96 : decode cX9_init 96 = .ok (.dup, 1) := by decide +kernel
theorem dX9_init_97 : decode cX9_init 97 = .ok (.bipush 8, 2) := by decide +kernel
theorem dX9_init_99 : decode cX9_init 99 = .ok (.bipush 116, 2) := by decide +kernel
theorem dX9_init_101 : decode cX9_init 101 = .ok (.castore, 1) := by decide +kernel
theorem dX9_init_102 : decode cX9_init 102 = .ok (.dup, 1) := by decide +kernel
theorem dX9_init_103 : decode cX9_init 103 = .ok (.bipush 9, 2) := by decide +kernel
theorem dX9_init_105 : decode cX9_init 105 = .ok (.bipush 101, 2) := by decide +kernel
theorem dX9_init_107 : decode cX9_init 107 = .ok (.castore, 1) := by decide +kernel
theorem dX9_init_108 : decode cX9_init 108 = .ok (.dup, 1) := by decide +kernel
theorem dX9_init_109 : decode cX9_init 109 = .ok (.bipush 10, 2) := by decide +kernel
theorem dX9_init_111 : decode cX9_init 111 = .ok (.bipush 110, 2) := by decide +kernel
theorem dX9_init_113 : decode cX9_init 113 = .ok (.castore, 1) := by decide +kernel
theorem dX9_init_114 : decode cX9_init 114 = .ok (.dup, 1) := by decide +kernel
theorem dX9_init_115 : decode cX9_init 115 = .ok (.bipush 11, 2) := by decide +kernel
theorem dX9_init_117 : decode cX9_init 117 = .ok (.bipush 100, 2) := by decide +kernel
theorem dX9_init_119 : decode cX9_init 119 = .ok (.castore, 1) := by decide +kernel
theorem dX9_init_120 : decode cX9_init 120 = .ok (.dup, 1) := by decide +kernel
theorem dX9_init_121 : decode cX9_init 121 = .ok (.bipush 12, 2) := by decide +kernel
theorem dX9_init_123 : decode cX9_init 123 = .ok (.bipush 101, 2) := by decide +kernel
theorem dX9_init_125 : decode cX9_init 125 = .ok (.castore, 1) := by decide +kernel
theorem dX9_init_126 : decode cX9_init 126 = .ok (.dup, 1) := by decide +kernel
theorem dX9_init_127 : decode cX9_init 127 = .ok (.bipush 13, 2) := by decide +kernel
theorem dX9_init_129 : decode cX9_init 129 = .ok (.bipush 114, 2) := by decide +kernel
theorem dX9_init_131 : decode cX9_init 131 = .ok (.castore, 1) := by decide +kernel
theorem dX9_init_132 : decode cX9_init 132 = .ok (.dup, 1) := by decide +kernel
theorem dX9_init_133 : decode cX9_init 133 = .ok (.bipush 14, 2) := by decide +kernel
theorem dX9_init_135 : decode cX9_init 135 = .ok (.bipush 32, 2) := by decide +kernel
theorem dX9_init_137 : decode cX9_init 137 = .ok (.castore, 1) := by decide +kernel
theorem dX9_init_138 : decode cX9_init 138 = .ok (.dup, 1) := by decide +kernel
theorem dX9_init_139 : decode cX9_init 139 = .ok (.bipush 15, 2) := by decide +kernel
theorem dX9_init_141 : decode cX9_init 141 = .ok (.bipush 32, 2) := by decide +kernel
theorem dX9_init_143 : decode cX9_init 143 = .ok (.castore, 1) := by decide +kernel
theorem dX9_init_144 : decode cX9_init 144 = .ok (.dup, 1) := by decide +kernel
theorem dX9_init_145 : decode cX9_init 145 = .ok (.bipush 16, 2) := by decide +kernel
theorem dX9_init_147 : decode cX9_init 147 = .ok (.bipush 99, 2) := by decide +kernel
theorem dX9_init_149 : decode cX9_init 149 = .ok (.castore, 1) := by decide +kernel
theorem dX9_init_150 : decode cX9_init 150 = .ok (.dup, 1) := by decide +kernel
theorem dX9_init_151 : decode cX9_init 151 = .ok (.bipush 17, 2) := by decide +kernel
theorem dX9_init_153 : decode cX9_init 153 = .ok (.bipush 111, 2) := by decide +kernel
theorem dX9_init_155 : decode cX9_init 155 = .ok (.castore, 1) := by decide +kernel
theorem dX9_init_156 : decode cX9_init 156 = .ok (.dup, 1) := by decide +kernel
theorem dX9_init_157 : decode cX9_init 157 = .ok (.bipush 18, 2) := by decide +kernel
theorem dX9_init_159 : decode cX9_init 159 = .ok (.bipush 97, 2) := by decide +kernel
theorem dX9_init_161 : decode cX9_init 161 = .ok (.castore, 1) := by decide +kernel
theorem dX9_init_162 : decode cX9_init 162 = .ok (.dup, 1) := by decide +kernel
theorem dX9_init_163 : decode cX9_init 163 = .ok (.bipush 19, 2) := by decide +kernel
theorem dX9_init_165 : decode cX9_init 165 = .ok (.bipush 115, 2) := by decide +kernel
theorem dX9_init_167 : decode cX9_init 167 = .ok (.castore, 1) := by decide +kernel
theorem dX9_init_168 : decode cX9_init 168 = .ok (.dup, 1) := by decide +kernel
theorem dX9_init_169 : decode cX9_init 169 = .ok (.bipush 20, 2) := by decide +kernel
theorem dX9_init_171 : decode cX9_init 171 = .ok (.bipush 116, 2) := by decide +kernel
theorem dX9_init_173 : decode cX9_init 173 = .ok (.castore, 1) := by decide +kernel
theorem dX9_init_174 : decode cX9_init 174 = .ok (.dup, 1) := by decide +kernel
theorem dX9_init_175 : decode cX9_init 175 = .ok (.bipush 21, 2) := by decide +kernel
theorem dX9_init_177 : decode cX9_init 177 = .ok (.bipush 101, 2) := by decide +kernel
theorem dX9_init_179 : decode cX9_init 179 = .ok (.castore, 1) := by decide +kernel
theorem dX9_init_180 : decode cX9_init 180 = .ok (.dup, 1) := by decide +kernel
theorem dX9_init_181 : decode cX9_init 181 = .ok (.bipush 22, 2) := by decide +kernel
theorem dX9_init_183 : decode cX9_init 183 = .ok (.bipush 114, 2) := by decide +kernel
theorem dX9_init_185 : decode cX9_init 185 = .ok (.castore, 1) := by decide +kernel
theorem dX9_init_186 : decode cX9_init 186 = .ok (.dup, 1) := by decide +kernel
theorem dX9_init_187 : decode cX9_init 187 = .ok (.bipush 23, 2) := by decide +kernel
theorem dX9_init_189 : decode cX9_init 189 = .ok (.bipush 32, 2) := by decide +kernel
theorem dX9_init_191 : decode cX9_init 191 = .ok (.castore, 1) := by decide +kernel
theorem dX9_init_192 : decode cX9_init 192 = .ok (.dup, 1) := by decide +kernel
theorem dX9_init_193 : decode cX9_init 193 = .ok (.bipush 24, 2) := by decide +kernel
theorem dX9_init_195 : decode cX9_init 195 = .ok (.bipush 99, 2) := by decide +kernel
theorem dX9_init_197 : decode cX9_init 197 = .ok (.castore, 1) := by decide +kernel
theorem dX9_init_198 : decode cX9_init 198 = .ok (.dup, 1) := by decide +kernel
theorem dX9_init_199 : decode cX9_init 199 = .ok (.bipush 25, 2) := by decide +kernel
theorem dX9_init_201 : decode cX9_init 201 = .ok (.bipush 111, 2) := by decide +kernel
theorem dX9_init_203 : decode cX9_init 203 = .ok (.castore, 1) := by decide +kernel
theorem dX9_init_204 : decode cX9_init 204 = .ok (.dup, 1) := by decide +kernel
theorem dX9_init_205 : decode cX9_init 205 = .ok (.bipush 26, 2) := by decide +kernel
theorem dX9_init_207 : decode cX9_init 207 = .ok (.bipush 108, 2) := by decide +kernel
theorem dX9_init_209 : decode cX9_init 209 = .ok (.castore, 1) := by decide +kernel
theorem dX9_init_210 : decode cX9_init 210 = .ok (.dup, 1) := by decide +kernel
theorem dX9_init_211 : decode cX9_init 211 = .ok (.bipush 27, 2) := by decide +kernel
theorem dX9_init_213 : decode cX9_init 213 = .ok (.bipush 108, 2) := by decide +kernel
theorem dX9_init_215 : decode cX9_init 215 = .ok (.castore, 1) := by decide +kernel
theorem dX9_init_216 : decode cX9_init 216 = .ok (.dup, 1) := by decide +kernel
theorem dX9_init_217 : decode cX9_init 217 = .ok (.bipush 28, 2) := by decide +kernel
theorem dX9_init_219 : decode cX9_init 219 = .ok (.bipush 105, 2) := by decide +kernel
theorem dX9_init_221 : decode cX9_init 221 = .ok (.castore, 1) := by decide +kernel
theorem dX9_init_222 : decode cX9_init 222 = .ok (.dup, 1) := by decide +kernel
theorem dX9_init_223 : decode cX9_init 223 = .ok (.bipush 29, 2) := by decide +kernel
theorem dX9_init_225 : decode cX9_init 225 = .ok (.bipush 101, 2) := by decide +kernel
theorem dX9_init_227 : decode cX9_init 227 = .ok (.castore, 1) := by decide +kernel
theorem dX9_init_228 : decode cX9_init 228 = .ok (.dup, 1) := by decide +kernel
theorem dX9_init_229 : decode cX9_init 229 = .ok (.bipush 30, 2) := by decide +kernel
theorem dX9_init_231 : decode cX9_init 231 = .ok (.bipush 114, 2) := by decide +kernel
theorem dX9_init_233 : decode cX9_init 233 = .ok (.castore, 1) := by decide +kernel
theorem dX9_init_234 : decode cX9_init 234 = .ok (.dup, 1) := by decide +kernel
theorem dX9_init_235 : decode cX9_init 235 = .ok (.bipush 31, 2) := by decide +kernel
theorem dX9_init_237 : decode cX9_init 237 = .ok (.bipush 32, 2) := by decide +kernel
theorem dX9_init_239 : decode cX9_init 239 = .ok (.castore, 1) := by decide +kernel
theorem dX9_init_240 : decode cX9_init 240 = .ok (.dup, 1) := by decide +kernel
theorem dX9_init_241 : decode cX9_init 241 = .ok (.bipush 32, 2) := by decide +kernel
theorem dX9_init_243 : decode cX9_init 243 = .ok (.bipush 98, 2) := by decide +kernel
theorem dX9_init_245 : decode cX9_init 245 = .ok (.castore, 1) := by decide +kernel
theorem dX9_init_246 : decode cX9_init 246 = .ok (.dup, 1) := by decide +kernel
theorem dX9_init_247 : decode cX9_init 247 = .ok (.bipush 33, 2) := by decide +kernel
theorem dX9_init_249 : decode cX9_init 249 = .ok (.bipush 114, 2) := by decide +kernel
theorem dX9_init_251 : decode cX9_init 251 = .ok (.castore, 1) := by decide +kernel
theorem dX9_init_252 : decode cX9_init 252 = .ok (.dup, 1) := by decide +kernel
theorem dX9_init_253 : decode cX9_init 253 = .ok (.bipush 34, 2) := by decide +kernel
theorem dX9_init_255 : decode cX9_init 255 = .ok (.bipush 105, 2) := by decide +kernel
theorem dX9_init_257 : decode cX9_init 257 = .ok (.castore, 1) := by decide +kernel
theorem dX9_init_258 : decode cX9_init 258 = .ok (.dup, 1) := by decide +kernel
theorem dX9_init_259 : decode cX9_init 259 = .ok (.bipush 35, 2) := by decide +kernel
theorem dX9_init_261 : decode cX9_init 261 = .ok (.bipush 103, 2) := by decide +kernel
theorem dX9_init_263 : decode cX9_init 263 = .ok (.castore, 1) := by decide +kernel
theorem dX9_init_264 : decode cX9_init 264 = .ok (.dup, 1) := by decide +kernel
theorem dX9_init_265 : decode cX9_init 265 = .ok (.bipush 36, 2) := by decide +kernel
theorem dX9_init_267 : decode cX9_init 267 = .ok (.bipush 32, 2) := by decide +kernel
theorem dX9_init_269 : decode cX9_init 269 = .ok (.castore, 1) := by decide +kernel
theorem dX9_init_270 : decode cX9_init 270 = .ok (.dup, 1) := by decide +kernel
theorem dX9_init_271 : decode cX9_init 271 = .ok (.bipush 37, 2) := by decide +kernel
theorem dX9_init_273 : decode cX9_init 273 = .ok (.bipush 32, 2) := by decide +kernel
theorem dX9_init_275 : decode cX9_init 275 = .ok (.castore, 1) := by decide +kernel
theorem dX9_init_276 : decode cX9_init 276 = .ok (.dup, 1) := by decide +kernel
theorem dX9_init_277 : decode cX9_init 277 = .ok (.bipush 38, 2) := by decide +kernel
theorem dX9_init_279 : decode cX9_init 279 = .ok (.bipush 32, 2) := by decide +kernel
theorem dX9_init_281 : decode cX9_init 281 = .ok (.castore, 1) := by decide +kernel
theorem dX9_init_282 : decode cX9_init 282 = .ok (.dup, 1) := by decide +kernel
theorem dX9_init_283 : decode cX9_init 283 = .ok (.bipush 39, 2) := by decide +kernel
theorem dX9_init_285 : decode cX9_init 285 = .ok (.bipush 32, 2) := by decide +kernel
theorem dX9_init_287 : decode cX9_init 287 = .ok (.castore, 1) := by decide +kernel
theorem dX9_init_288 : decode cX9_init 288 = .ok (.dup, 1) := by decide +kernel
theorem dX9_init_289 : decode cX9_init 289 = .ok (.bipush 40, 2) := by decide +kernel
theorem dX9_init_291 : decode cX9_init 291 = .ok (.bipush 99, 2) := by decide +kernel
theorem dX9_init_293 : decode cX9_init 293 = .ok (.castore, 1) := by decide +kernel
theorem dX9_init_294 : decode cX9_init 294 = .ok (.dup, 1) := by decide +kernel
theorem dX9_init_295 : decode cX9_init 295 = .ok (.bipush 41, 2) := by decide +kernel
theorem dX9_init_297 : decode cX9_init 297 = .ok (.bipush 97, 2) := by decide +kernel
theorem dX9_init_299 : decode cX9_init 299 = .ok (.castore, 1) := by decide +kernel
theorem dX9_init_300 : decode cX9_init 300 = .ok (.dup, 1) := by decide +kernel
theorem dX9_init_301 : decode cX9_init 301 = .ok (.bipush 42, 2) := by decide +kernel
theorem dX9_init_303 : decode cX9_init 303 = .ok (.bipush 112, 2) := by decide +kernel
theorem dX9_init_305 : decode cX9_init 305 = .ok (.castore, 1) := by decide +kernel
theorem dX9_init_306 : decode cX9_init 306 = .ok (.dup, 1) := by decide +kernel
theorem dX9_init_307 : decode cX9_init 307 = .ok (.bipush 43, 2) := by decide +kernel
theorem dX9_init_309 : decode cX9_init 309 = .ok (.bipush 116, 2) := by decide +kernel
theorem dX9_init_311 : decode cX9_init 311 = .ok (.castore, 1) := by decide +kernel
theorem dX9_init_312 : decode cX9_init 312 = .ok (.dup, 1) := by decide +kernel
theorem dX9_init_313 : decode cX9_init 313 = .ok (.bipush 44, 2) := by decide +kernel
theorem dX9_init_315 : decode cX9_init 315 = .ok (.bipush 97, 2) := by decide +kernel
theorem dX9_init_317 : decode cX9_init 317 = .ok (.castore, 1) := by decide +kernel
theorem dX9_init_318 : decode cX9_init 318 = .ok (.dup, 1) := by decide +kernel
theorem dX9_init_319 : decode cX9_init 319 = .ok (.bipush 45, 2) := by decide +kernel
theorem dX9_init_321 : decode cX9_init 321 = .ok (.bipush 105, 2) := by decide +kernel
theorem dX9_init_323 : decode cX9_init 323 = .ok (.castore, 1) := by decide +kernel
theorem dX9_init_324 : decode cX9_init 324 = .ok (.dup, 1) := by decide +kernel
theorem dX9_init_325 : decode cX9_init 325 = .ok (.bipush 46, 2) := by decide +kernel
theorem dX9_init_327 : decode cX9_init 327 = .ok (.bipush 110, 2) := by decide +kernel
theorem dX9_init_329 : decode cX9_init 329 = .ok (.castore, 1) := by decide +kernel
theorem dX9_init_330 : decode cX9_init 330 = .ok (.dup, 1) := by decide +kernel
theorem dX9_init_331 : decode cX9_init 331 = .ok (.bipush 47, 2) := by decide +kernel
theorem dX9_init_333 : decode cX9_init 333 = .ok (.bipush 32, 2) := by decide +kernel
theorem dX9_init_335 : decode cX9_init 335 = .ok (.castore, 1) := by decide +kernel
theorem dX9_init_336 : decode cX9_init 336 = .ok (.dup, 1) := by decide +kernel
theorem dX9_init_337 : decode cX9_init 337 = .ok (.bipush 48, 2) := by decide +kernel
theorem dX9_init_339 : decode cX9_init 339 = .ok (.bipush 101, 2) := by decide +kernel
theorem dX9_init_341 : decode cX9_init 341 = .ok (.castore, 1) := by decide +kernel
theorem dX9_init_342 : decode cX9_init 342 = .ok (.dup, 1) := by decide +kernel
theorem dX9_init_343 : decode cX9_init 343 = .ok (.bipush 49, 2) := by decide +kernel
theorem dX9_init_345 : decode cX9_init 345 = .ok (.bipush 110, 2) := by decide +kernel
theorem dX9_init_347 : decode cX9_init 347 = .ok (.castore, 1) := by decide +kernel
theorem dX9_init_348 : decode cX9_init 348 = .ok (.dup, 1) := by decide +kernel
theorem dX9_init_349 : decode cX9_init 349 = .ok (.bipush 50, 2) := by decide +kernel
theorem dX9_init_351 : decode cX9_init 351 = .ok (.bipush 116, 2) := by decide +kernel
theorem dX9_init_353 : decode cX9_init 353 = .ok (.castore, 1) := by decide +kernel
theorem dX9_init_354 : decode cX9_init 354 = .ok (.dup, 1) := by decide +kernel
theorem dX9_init_355 : decode cX9_init 355 = .ok (.bipush 51, 2) := by decide +kernel
theorem dX9_init_357 : decode cX9_init 357 = .ok (.bipush 101, 2) := by decide +kernel
theorem dX9_init_359 : decode cX9_init 359 = .ok (.castore, 1) := by decide +kernel
theorem dX9_init_360 : decode cX9_init 360 = .ok (.dup, 1) := by decide +kernel
theorem dX9_init_361 : decode cX9_init 361 = .ok (.bipush 52, 2) := by decide +kernel
theorem dX9_init_363 : decode cX9_init 363 = .ok (.bipush 114, 2) := by decide +kernel
theorem dX9_init_365 : decode cX9_init 365 = .ok (.castore, 1) := by decide +kernel
theorem dX9_init_366 : decode cX9_init 366 = .ok (.dup, 1) := by decide +kernel
theorem dX9_init_367 : decode cX9_init 367 = .ok (.bipush 53, 2) := by decide +kernel
theorem dX9_init_369 : decode cX9_init 369 = .ok (.bipush 32, 2) := by decide +kernel
theorem dX9_init_371 : decode cX9_init 371 = .ok (.castore, 1) := by decide +kernel
theorem dX9_init_372 : decode cX9_init 372 = .ok (.dup, 1) := by decide +kernel
theorem dX9_init_373 : decode cX9_init 373 = .ok (.bipush 54, 2) := by decide +kernel
theorem dX9_init_375 : decode cX9_init 375 = .ok (.bipush 32, 2) := by decide +kernel
theorem dX9_init_377 : decode cX9_init 377 = .ok (.castore, 1) := by decide +kernel
theorem dX9_init_378 : decode cX9_init 378 = .ok (.dup, 1) := by decide +kernel
theorem dX9_init_379 : decode cX9_init 379 = .ok (.bipush 55, 2) := by decide +kernel
theorem dX9_init_381 : decode cX9_init 381 = .ok (.bipush 32, 2) := by decide +kernel
theorem dX9_init_383 : decode cX9_init 383 = .ok (.castore, 1) := by decide +kernel
theorem dX9_init_384 : decode cX9_init 384 = .ok (.dup, 1) := by decide +kernel
theorem dX9_init_385 : decode cX9_init 385 = .ok (.bipush 56, 2) := by decide +kernel
theorem dX9_init_387 : decode cX9_init 387 = .ok (.bipush 115, 2) := by decide +kernel
theorem dX9_init_389 : decode cX9_init 389 = .ok (.castore, 1) := by decide +kernel
theorem dX9_init_390 : decode cX9_init 390 = .ok (.dup, 1) := by decide +kernel
theorem dX9_init_391 : decode cX9_init 391 = .ok (.bipush 57, 2) := by decide +kernel
theorem dX9_init_393 : decode cX9_init 393 = .ok (.bipush 116, 2) := by decide +kernel
theorem dX9_init_395 : decode cX9_init 395 = .ok (.castore, 1) := by decide +kernel
theorem dX9_init_396 : decode cX9_init 396 = .ok (.dup, 1) := by decide +kernel
theorem dX9_init_397 : decode cX9_init 397 = .ok (.bipush 58, 2) := by decide +kernel
theorem dX9_init_399 : decode cX9_init 399 = .ok (.bipush 97, 2) := by decide +kernel
theorem dX9_init_401 : decode cX9_init 401 = .ok (.castore, 1) := by decide +kernel
theorem dX9_init_402 : decode cX9_init 402 = .ok (.dup, 1) := by decide +kernel
theorem dX9_init_403 : decode cX9_init 403 = .ok (.bipush 59, 2) := by decide +kernel
theorem dX9_init_405 : decode cX9_init 405 = .ok (.bipush 110, 2) := by decide +kernel
theorem dX9_init_407 : decode cX9_init 407 = .ok (.castore, 1) := by decide +kernel
theorem dX9_init_408 : decode cX9_init 408 = .ok (.dup, 1) := by decide +kernel
theorem dX9_init_409 : decode cX9_init 409 = .ok (.bipush 60, 2) := by decide +kernel
theorem dX9_init_411 : decode cX9_init 411 = .ok (.bipush 100, 2) := by decide +kernel
theorem dX9_init_413 : decode cX9_init 413 = .ok (.castore, 1) := by decide +kernel
theorem dX9_init_414 : decode cX9_init 414 = .ok (.dup, 1) := by decide +kernel
theorem dX9_init_415 : decode cX9_init 415 = .ok (.bipush 61, 2) := by decide +kernel
theorem dX9_init_417 : decode cX9_init 417 = .ok (.bipush 32, 2) := by decide +kernel
theorem dX9_init_419 : decode cX9_init 419 = .ok (.castore, 1) := by decide +kernel
theorem dX9_init_420 : decode cX9_init 420 = .ok (.dup, 1) := by decide +kernel
theorem dX9_init_421 : decode cX9_init 421 = .ok (.bipush 62, 2) := by decide +kernel
theorem dX9_init_423 : decode cX9_init 423 = .ok (.bipush 32, 2) := by decide +kernel
theorem dX9_init_425 : decode cX9_init 425 = .ok (.castore, 1) := by decide +kernel
theorem dX9_init_426 : decode cX9_init 426 = .ok (.dup, 1) := by decide +kernel
theorem dX9_init_427 : decode cX9_init 427 = .ok (.bipush 63, 2) := by decide +kernel
theorem dX9_init_429 : decode cX9_init 429 = .ok (.bipush 32, 2) := by decide +kernel
theorem dX9_init_431 : decode cX9_init 431 = .ok (.castore, 1) := by decide +kernel
theorem dX9_init_432 : decode cX9_init 432 = .ok (.dup, 1) := by decide +kernel
theorem dX9_init_433 : decode cX9_init 433 = .ok (.bipush 64, 2) := by decide +kernel
theorem dX9_init_435 : decode cX9_init 435 = .ok (.bipush 104, 2) := by decide +kernel
theorem dX9_init_437 : decode cX9_init 437 = .ok (.castore, 1) := by decide +kernel
theorem dX9_init_438 : decode cX9_init 438 = .ok (.dup, 1) := by decide +kernel
theorem dX9_init_439 : decode cX9_init 439 = .ok (.bipush 65, 2) := by decide +kernel
theorem dX9_init_441 : decode cX9_init 441 = .ok (.bipush 97, 2) := by decide +kernel
theorem dX9_init_443 : decode cX9_init 443 = .ok (.castore, 1) := by decide +kernel
theorem dX9_init_444 : decode cX9_init 444 = .ok (.dup, 1) := by decide +kernel
theorem dX9_init_445 : decode cX9_init 445 = .ok (.bipush 66, 2) := by decide +kernel
theorem dX9_init_447 : decode cX9_init 447 = .ok (.bipush 105, 2) := by decide +kernel
theorem dX9_init_449 : decode cX9_init 449 = .ok (.castore, 1) := by decide +kernel
theorem dX9_init_450 : decode cX9_init 450 = .ok (.dup, 1) := by decide +kernel
theorem dX9_init_451 : decode cX9_init 451 = .ok (.bipush 67, 2) := by decide +kernel
theorem dX9_init_453 : decode cX9_init 453 = .ok (.bipush 108, 2) := by decide +kernel
theorem dX9_init_455 : decode cX9_init 455 = .ok (.castore, 1) := by decide +kernel
theorem dX9_init_456 : decode cX9_init 456 = .ok (.dup, 1) := by decide +kernel
theorem dX9_init_457 : decode cX9_init 457 = .ok (.bipush 68, 2) := by decide +kernel
theorem dX9_init_459 : decode cX9_init 459 = .ok (.bipush 32, 2) := by decide +kernel
theorem dX9_init_461 : decode cX9_init 461 = .ok (.castore, 1) := by decide +kernel
theorem dX9_init_462 : decode cX9_init 462 = .ok (.dup, 1) := by decide +kernel
theorem dX9_init_463 : decode cX9_init 463 = .ok (.bipush 69, 2) := by decide +kernel
theorem dX9_init_465 : decode cX9_init 465 = .ok (.bipush 32, 2) := by decide +kernel
theorem dX9_init_467 : decode cX9_init 467 = .ok (.castore, 1) := by decide +kernel
theorem dX9_init_468 : decode cX9_init 468 = .ok (.dup, 1) := by decide +kernel
theorem dX9_init_469 : decode cX9_init 469 = .ok (.bipush 70, 2) := by decide +kernel
theorem dX9_init_471 : decode cX9_init 471 = .ok (.bipush 32, 2) := by decide +kernel
theorem dX9_init_473 : decode cX9_init 473 = .ok (.castore, 1) := by decide +kernel
theorem dX9_init_474 : decode cX9_init 474 = .ok (.dup, 1) := by decide +kernel
theorem dX9_init_475 : decode cX9_init 475 = .ok (.bipush 71, 2) := by decide +kernel
theorem dX9_init_477 : decode cX9_init 477 = .ok (.bipush 32, 2) := by decide +kernel
theorem dX9_init_479 : decode cX9_init 479 = .ok (.castore, 1) := by decide +kernel
theorem dX9_init_480 : decode cX9_init 480 = .ok (.dup, 1) := by decide +kernel
theorem dX9_init_481 : decode cX9_init 481 = .ok (.bipush 72, 2) := by decide +kernel
theorem dX9_init_483 : decode cX9_init 483 = .ok (.bipush 105, 2) := by decide +kernel
theorem dX9_init_485 : decode cX9_init 485 = .ok (.castore, 1) := by decide +kernel
theorem dX9_init_486 : decode cX9_init 486 = .ok (.dup, 1) := by decide +kernel
theorem dX9_init_487 : decode cX9_init 487 = .ok (.bipush 73, 2) := by decide +kernel
theorem dX9_init_489 : decode cX9_init 489 = .ok (.bipush 102, 2) := by decide +kernel
theorem dX9_init_491 : decode cX9_init 491 = .ok (.castore, 1) := by decide +kernel
theorem dX9_init_492 : decode cX9_init 492 = .ok (.dup, 1) := by decide +kernel
theorem dX9_init_493 : decode cX9_init 493 = .ok (.bipush 74, 2) := by decide +kernel
theorem dX9_init_495 : decode cX9_init 495 = .ok (.bipush 32, 2) := by decide +kernel
theorem dX9_init_497 : decode cX9_init 497 = .ok (.castore, 1) := by decide +kernel
theorem dX9_init_498 : decode cX9_init 498 = .ok (.dup, 1) := by decide +kernel
theorem dX9_init_499 : decode cX9_init 499 = .ok (.bipush 75, 2) := by decide +kernel
theorem dX9_init_501 : decode cX9_init 501 = .ok (.bipush 32, 2) := by decide +kernel
theorem dX9_init_503 : decode cX9_init 503 = .ok (.castore, 1) := by decide +kernel
theorem dX9_init_504 : decode cX9_init 504 = .ok (.dup, 1) := by decide +kernel
theorem dX9_init_505 : decode cX9_init 505 = .ok (.bipush 76, 2) := by decide +kernel
theorem dX9_init_507 : decode cX9_init 507 = .ok (.bipush 32, 2) := by decide +kernel
theorem dX9_init_509 : decode cX9_init 509 = .ok (.castore, 1) := by decide +kernel
theorem dX9_init_510 : decode cX9_init 510 = .ok (.dup, 1) := by decide +kernel
theorem dX9_init_511 : decode cX9_init 511 = .ok (.bipush 77, 2) := by decide +kernel
theorem dX9_init_513 : decode cX9_init 513 = .ok (.bipush 32, 2) := by decide +kernel
theorem dX9_init_515 : decode cX9_init 515 = .ok (.castore, 1) := by decide +kernel
theorem dX9_init_516 : decode cX9_init 516 = .ok (.dup, 1) := by decide +kernel
theorem dX9_init_517 : decode cX9_init 517 = .ok (.bipush 78, 2) := by decide +kernel
theorem dX9_init_519 : decode cX9_init 519 = .ok (.bipush 32, 2) := by decide +kernel
theorem dX9_init_521 : decode cX9_init 521 = .ok (.castore, 1) := by decide +kernel
theorem dX9_init_522 : decode cX9_init 522 = .ok (.dup, 1) := by decide +kernel
theorem dX9_init_523 : decode cX9_init 523 = .ok (.bipush 79, 2) := by decide +kernel
theorem dX9_init_525 : decode cX9_init 525 = .ok (.bipush 32, 2) := by decide +kernel
theorem dX9_init_527 : decode cX9_init 527 = .ok (.castore, 1) := by decide +kernel
theorem dX9_init_528 : decode cX9_init 528 = .ok (.dup, 1) := by decide +kernel
theorem dX9_init_529 : decode cX9_init 529 = .ok (.bipush 80, 2) := by decide +kernel
theorem dX9_init_531 : decode cX9_init 531 = .ok (.bipush 110, 2) := by decide +kernel
theorem dX9_init_533 : decode cX9_init 533 = .ok (.castore, 1) := by decide +kernel
theorem dX9_init_534 : decode cX9_init 534 = .ok (.dup, 1) := by decide +kernel
theorem dX9_init_535 : decode cX9_init 535 = .ok (.bipush 81, 2) := by decide +kernel
theorem dX9_init_537 : decode cX9_init 537 = .ok (.bipush 111, 2) := by decide +kernel
theorem dX9_init_539 : decode cX9_init 539 = .ok (.castore, 1) := by decide +kernel
theorem dX9_init_540 : decode cX9_init 540 = .ok (.dup, 1) := by decide +kernel
theorem dX9_init_541 : decode cX9_init 541 = .ok (.bipush 82, 2) := by decide +kernel
theorem dX9_init_543 : decode cX9_init 543 = .ok (.bipush 116, 2) := by decide +kernel
theorem dX9_init_545 : decode cX9_init 545 = .ok (.castore, 1) := by decide +kernel
theorem dX9_init_546 : decode cX9_init 546 = .ok (.dup, 1) := by decide +kernel
theorem dX9_init_547 : decode cX9_init 547 = .ok (.bipush 83, 2) := by decide +kernel
theorem dX9_init_549 : decode cX9_init 549 = .ok (.bipush 32, 2) := by decide +kernel
theorem dX9_init_551 : decode cX9_init 551 = .ok (.castore, 1) := by decide +kernel
theorem dX9_init_552 : decode cX9_init 552 = .ok (.dup, 1) := by decide +kernel
theorem dX9_init_553 : decode cX9_init 553 = .ok (.bipush 84, 2) := by decide +kernel
theorem dX9_init_555 : decode cX9_init 555 = .ok (.bipush 32, 2) := by decide +kernel
theorem dX9_init_557 : decode cX9_init 557 = .ok (.castore, 1) := by decide +kernel
theorem dX9_init_558 : decode cX9_init 558 = .ok (.dup, 1) := by decide +kernel
theorem dX9_init_559 : decode cX9_init 559 = .ok (.bipush 85, 2) := by decide +kernel
theorem dX9_init_561 : decode cX9_init 561 = .ok (.bipush 32, 2) := by decide +kernel
theorem dX9_init_563 : decode cX9_init 563 = .ok (.castore, 1) := by decide +kernel
theorem dX9_init_564 : decode cX9_init 564 = .ok (.dup, 1) := by decide +kernel
theorem dX9_init_565 : decode cX9_init 565 = .ok (.bipush 86, 2) := by decide +kernel
theorem dX9_init_567 : decode cX9_init 567 = .ok (.bipush 32, 2) := by decide +kernel
theorem dX9_init_569 : decode cX9_init 569 = .ok (.castore, 1) := by decide +kernel
theorem dX9_init_570 : decode cX9_init 570 = .ok (.dup, 1) := by decide +kernel
theorem dX9_init_571 : decode cX9_init 571 = .ok (.bipush 87, 2) := by decide +kernel
theorem dX9_init_573 : decode cX9_init 573 = .ok (.bipush 32, 2) := by decide +kernel
theorem dX9_init_575 : decode cX9_init 575 = .ok (.castore, 1) := by decide +kernel
theorem dX9_init_576 : decode cX9_init 576 = .ok (.dup, 1) := by decide +kernel
theorem dX9_init_577 : decode cX9_init 577 = .ok (.bipush 88, 2) := by decide +kernel
theorem dX9_init_579 : decode cX9_init 579 = .ok (.bipush 97, 2) := by decide +kernel
theorem dX9_init_581 : decode cX9_init 581 = .ok (.castore, 1) := by decide +kernel
theorem dX9_init_582 : decode cX9_init 582 = .ok (.dup, 1) := by decide +kernel
theorem dX9_init_583 : decode cX9_init 583 = .ok (.bipush 89, 2) := by decide +kernel
theorem dX9_init_585 : decode cX9_init 585 = .ok (.bipush 110, 2) := by decide +kernel
theorem dX9_init_587 : decode cX9_init 587 = .ok (.castore, 1) := by decide +kernel
theorem dX9_init_588 : decode cX9_init 588 = .ok (.dup, 1) := by decide +kernel
theorem dX9_init_589 : decode cX9_init 589 = .ok (.bipush 90, 2) := by decide +kernel
theorem dX9_init_591 : decode cX9_init 591 = .ok (.bipush 100, 2) := by decide +kernel
theorem dX9_init_593 : decode cX9_init 593 = .ok (.castore, 1) := by decide +kernel
theorem dX9_init_594 : decode cX9_init 594 = .ok (.dup, 1) := by decide +kernel
theorem dX9_init_595 : decode cX9_init 595 = .ok (.bipush 91, 2) := by decide +kernel
theorem dX9_init_597 : decode cX9_init 597 = .ok (.bipush 32, 2) := by decide +kernel
theorem dX9_init_599 : decode cX9_init 599 = .ok (.castore, 1) := by decide +kernel
theorem dX9_init_600 : decode cX9_init 600 = .ok (.dup, 1) := by decide +kernel
theorem dX9_init_601 : decode cX9_init 601 = .ok (.bipush 92, 2) := by decide +kernel
theorem dX9_init_603 : decode cX9_init 603 = .ok (.bipush 32, 2) := by decide +kernel
theorem dX9_init_605 : decode cX9_init 605 = .ok (.castore, 1) := by decide +kernel
theorem dX9_init_606 : decode cX9_init 606 = .ok (.dup, 1) := by decide +kernel
theorem dX9_init_607 : decode cX9_init 607 = .ok (.bipush 93, 2) := by decide +kernel
theorem dX9_init_609 : decode cX9_init 609 = .ok (.bipush 32, 2) := by decide +kernel
theorem dX9_init_611 : decode cX9_init 611 = .ok (.castore, 1) := by decide +kernel
theorem dX9_init_612 : decode cX9_init 612 = .ok (.dup, 1) := by decide +kernel
theorem dX9_init_613 : decode cX9_init 613 = .ok (.bipush 94, 2) := by decide +kernel
theorem dX9_init_615 : decode cX9_init 615 = .ok (.bipush 32, 2) := by decide +kernel
theorem dX9_init_617 : decode cX9_init 617 = .ok (.castore, 1) := by decide +kernel
theorem dX9_init_618 : decode cX9_init 618 = .ok (.dup, 1) := by decide +kernel
theorem dX9_init_619 : decode cX9_init 619 = .ok (.bipush 95, 2) := by decide +kernel
theorem dX9_init_621 : decode cX9_init 621 = .ok (.bipush 32, 2) := by decide +kernel
theorem dX9_init_623 : decode cX9_init 623 = .ok (.castore, 1) := by decide +kernel
theorem dX9_init_624 : decode cX9_init 624 = .ok (.dup, 1) := by decide +kernel
theorem dX9_init_625 : decode cX9_init 625 = .ok (.bipush 96, 2) := by decide +kernel
theorem dX9_init_627 : decode cX9_init 627 = .ok (.bipush 111, 2) := by decide +kernel
theorem dX9_init_629 : decode cX9_init 629 = .ok (.castore, 1) := by decide +kernel
theorem dX9_init_630 : decode cX9_init 630 = .ok (.dup, 1) := by decide +kernel
theorem dX9_init_631 : decode cX9_init 631 = .ok (.bipush 97, 2) := by decide +kernel
theorem dX9_init_633 : decode cX9_init 633 = .ok (.bipush 114, 2) := by decide +kernel
theorem dX9_init_635 : decode cX9_init 635 = .ok (.castore, 1) := by decide +kernel
theorem dX9_init_636 : decode cX9_init 636 = .ok (.dup, 1) := by decide +kernel
theorem dX9_init_637 : decode cX9_init 637 = .ok (.bipush 98, 2) := by decide +kernel
theorem dX9_init_639 : decode cX9_init 639 = .ok (.bipush 32, 2) := by decide +kernel
theorem dX9_init_641 : decode cX9_init 641 = .ok (.castore, 1) := by decide +kernel
theorem dX9_init_642 : decode cX9_init 642 = .ok (.dup, 1) := by decide +kernel
theorem dX9_init_643 : decode cX9_init 643 = .ok (.bipush 99, 2) := by decide +kernel
theorem dX9_init_645 : decode cX9_init 645 = .ok (.bipush 32, 2) := by decide +kernel
theorem dX9_init_647 : decode cX9_init 647 = .ok (.castore, 1) := by decide +kernel
theorem dX9_init_648 : decode cX9_init 648 = .ok (.dup, 1) := by decide +kernel
theorem dX9_init_649 : decode cX9_init 649 = .ok (.bipush 100, 2) := by decide +kernel
theorem dX9_init_651 : decode cX9_init 651 = .ok (.bipush 32, 2) := by decide +kernel
theorem dX9_init_653 : decode cX9_init 653 = .ok (.castore, 1) := by decide +kernel
theorem dX9_init_654 : decode cX9_init 654 = .ok (.dup, 1) := by decide +kernel
theorem dX9_init_655 : decode cX9_init 655 = .ok (.bipush 101, 2) := by decide +kernel
theorem dX9_init_657 : decode cX9_init 657 = .ok (.bipush 32, 2) := by decide +kernel
theorem dX9_init_659 : decode cX9_init 659 = .ok (.castore, 1) := by decide +kernel
theorem dX9_init_660 : decode cX9_init 660 = .ok (.dup, 1) := by decide +kernel
theorem dX9_init_661 : decode cX9_init 661 = .ok (.bipush 102, 2) := by decide +kernel
theorem dX9_init_663 : decode cX9_init 663 = .ok (.bipush 32, 2) := by decide +kernel
theorem dX9_init_665 : decode cX9_init 665 = .ok (.castore, 1) := by decide +kernel
theorem dX9_init_666 : decode cX9_init 666 = .ok (.dup, 1) := by decide +kernel
theorem dX9_init_667 : decode cX9_init 667 = .ok (.bipush 103, 2) := by decide +kernel
theorem dX9_init_669 : decode cX9_init 669 = .ok (.bipush 32, 2) := by decide +kernel
theorem dX9_init_671 : decode cX9_init 671 = .ok (.castore, 1) := by decide +kernel
theorem dX9_init_672 : decode cX9_init 672 = .ok (.dup, 1) := by decide +kernel
theorem dX9_init_673 : decode cX9_init 673 = .ok (.bipush 104, 2) := by decide +kernel
theorem dX9_init_675 : decode cX9_init 675 = .ok (.bipush 119, 2) := by decide +kernel
theorem dX9_init_677 : decode cX9_init 677 = .ok (.castore, 1) := by decide +kernel
theorem dX9_init_678 : decode cX9_init 678 = .ok (.dup, 1) := by decide +kernel
theorem dX9_init_679 : decode cX9_init 679 = .ok (.bipush 105, 2) := by decide +kernel
theorem dX9_init_681 : decode cX9_init 681 = .ok (.bipush 97, 2) := by decide +kernel
theorem dX9_init_683 : decode cX9_init 683 = .ok (.castore, 1) := by decide +kernel
theorem dX9_init_684 : decode cX9_init 684 = .ok (.dup, 1) := by decide +kernel
theorem dX9_init_685 : decode cX9_init 685 = .ok (.bipush 106, 2) := by decide +kernel
theorem dX9_init_687 : decode cX9_init 687 = .ok (.bipush 116, 2) := by decide +kernel
theorem dX9_init_689 : decode cX9_init 689 = .ok (.castore, 1) := by decide +kernel
theorem dX9_init_690 : decode cX9_init 690 = .ok (.dup, 1) := by decide +kernel
theorem dX9_init_691 : decode cX9_init 691 = .ok (.bipush 107, 2) := by decide +kernel
theorem dX9_init_693 : decode cX9_init 693 = .ok (.bipush 99, 2) := by decide +kernel
theorem dX9_init_695 : decode cX9_init 695 = .ok (.castore, 1) := by decide +kernel
theorem dX9_init_696 : decode cX9_init 696 = .ok (.dup, 1) := by decide +kernel
theorem dX9_init_697 : decode cX9_init 697 = .ok (.bipush 108, 2) := by decide +kernel
theorem dX9_init_699 : decode cX9_init 699 = .ok (.bipush 104, 2) := by decide +kernel
theorem dX9_init_701 : decode cX9_init 701 = .ok (.castore, 1) := by decide +kernel
theorem dX9_init_702 : decode cX9_init 702 = .ok (.dup, 1) := by decide +kernel
theorem dX9_init_703 : decode cX9_init 703 = .ok (.bipush 109, 2) := by decide +kernel
theorem dX9_init_705 : decode cX9_init 705 = .ok (.bipush 32, 2) := by decide +kernel
theorem dX9_init_707 : decode cX9_init 707 = .ok (.castore, 1) := by decide +kernel
theorem dX9_init_708 : decode cX9_init 708 = .ok (.dup, 1) := by decide +kernel
theorem dX9_init_709 : decode cX9_init 709 = .ok (.bipush 110, 2) := by decide +kernel
theorem dX9_init_711 : decode cX9_init 711 = .ok (.bipush 32, 2) := by decide +kernel
theorem dX9_init_713 : decode cX9_init 713 = .ok (.castore, 1) := by decide +kernel
theorem dX9_init_714 : decode cX9_init 714 = .ok (.dup, 1) := by decide +kernel
theorem dX9_init_715 : decode cX9_init 715 = .ok (.bipush 111, 2) := by decide +kernel
theorem dX9_init_717 : decode cX9_init 717 = .ok (.bipush 32, 2) := by decide +kernel
theorem dX9_init_719 : decode cX9_init 719 = .ok (.castore, 1) := by decide +kernel
theorem dX9_init_720 : decode cX9_init 720 = .ok (.dup, 1) := by decide +kernel
theorem dX9_init_721 : decode cX9_init 721 = .ok (.bipush 112, 2) := by decide +kernel
theorem dX9_init_723 : decode cX9_init 723 = .ok (.bipush 111, 2) := by decide +kernel
theorem dX9_init_725 : decode cX9_init 725 = .ok (.castore, 1) := by decide +kernel
theorem dX9_init_726 : decode cX9_init 726 = .ok (.dup, 1) := by decide +kernel
theorem dX9_init_727 : decode cX9_init 727 = .ok (.bipush 113, 2) := by decide +kernel
theorem dX9_init_729 : decode cX9_init 729 = .ok (.bipush 102, 2) := by decide +kernel
theorem dX9_init_731 : decode cX9_init 731 = .ok (.castore, 1) := by decide +kernel
theorem dX9_init_732 : decode cX9_init 732 = .ok (.dup, 1) := by decide +kernel
theorem dX9_init_733 : decode cX9_init 733 = .ok (.bipush 114, 2) := by decide +kernel
theorem dX9_init_735 : decode cX9_init 735 = .ok (.bipush 102, 2) := by decide +kernel
theorem dX9_init_737 : decode cX9_init 737 = .ok (.castore, 1) := by decide +kernel
theorem dX9_init_738 : decode cX9_init 738 = .ok (.dup, 1) := by decide +kernel
theorem dX9_init_739 : decode cX9_init 739 = .ok (.bipush 115, 2) := by decide +kernel
theorem dX9_init_741 : decode cX9_init 741 = .ok (.bipush 32, 2) := by decide +kernel
theorem dX9_init_743 : decode cX9_init 743 = .ok (.castore, 1) := by decide +kernel
theorem dX9_init_744 : decode cX9_init 744 = .ok (.dup, 1) := by decide +kernel
theorem dX9_init_745 : decode cX9_init 745 = .ok (.bipush 116, 2) := by decide +kernel
theorem dX9_init_747 : decode cX9_init 747 = .ok (.bipush 32, 2) := by decide +kernel
theorem dX9_init_749 : decode cX9_init 749 = .ok (.castore, 1) := by decide +kernel
theorem dX9_init_750 : decode cX9_init 750 = .ok (.dup, 1) := by decide +kernel
theorem dX9_init_751 : decode cX9_init 751 = .ok (.bipush 117, 2) := by decide +kernel
theorem dX9_init_753 : decode cX9_init 753 = .ok (.bipush 32, 2) := by decide +kernel
theorem dX9_init_755 : decode cX9_init 755 = .ok (.castore, 1) := by decide +kernel
theorem dX9_init_756 : decode cX9_init 756 = .ok (.dup, 1) := by decide +kernel
theorem dX9_init_757 : decode cX9_init 757 = .ok (.bipush 118, 2) := by decide +kernel
theorem dX9_init_759 : decode cX9_init 759 = .ok (.bipush 32, 2) := by decide +kernel
theorem dX9_init_761 : decode cX9_init 761 = .ok (.castore, 1) := by decide +kernel
theorem dX9_init_762 : decode cX9_init 762 = .ok (.dup, 1) := by decide +kernel
theorem dX9_init_763 : decode cX9_init 763 = .ok (.bipush 119, 2) := by decide +kernel
theorem dX9_init_765 : decode cX9_init 765 = .ok (.bipush 32, 2) := by decide +kernel
theorem dX9_init_767 : decode cX9_init 767 = .ok (.castore, 1) := by decide +kernel
theorem dX9_init_768 : decode cX9_init 768 = .ok (.dup, 1) := by decide +kernel
theorem dX9_init_769 : decode cX9_init 769 = .ok (.bipush 120, 2) := by decide +kernel
theorem dX9_init_771 : decode cX9_init 771 = .ok (.bipush 116, 2) := by decide +kernel
theorem dX9_init_773 : decode cX9_init 773 = .ok (.castore, 1) := by decide +kernel
theorem dX9_init_774 : decode cX9_init 774 = .ok (.dup, 1) := by decide +kernel
theorem dX9_init_775 : decode cX9_init 775 = .ok (.bipush 121, 2) := by decide +kernel
theorem dX9_init_777 : decode cX9_init 777 = .ok (.bipush 114, 2) := by decide +kernel
theorem dX9_init_779 : decode cX9_init 779 = .ok (.castore, 1) := by decide +kernel
theorem dX9_init_780 : decode cX9_init 780 = .ok (.dup, 1) := by decide +kernel
theorem dX9_init_781 : decode cX9_init 781 = .ok (.bipush 122, 2) := by decide +kernel
theorem dX9_init_783 : decode cX9_init 783 = .ok (.bipush 105, 2) := by decide +kernel
theorem dX9_init_785 : decode cX9_init 785 = .ok (.castore, 1) := by decide +kernel
theorem dX9_init_786 : decode cX9_init 786 = .ok (.dup, 1) := by decide +kernel
theorem dX9_init_787 : decode cX9_init 787 = .ok (.bipush 123, 2) := by decide +kernel
theorem dX9_init_789 : decode cX9_init 789 = .ok (.bipush 109, 2) := by decide +kernel
theorem dX9_init_791 : decode cX9_init 791 = .ok (.castore, 1) := by decide +kernel
theorem dX9_init_792 : decode cX9_init 792 = .ok (.dup, 1) := by decide +kernel
theorem dX9_init_793 : decode cX9_init 793 = .ok (.bipush 124, 2) := by decide +kernel
theorem dX9_init_795 : decode cX9_init 795 = .ok (.bipush 32, 2) := by decide +kernel
theorem dX9_init_797 : decode cX9_init 797 = .ok (.castore, 1) := by decide +kernel
theorem dX9_init_798 : decode cX9_init 798 = .ok (.dup, 1) := by decide +kernel
theorem dX9_init_799 : decode cX9_init 799 = .ok (.bipush 125, 2) := by decide +kernel
theorem dX9_init_801 : decode cX9_init 801 = .ok (.bipush 32, 2) := by decide +kernel
theorem dX9_init_803 : decode cX9_init 803 = .ok (.castore, 1) := by decide +kernel
theorem dX9_init_804 : decode cX9_init 804 = .ok (.dup, 1) := by decide +kernel
theorem dX9_init_805 : decode cX9_init 805 = .ok (.bipush 126, 2) := by decide +kernel
theorem dX9_init_807 : decode cX9_init 807 = .ok (.bipush 32, 2) := by decide +kernel
theorem dX9_init_809 : decode cX9_init 809 = .ok (.castore, 1) := by decide +kernel
theorem dX9_init_810 : decode cX9_init 810 = .ok (.dup, 1) := by decide +kernel
theorem dX9_init_811 : decode cX9_init 811 = .ok (.bipush 127, 2) := by decide +kernel
theorem dX9_init_813 : decode cX9_init 813 = .ok (.bipush 32, 2) := by decide +kernel
theorem dX9_init_815 : decode cX9_init 815 = .ok (.castore, 1) := by decide +kernel
theorem dX9_init_816 : decode cX9_init 816 = .ok (.dup, 1) := by decide +kernel
theorem dX9_init_817 : decode cX9_init 817 = .ok (.sipush 128, 3) := by decide +kernel
theorem dX9_init_820 : decode cX9_init 820 = .ok (.bipush 102, 2) := by decide +kernel
theorem dX9_init_822 : decode cX9_init 822 = .ok (.castore, 1) := by decide +kernel
theorem dX9_init_823 : decode cX9_init 823 = .ok (.dup, 1) := by decide +kernel
theorem dX9_init_824 : decode cX9_init 824 = .ok (.sipush 129, 3) := by decide +kernel
theorem dX9_init_827 : decode cX9_init 827 = .ok (.bipush 108, 2) := by decide +kernel
theorem dX9_init_829 : decode cX9_init 829 = .ok (.castore, 1) := by decide +kernel
theorem dX9_init_830 : decode cX9_init 830 = .ok (.dup, 1) := by decide +kernel
theorem dX9_init_831 : decode cX9_init 831 = .ok (.sipush 130, 3) := by decide +kernel
theorem dX9_init_834 : decode cX9_init 834 = .ok (.bipush 97, 2) := by decide +kernel
theorem dX9_init_836 : decode cX9_init 836 = .ok (.castore, 1) := by decide +kernel
theorem dX9_init_837 : decode cX9_init 837 = .ok (.dup, 1) := by decide +kernel
theorem dX9_init_838 : decode cX9_init 838 = .ok (.sipush 131, 3) := by decide +kernel
theorem dX9_init_841 : decode cX9_init 841 = .ok (.bipush 115, 2) := by decide +kernel
theorem dX9_init_843 : decode cX9_init 843 = .ok (.castore, 1) := by decide +kernel
theorem dX9_init_844 : decode cX9_init 844 = .ok (.dup, 1) := by decide +kernel
theorem dX9_init_845 : decode cX9_init 845 = .ok (.sipush 132, 3) := by decide +kernel
theorem dX9_init_848 : decode cX9_init 848 = .ok (.bipush 104, 2) := by decide +kernel
theorem dX9_init_850 : decode cX9_init 850 = .ok (.castore, 1) := by decide +kernel
theorem dX9_init_851 : decode cX9_init 851 = .ok (.dup, 1) := by decide +kernel
theorem dX9_init_852 : decode cX9_init 852 = .ok (.sipush 133, 3) := by decide +kernel
theorem dX9_init_855 : decode cX9_init 855 = .ok (.bipush 32, 2) := by decide +kernel
theorem dX9_init_857 : decode cX9_init 857 = .ok (.castore, 1) := by decide +kernel
theorem dX9_init_858 : decode cX9_init 858 = .ok (.dup, 1) := by decide +kernel
theorem dX9_init_859 : decode cX9_init 859 = .ok (.sipush 134, 3) := by decide +kernel
theorem dX9_init_862 : decode cX9_init 862 = .ok (.bipush 32, 2) := by decide +kernel
theorem dX9_init_864 : decode cX9_init 864 = .ok (.castore, 1) := by decide +kernel
theorem dX9_init_865 : decode cX9_init 865 = .ok (.dup, 1) := by decide +kernel
theorem dX9_init_866 : decode cX9_init 866 = .ok (.sipush 135, 3) := by decide +kernel
theorem dX9_init_869 : decode cX9_init 869 = .ok (.bipush 32, 2) := by decide +kernel
theorem dX9_init_871 : decode cX9_init 871 = .ok (.castore, 1) := by decide +kernel
theorem dX9_init_872 : decode cX9_init 872 = .ok (.dup, 1) := by decide +kernel
theorem dX9_init_873 : decode cX9_init 873 = .ok (.sipush 136, 3) := by decide +kernel
theorem dX9_init_876 : decode cX9_init 876 = .ok (.bipush 110, 2) := by decide +kernel
theorem dX9_init_878 : decode cX9_init 878 = .ok (.castore, 1) := by decide +kernel
theorem dX9_init_879 : decode cX9_init 879 = .ok (.dup, 1) := by decide +kernel
theorem dX9_init_880 : decode cX9_init 880 = .ok (.sipush 137, 3) := by decide +kernel
theorem dX9_init_883 : decode cX9_init 883 = .ok (.bipush 117, 2) := by decide +kernel
theorem dX9_init_885 : decode cX9_init 885 = .ok (.castore, 1) := by decide +kernel
theorem dX9_init_886 : decode cX9_init 886 = .ok (.dup, 1) := by decide +kernel
theorem dX9_init_887 : decode cX9_init 887 = .ok (.sipush 138, 3) := by decide +kernel
theorem dX9_init_890 : decode cX9_init 890 = .ok (.bipush 109, 2) := by decide +kernel
theorem dX9_init_892 : decode cX9_init 892 = .ok (.castore, 1) := by decide +kernel
theorem dX9_init_893 : decode cX9_init 893 = .ok (.dup, 1) := by decide +kernel
theorem dX9_init_894 : decode cX9_init 894 = .ok (.sipush 139, 3) := by decide +kernel
theorem dX9_init_897 : decode cX9_init 897 = .ok (.bipush 98, 2) := by decide +kernel
theorem dX9_init_899 : decode cX9_init 899 = .ok (.castore, 1) := by decide +kernel
theorem dX9_init_900 : decode cX9_init 900 = .ok (.dup, 1) := by decide +kernel
theorem dX9_init_901 : decode cX9_init 901 = .ok (.sipush 140, 3) := by decide +kernel
theorem dX9_init_904 : decode cX9_init 904 = .ok (.bipush 101, 2) := by decide +kernel
theorem dX9_init_906 : decode cX9_init 906 = .ok (.castore, 1) := by decide +kernel
theorem dX9_init_907 : decode cX9_init 907 = .ok (.dup, 1) := by decide +kernel
theorem dX9_init_908 : decode cX9_init 908 = .ok (.sipush 141, 3) := by decide +kernel
theorem dX9_init_911 : decode cX9_init 911 = .ok (.bipush 114, 2) := by decide +kernel
theorem dX9_init_913 : decode cX9_init 913 = .ok (.castore, 1) := by decide +kernel
theorem dX9_init_914 : decode cX9_init 914 = .ok (.dup, 1) := by decide +kernel
theorem dX9_init_915 : decode cX9_init 915 = .ok (.sipush 142, 3) := by decide +kernel
theorem dX9_init_918 : decode cX9_init 918 = .ok (.bipush 32, 2) := by decide +kernel
theorem dX9_init_920 : decode cX9_init 920 = .ok (.castore, 1) := by decide +kernel
theorem dX9_init_921 : decode cX9_init 921 = .ok (.dup, 1) := by decide +kernel
theorem dX9_init_922 : decode cX9_init 922 = .ok (.sipush 143, 3) := by decide +kernel
theorem dX9_init_925 : decode cX9_init 925 = .ok (.bipush 32, 2) := by decide +kernel
theorem dX9_init_927 : decode cX9_init 927 = .ok (.castore, 1) := by decide +kernel
theorem dX9_init_928 : decode cX9_init 928 = .ok (.putfield 25, 3) := by decide +kernel
theorem dX9_init_931 : decode cX9_init 931 = .ok (.aload_n 0, 1) := by decide +kernel
theorem dX9_init_932 : decode cX9_init 932 = .ok (.sipush 200, 3) := by decide +kernel
theorem dX9_init_935 : decode cX9_init 935 = .ok (.newarray .int, 2) := by decide +kernel
theorem dX9_init_937 : decode cX9_init 937 = .ok (.putfield 29, 3) := by decide +kernel
theorem dX9_init_940 : decode cX9_init 940 = .ok (.aload_n 0, 1) := by decide +kernel
theorem dX9_init_941 : decode cX9_init 941 = .ok (.bipush 24, 2) := by decide +kernel
theorem dX9_init_943 : decode cX9_init 943 = .ok (.newarray .int, 2) := by decide +kernel
theorem dX9_init_945 : decode cX9_init 945 = .ok (.putfield 32, 3) := by decide +kernel
theorem dX9_init_948 : decode cX9_init 948 = .ok (.aload_n 0, 1) := by decide +kernel
theorem dX9_init_949 : decode cX9_init 949 = .ok (.sipush 325, 3) := by decide +kernel
theorem dX9_init_952 : decode cX9_init 952 = .ok (.newarray .int, 2) := by decide +kernel
theorem dX9_init_954 : decode cX9_init 954 = .ok (.putfield 35, 3) := by decide +kernel
theorem dX9_init_957 : decode cX9_init 957 = .ok (.aload_n 0, 1) := by decide +kernel
theorem dX9_init_958 : decode cX9_init 958 = .ok (.iconst 4, 1) := by decide +kernel
theorem dX9_init_959 : decode cX9_init 959 = .ok (.newarray .int, 2) := by decide +kernel
theorem dX9_init_961 : decode cX9_init 961 = .ok (.putfield 38, 3) := by decide +kernel
theorem dX9_init_964 : decode cX9_init 964 = .ok (.aload_n 0, 1) := by decide +kernel
theorem dX9_init_965 : decode cX9_init 965 = .ok (.iconst 4, 1) := by decide +kernel
theorem dX9_init_966 : decode cX9_init 966 = .ok (.newarray .int, 2) := by decide +kernel
theorem dX9_init_968 : decode cX9_init 968 = .ok (.putfield 41, 3) := by decide +kernel
theorem dX9_init_971 : decode cX9_init 971 = .ok (.aload_n 0, 1) := by decide +kernel
theorem dX9_init_972 : decode cX9_init 972 = .ok (.bipush 16, 2) := by decide +kernel
theorem dX9_init_974 : decode cX9_init 974 = .ok (.newarray .int, 2) := by decide +kernel
theorem dX9_init_976 : decode cX9_init 976 = .ok (.putfield 44, 3) := by decide +kernel
theorem dX9_init_979 : decode cX9_init 979 = .ok (.aload_n 0, 1) := by decide +kernel
theorem dX9_init_980 : decode cX9_init 980 = .ok (.bipush 16, 2) := by decide +kernel
theorem dX9_init_982 : decode cX9_init 982 = .ok (.newarray .int, 2) := by decide +kernel
theorem dX9_init_984 : decode cX9_init 984 = .ok (.putfield 47, 3) := by decide +kernel
theorem dX9_init_987 : decode cX9_init 987 = .ok (.aload_n 0, 1) := by decide +kernel
theorem dX9_init_988 : decode cX9_init 988 = .ok (.bipush 12, 2) := by decide +kernel
theorem dX9_init_990 : decode cX9_init 990 = .ok (.newarray .int, 2) := by decide +kernel
theorem dX9_init_992 : decode cX9_init 992 = .ok (.putfield 50, 3) := by decide +kernel
theorem dX9_init_995 : decode cX9_init 995 = .ok (.aload_n 0, 1) := by decide +kernel
theorem dX9_init_996 : decode cX9_init 996 = .ok (.iconst 4, 1) := by decide +kernel
theorem dX9_init_997 : decode cX9_init 997 = .ok (.newarray .int, 2) := by decide +kernel
theorem dX9_init_999 : decode cX9_init 999 = .ok (.dup, 1) := by decide +kernel
theorem dX9_init_1000 : decode cX9_init 1000 = .ok (.iconst 0, 1) := by decide +kernel
theorem dX9_init_1001 : decode cX9_init 1001 = .ok (.iconst (-1), 1) := by decide +kernel
theorem dX9_init_1002 : decode cX9_init 1002 = .ok (.iastore, 1) := by decide +kernel
theorem dX9_init_1003 : decode cX9_init 1003 = .ok (.dup, 1) := by decide +kernel
theorem dX9_init_1004 : decode cX9_init 1004 = .ok (.iconst 1, 1) := by decide +kernel
theorem dX9_init_1005 : decode cX9_init 1005 = .ok (.iconst (-1), 1) := by decide +kernel
theorem dX9_init_1006 : decode cX9_init 1006 = .ok (.iastore, 1) := by decide +kernel
theorem dX9_init_1007 : decode cX9_init 1007 = .ok (.dup, 1) := by decide +kernel
theorem dX9_init_1008 : decode cX9_init 1008 = .ok (.iconst 2, 1) := by decide +kernel
theorem dX9_init_1009 : decode cX9_init 1009 = .ok (.iconst (-1), 1) := by decide +kernel
theorem dX9_init_1010 : decode cX9_init 1010 = .ok (.iastore, 1) := by decide +kernel
theorem dX9_init_1011 : decode cX9_init 1011 = .ok (.dup, 1) := by decide +kernel
theorem dX9_init_1012 : decode cX9_init 1012 = .ok (.iconst 3, 1) := by decide +kernel
theorem dX9_init_1013 : decode cX9_init 1013 = .ok (.iconst (-1), 1) := by decide +kernel
theorem dX9_init_1014 : decode cX9_init 1014 = .ok (.iastore, 1) := by decide +kernel
theorem dX9_init_1015 : decode cX9_init 1015 = .ok (.putfield 53, 3) := by decide +kernel
theorem dX9_init_1018 : decode cX9_init 1018 = .ok (.aload_n 0, 1) := by decide +kernel
theorem dX9_init_1019 : decode cX9_init 1019 = .ok (.iconst 4, 1) := by decide +kernel
theorem dX9_init_1020 : decode cX9_init 1020 = .ok (.newarray .int, 2) := by decide +kernel
theorem dX9_init_1022 : decode cX9_init 1022 = .ok (.putfield 56, 3) := by decide +kernel
theorem dX9_init_1025 : decode cX9_init 1025 = .ok (.aload_n 0, 1) := by decide +kernel
theorem dX9_init_1026 : decode cX9_init 1026 = .ok (.sipush 160, 3) := by decide +kernel
theorem dX9_init_1029 : decode cX9_init 1029 = .ok (.newarray .int, 2) := by decide +kernel
theorem dX9_init_1031 : decode cX9_init 1031 = .ok (.putfield 59, 3) := by decide +kernel
theorem dX9_init_1034 : decode cX9_init 1034 = .ok (.aload_n 0, 1) := by decide +kernel
theorem dX9_init_1035 : decode cX9_init 1035 = .ok (.iconst 4, 1) := by decide +kernel
theorem dX9_init_1036 : decode cX9_init 1036 = .ok (.newarray .int, 2) := by decide +kernel
theorem dX9_init_1038 : decode cX9_init 1038 = .ok (.dup, 1) := by decide +kernel
theorem dX9_init_1039 : decode cX9_init 1039 = .ok (.iconst 0, 1) := by decide +kernel
theorem dX9_init_1040 : decode cX9_init 1040 = .ok (.iconst (-1), 1) := by decide +kernel
theorem dX9_init_1041 : decode cX9_init 1041 = .ok (.iastore, 1) := by decide +kernel
theorem dX9_init_1042 : decode cX9_init 1042 = .ok (.dup, 1) := by decide +kernel
theorem dX9_init_1043 : decode cX9_init 1043 = .ok (.iconst 1, 1) := by decide +kernel
theorem dX9_init_1044 : decode cX9_init 1044 = .ok (.iconst (-1), 1) := by decide +kernel
theorem dX9_init_1045 : decode cX9_init 1045 = .ok (.iastore, 1) := by decide +kernel
theorem dX9_init_1046 : decode cX9_init 1046 = .ok (.dup, 1) := by decide +kernel
theorem dX9_init_1047 : decode cX9_init 1047 = .ok (.iconst 2, 1) := by decide +kernel
theorem dX9_init_1048 : decode cX9_init 1048 = .ok (.iconst (-1), 1) := by decide +kernel
theorem dX9_init_1049 : decode cX9_init 1049 = .ok (.iastore, 1) := by decide +kernel
theorem dX9_init_1050 : decode cX9_init 1050 = .ok (.dup, 1) := by decide +kernel
theorem dX9_init_1051 : decode cX9_init 1051 = .ok (.iconst 3, 1) := by decide +kernel
theorem dX9_init_1052 : decode cX9_init 1052 = .ok (.iconst (-1), 1) := by decide +kernel
theorem dX9_init_1053 : decode cX9_init 1053 = .ok (.iastore, 1) := by decide +kernel
theorem dX9_init_1054 : decode cX9_init 1054 = .ok (.putfield 62, 3) := by decide +kernel
theorem dX9_init_1057 : decode cX9_init 1057 = .ok (.aload_n 0, 1) := by decide +kernel
theorem dX9_init_1058 : decode cX9_init 1058 = .ok (.iconst 4, 1) := by decide +kernel
theorem dX9_init_1059 : decode cX9_init 1059 = .ok (.newarray .int, 2) := by decide +kernel
theorem dX9_init_1061 : decode cX9_init 1061 = .ok (.putfield 65, 3) := by decide +kernel
theorem dX9_init_1064 : decode cX9_init 1064 = .ok (.aload_n 0, 1) := by decide +kernel
theorem dX9_init_1065 : decode cX9_init 1065 = .ok (.bipush 30, 2) := by decide +kernel
theorem dX9_init_1067 : decode cX9_init 1067 = .ok (.newarray .int, 2) := by decide +kernel
theorem dX9_init_1069 : decode cX9_init 1069 = .ok (.putfield 68, 3) := by decide +kernel
theorem dX9_init_1072 : decode cX9_init 1072 = .ok (.aload_n 0, 1) := by decide +kernel
theorem dX9_init_1073 : decode cX9_init 1073 = .ok (.getfield 9, 3) := by decide +kernel
theorem dX9_init_1076 : decode cX9_init 1076 = .ok (.iconst 1, 1) := by decide +kernel
theorem dX9_init_1077 : decode cX9_init 1077 = .ok (.bipush 12, 2) := by decide +kernel
theorem dX9_init_1079 : decode cX9_init 1079 = .ok (.iastore, 1) := by decide +kernel
theorem dX9_init_1080 : decode cX9_init 1080 = .ok (.aload_n 0, 1) := by decide +kernel
theorem dX9_init_1081 : decode cX9_init 1081 = .ok (.getfield 9, 3) := by decide +kernel
theorem dX9_init_1084 : decode cX9_init 1084 = .ok (.iconst 3, 1) := by decide +kernel
theorem dX9_init_1085 : decode cX9_init 1085 = .ok (.iconst 1, 1) := by decide +kernel
theorem dX9_init_1086 : decode cX9_init 1086 = .ok (.iastore, 1) := by decide +kernel
theorem dX9_init_1087 : decode cX9_init 1087 = .ok (.iconst 0, 1) := by decide +kernel
theorem dX9_init_1088 : decode cX9_init 1088 = .ok (.istore_n 1, 1) := by decide +kernel
theorem dX9_init_1089 : decode cX9_init 1089 = .ok (.iload_n 1, 1) := by decide +kernel
theorem dX9_init_1090 : decode cX9_init 1090 = .ok (.bipush 16, 2) := by decide +kernel
theorem dX9_init_1092 : decode cX9_init 1092 = .ok (.if_icmp .ge 20, 3) := by decide +kernel
theorem dX9_init_1095 : decode cX9_init 1095 = .ok (.aload_n 0, 1) := by decide +kernel
theorem dX9_init_1096 : decode cX9_init 1096 = .ok (.getfield 9, 3) := by decide +kernel
theorem dX9_init_1099 : decode cX9_init 1099 = .ok (.bipush 7, 2) := by decide +kernel
theorem dX9_init_1101 : decode cX9_init 1101 = .ok (.iload_n 1, 1) := by decide +kernel
theorem dX9_init_1102 : decode cX9_init 1102 = .ok (.iadd, 1) := by decide +kernel
theorem dX9_init_1103 : decode cX9_init 1103 = .ok (.bipush 6, 2) := by decide +kernel
theorem dX9_init_1105 : decode cX9_init 1105 = .ok (.iastore, 1) := by decide +kernel
theorem dX9_init_1106 : decode cX9_init 1106 = .ok (.iinc 1 1, 3) := by decide +kernel
theorem dX9_init_1109 : decode cX9_init 1109 = .ok (.goto (-20), 3) := by decide +kernel
theorem dX9_init_1112 : decode cX9_init 1112 = .ok (.return_, 1) := by decide +kernel
theorem dX9_in1_0 : decode cX9_in1 0 = .ok (.iload_n 0, 1) := by decide +kernel
theorem dX9_in1_1 : decode cX9_in1 1 = .ok (.iload_n 1, 1) := by decide +kernel
theorem dX9_in1_2 : decode cX9_in1 2 = .ok (.if_icmp .lt 12, 3) := by decide +kernel
theorem dX9_in1_5 : decode cX9_in1 5 = .ok (.iload_n 0, 1) := by decide +kernel
theorem dX9_in1_6 : decode cX9_in1 6 = .ok (.iload_n 2, 1) := by decide +kernel
theorem dX9_in1_7 : decode cX9_in1 7 = .ok (.if_icmp .gt 7, 3) := by decide +kernel
theorem dX9_in1_10 : decode cX9_in1 10 = .ok (.iconst 1, 1) := by decide +kernel
theorem dX9_in1_11 : decode cX9_in1 11 = .ok (.goto 4, 3) := by decide +kernel
theorem dX9_in1_14 : decode cX9_in1 14 = .ok (.iconst 0, 1) := by decide +kernel
theorem dX9_in1_15 : decode cX9_in1 15 = .ok (.ireturn, 1) := by decide +kernel
theorem dX9_held_0 : decode cX9_held 0 = .ok (.iload_n 0, 1) := by decide +kernel
theorem dX9_held_1 : decode cX9_held 1 = .ok (.ifCond .ge 7, 3) := by decide +kernel
theorem dX9_held_4 : decode cX9_held 4 = .ok (.iconst 0, 1) := by decide +kernel
theorem dX9_held_5 : decode cX9_held 5 = .ok (.goto 13, 3) := by decide +kernel
theorem dX9_held_8 : decode cX9_held 8 = .ok (.iload_n 0, 1) := by decide +kernel
theorem dX9_held_9 : decode cX9_held 9 = .ok (.iload_n 1, 1) := by decide +kernel
theorem dX9_held_10 : decode cX9_held 10 = .ok (.if_icmp .le 7, 3) := by decide +kernel
theorem dX9_held_13 : decode cX9_held 13 = .ok (.iload_n 1, 1) := by decide +kernel
theorem dX9_held_14 : decode cX9_held 14 = .ok (.goto 4, 3) := by decide +kernel
theorem dX9_held_17 : decode cX9_held 17 = .ok (.iload_n 0, 1) := by decide +kernel
theorem dX9_held_18 : decode cX9_held 18 = .ok (.ireturn, 1) := by decide +kernel
theorem dX9_layDown_0 : decode cX9_layDown 0 = .ok (.iconst 0, 1) := by decide +kernel
theorem dX9_layDown_1 : decode cX9_layDown 1 = .ok (.istore_n 1, 1) := by decide +kernel
theorem dX9_layDown_2 : decode cX9_layDown 2 = .ok (.iload_n 1, 1) := by decide +kernel
theorem dX9_layDown_3 : decode cX9_layDown 3 = .ok (.bipush 65, 2) := by decide +kernel
theorem dX9_layDown_5 : decode cX9_layDown 5 = .ok (.if_icmp .ge 21, 3) := by decide +kernel
theorem dX9_layDown_8 : decode cX9_layDown 8 = .ok (.aload_n 0, 1) := by decide +kernel
theorem dX9_layDown_9 : decode cX9_layDown 9 = .ok (.getfield 16, 3) := by decide +kernel
theorem dX9_layDown_12 : decode cX9_layDown 12 = .ok (.iload_n 1, 1) := by decide +kernel
theorem dX9_layDown_13 : decode cX9_layDown 13 = .ok (.aload_n 0, 1) := by decide +kernel
theorem dX9_layDown_14 : decode cX9_layDown 14 = .ok (.getfield 9, 3) := by decide +kernel
theorem dX9_layDown_17 : decode cX9_layDown 17 = .ok (.iload_n 1, 1) := by decide +kernel
theorem dX9_layDown_18 : decode cX9_layDown 18 = .ok (.iaload, 1) := by decide +kernel
theorem dX9_layDown_19 : decode cX9_layDown 19 = .ok (.iastore, 1) := by decide +kernel
theorem dX9_layDown_20 : decode cX9_layDown 20 = .ok (.iinc 1 1, 3) := by decide +kernel
theorem dX9_layDown_23 : decode cX9_layDown 23 = .ok (.goto (-21), 3) := by decide +kernel
theorem dX9_layDown_26 : decode cX9_layDown 26 = .ok (.return_, 1) := by decide +kernel
theorem dX9_layBack_0 : decode cX9_layBack 0 = .ok (.iconst 0, 1) := by decide +kernel
theorem dX9_layBack_1 : decode cX9_layBack 1 = .ok (.istore_n 1, 1) := by decide +kernel
theorem dX9_layBack_2 : decode cX9_layBack 2 = .ok (.iload_n 1, 1) := by decide +kernel
theorem dX9_layBack_3 : decode cX9_layBack 3 = .ok (.bipush 65, 2) := by decide +kernel
theorem dX9_layBack_5 : decode cX9_layBack 5 = .ok (.if_icmp .ge 21, 3) := by decide +kernel
theorem dX9_layBack_8 : decode cX9_layBack 8 = .ok (.aload_n 0, 1) := by decide +kernel
theorem dX9_layBack_9 : decode cX9_layBack 9 = .ok (.getfield 9, 3) := by decide +kernel
theorem dX9_layBack_12 : decode cX9_layBack 12 = .ok (.iload_n 1, 1) := by decide +kernel
theorem dX9_layBack_13 : decode cX9_layBack 13 = .ok (.aload_n 0, 1) := by decide +kernel
theorem dX9_layBack_14 : decode cX9_layBack 14 = .ok (.getfield 16, 3) := by decide +kernel
theorem dX9_layBack_17 : decode cX9_layBack 17 = .ok (.iload_n 1, 1) := by decide +kernel
theorem dX9_layBack_18 : decode cX9_layBack 18 = .ok (.iaload, 1) := by decide +kernel
theorem dX9_layBack_19 : decode cX9_layBack 19 = .ok (.iastore, 1) := by decide +kernel
theorem dX9_layBack_20 : decode cX9_layBack 20 = .ok (.iinc 1 1, 3) := by decide +kernel
theorem dX9_layBack_23 : decode cX9_layBack 23 = .ok (.goto (-21), 3) := by decide +kernel
theorem dX9_layBack_26 : decode cX9_layBack 26 = .ok (.return_, 1) := by decide +kernel
theorem dX9_get_0 : decode cX9_get 0 = .ok (.aload_n 0, 1) := by decide +kernel
theorem dX9_get_1 : decode cX9_get 1 = .ok (.getfield 9, 3) := by decide +kernel
theorem dX9_get_4 : decode cX9_get 4 = .ok (.bipush 35, 2) := by decide +kernel
theorem dX9_get_6 : decode cX9_get 6 = .ok (.iconst 5, 1) := by decide +kernel
theorem dX9_get_7 : decode cX9_get 7 = .ok (.iload_n 1, 1) := by decide +kernel
theorem dX9_get_8 : decode cX9_get 8 = .ok (.imul, 1) := by decide +kernel
theorem dX9_get_9 : decode cX9_get 9 = .ok (.iadd, 1) := by decide +kernel
theorem dX9_get_10 : decode cX9_get 10 = .ok (.iload_n 2, 1) := by decide +kernel
theorem dX9_get_11 : decode cX9_get 11 = .ok (.iadd, 1) := by decide +kernel
theorem dX9_get_12 : decode cX9_get 12 = .ok (.iaload, 1) := by decide +kernel
theorem dX9_get_13 : decode cX9_get 13 = .ok (.ireturn, 1) := by decide +kernel
theorem dX9_puts_0 : decode cX9_puts 0 = .ok (.aload_n 0, 1) := by decide +kernel
theorem dX9_puts_1 : decode cX9_puts 1 = .ok (.getfield 9, 3) := by decide +kernel
theorem dX9_puts_4 : decode cX9_puts 4 = .ok (.bipush 35, 2) := by decide +kernel
theorem dX9_puts_6 : decode cX9_puts 6 = .ok (.iconst 5, 1) := by decide +kernel
theorem dX9_puts_7 : decode cX9_puts 7 = .ok (.iload_n 1, 1) := by decide +kernel
theorem dX9_puts_8 : decode cX9_puts 8 = .ok (.imul, 1) := by decide +kernel
theorem dX9_puts_9 : decode cX9_puts 9 = .ok (.iadd, 1) := by decide +kernel
theorem dX9_puts_10 : decode cX9_puts 10 = .ok (.iload_n 2, 1) := by decide +kernel
theorem dX9_puts_11 : decode cX9_puts 11 = .ok (.iadd, 1) := by decide +kernel
theorem dX9_puts_12 : decode cX9_puts 12 = .ok (.iload_n 3, 1) := by decide +kernel
theorem dX9_puts_13 : decode cX9_puts 13 = .ok (.iastore, 1) := by decide +kernel
theorem dX9_puts_14 : decode cX9_puts 14 = .ok (.return_, 1) := by decide +kernel
theorem dX9_isShip_0 : decode cX9_isShip 0 = .ok (.iload_n 1, 1) := by decide +kernel
theorem dX9_isShip_1 : decode cX9_isShip 1 = .ok (.iconst 0, 1) := by decide +kernel
theorem dX9_isShip_2 : decode cX9_isShip 2 = .ok (.aload_n 0, 1) := by decide +kernel
theorem dX9_isShip_3 : decode cX9_isShip 3 = .ok (.getfield 9, 3) := by decide +kernel
theorem dX9_isShip_6 : decode cX9_isShip 6 = .ok (.iconst 4, 1) := by decide +kernel
theorem dX9_isShip_7 : decode cX9_isShip 7 = .ok (.iaload, 1) := by decide +kernel
theorem dX9_isShip_8 : decode cX9_isShip 8 = .ok (.iconst 1, 1) := by decide +kernel
theorem dX9_isShip_9 : decode cX9_isShip 9 = .ok (.isub, 1) := by decide +kernel
theorem dX9_isShip_10 : decode cX9_isShip 10 = .ok (.invokestatic 71, 3) := by decide +kernel
theorem dX9_isShip_13 : decode cX9_isShip 13 = .ok (.ireturn, 1) := by decide +kernel
theorem dX9_isAct_0 : decode cX9_isAct 0 = .ok (.iload_n 1, 1) := by decide +kernel
theorem dX9_isAct_1 : decode cX9_isAct 1 = .ok (.iconst 0, 1) := by decide +kernel
theorem dX9_isAct_2 : decode cX9_isAct 2 = .ok (.aload_n 0, 1) := by decide +kernel
theorem dX9_isAct_3 : decode cX9_isAct 3 = .ok (.getfield 9, 3) := by decide +kernel
theorem dX9_isAct_6 : decode cX9_isAct 6 = .ok (.iconst 4, 1) := by decide +kernel
theorem dX9_isAct_7 : decode cX9_isAct 7 = .ok (.iaload, 1) := by decide +kernel
theorem dX9_isAct_8 : decode cX9_isAct 8 = .ok (.invokestatic 71, 3) := by decide +kernel
theorem dX9_isAct_11 : decode cX9_isAct 11 = .ok (.ireturn, 1) := by decide +kernel
theorem dX9_isOver_0 : decode cX9_isOver 0 = .ok (.aload_n 0, 1) := by decide +kernel
theorem dX9_isOver_1 : decode cX9_isOver 1 = .ok (.getfield 9, 3) := by decide +kernel
theorem dX9_isOver_4 : decode cX9_isOver 4 = .ok (.iconst 0, 1) := by decide +kernel
theorem dX9_isOver_5 : decode cX9_isOver 5 = .ok (.iaload, 1) := by decide +kernel
theorem dX9_isOver_6 : decode cX9_isOver 6 = .ok (.aload_n 0, 1) := by decide +kernel
theorem dX9_isOver_7 : decode cX9_isOver 7 = .ok (.getfield 9, 3) := by decide +kernel
theorem dX9_isOver_10 : decode cX9_isOver 10 = .ok (.iconst 1, 1) := by decide +kernel
theorem dX9_isOver_11 : decode cX9_isOver 11 = .ok (.iaload, 1) := by decide +kernel
theorem dX9_isOver_12 : decode cX9_isOver 12 = .ok (.if_icmp .lt 7, 3) := by decide +kernel
theorem dX9_isOver_15 : decode cX9_isOver 15 = .ok (.iconst 1, 1) := by decide +kernel
theorem dX9_isOver_16 : decode cX9_isOver 16 = .ok (.goto 4, 3) := by decide +kernel
theorem dX9_isOver_19 : decode cX9_isOver 19 = .ok (.iconst 0, 1) := by decide +kernel
theorem dX9_isOver_20 : decode cX9_isOver 20 = .ok (.ireturn, 1) := by decide +kernel
theorem dX9_becomes_0 : decode cX9_becomes 0 = .ok (.aload_n 0, 1) := by decide +kernel
theorem dX9_becomes_1 : decode cX9_becomes 1 = .ok (.getfield 9, 3) := by decide +kernel
theorem dX9_becomes_4 : decode cX9_becomes 4 = .ok (.iload_n 1, 1) := by decide +kernel
theorem dX9_becomes_5 : decode cX9_becomes 5 = .ok (.iaload, 1) := by decide +kernel
theorem dX9_becomes_6 : decode cX9_becomes 6 = .ok (.istore_n 3, 1) := by decide +kernel
theorem dX9_becomes_7 : decode cX9_becomes 7 = .ok (.aload_n 0, 1) := by decide +kernel
theorem dX9_becomes_8 : decode cX9_becomes 8 = .ok (.getfield 9, 3) := by decide +kernel
theorem dX9_becomes_11 : decode cX9_becomes 11 = .ok (.iload_n 1, 1) := by decide +kernel
theorem dX9_becomes_12 : decode cX9_becomes 12 = .ok (.iload_n 2, 1) := by decide +kernel
theorem dX9_becomes_13 : decode cX9_becomes 13 = .ok (.iastore, 1) := by decide +kernel
theorem dX9_becomes_14 : decode cX9_becomes 14 = .ok (.iload_n 3, 1) := by decide +kernel
theorem dX9_becomes_15 : decode cX9_becomes 15 = .ok (.ireturn, 1) := by decide +kernel
theorem dX9_above_0 : decode cX9_above 0 = .ok (.iload_n 0, 1) := by decide +kernel
theorem dX9_above_1 : decode cX9_above 1 = .ok (.iconst 3, 1) := by decide +kernel
theorem dX9_above_2 : decode cX9_above 2 = .ok (.if_icmp .ne 7, 3) := by decide +kernel
theorem dX9_above_5 : decode cX9_above 5 = .ok (.iconst 2, 1) := by decide +kernel
theorem dX9_above_6 : decode cX9_above 6 = .ok (.goto 13, 3) := by decide +kernel
theorem dX9_above_9 : decode cX9_above 9 = .ok (.iload_n 0, 1) := by decide +kernel
theorem dX9_above_10 : decode cX9_above 10 = .ok (.iconst 5, 1) := by decide +kernel
theorem dX9_above_11 : decode cX9_above 11 = .ok (.if_icmp .ne 7, 3) := by decide +kernel
theorem dX9_above_14 : decode cX9_above 14 = .ok (.iconst 4, 1) := by decide +kernel
theorem dX9_above_15 : decode cX9_above 15 = .ok (.goto 4, 3) := by decide +kernel
theorem dX9_above_18 : decode cX9_above 18 = .ok (.iconst 0, 1) := by decide +kernel
theorem dX9_above_19 : decode cX9_above 19 = .ok (.ireturn, 1) := by decide +kernel
theorem dX9_isUnder_0 : decode cX9_isUnder 0 = .ok (.iload_n 0, 1) := by decide +kernel
theorem dX9_isUnder_1 : decode cX9_isUnder 1 = .ok (.istore_n 2, 1) := by decide +kernel
theorem dX9_isUnder_2 : decode cX9_isUnder 2 = .ok (.iload_n 2, 1) := by decide +kernel
theorem dX9_isUnder_3 : decode cX9_isUnder 3 = .ok (.iload_n 1, 1) := by decide +kernel
theorem dX9_isUnder_4 : decode cX9_isUnder 4 = .ok (.if_icmp .eq 15, 3) := by decide +kernel
theorem dX9_isUnder_7 : decode cX9_isUnder 7 = .ok (.iload_n 2, 1) := by decide +kernel
theorem dX9_isUnder_8 : decode cX9_isUnder 8 = .ok (.ifCond .eq 11, 3) := by decide +kernel
theorem dX9_isUnder_11 : decode cX9_isUnder 11 = .ok (.iload_n 2, 1) := by decide +kernel
theorem dX9_isUnder_12 : decode cX9_isUnder 12 = .ok (.invokestatic 75, 3) := by decide +kernel
theorem dX9_isUnder_15 : decode cX9_isUnder 15 = .ok (.istore_n 2, 1) := by decide +kernel
theorem dX9_isUnder_16 : decode cX9_isUnder 16 = .ok (.goto (-14), 3) := by decide +kernel
theorem dX9_isUnder_19 : decode cX9_isUnder 19 = .ok (.iload_n 2, 1) := by decide +kernel
theorem dX9_isUnder_20 : decode cX9_isUnder 20 = .ok (.iload_n 1, 1) := by decide +kernel
theorem dX9_isUnder_21 : decode cX9_isUnder 21 = .ok (.if_icmp .ne 7, 3) := by decide +kernel
theorem dX9_isUnder_24 : decode cX9_isUnder 24 = .ok (.iconst 1, 1) := by decide +kernel
theorem dX9_isUnder_25 : decode cX9_isUnder 25 = .ok (.goto 4, 3) := by decide +kernel
theorem dX9_isUnder_28 : decode cX9_isUnder 28 = .ok (.iconst 0, 1) := by decide +kernel
theorem dX9_isUnder_29 : decode cX9_isUnder 29 = .ok (.ireturn, 1) := by decide +kernel
theorem dX9_nearsBy_0 : decode cX9_nearsBy 0 = .ok (.iload_n 0, 1) := by decide +kernel
theorem dX9_nearsBy_1 : decode cX9_nearsBy 1 = .ok (.tableswitch 67 1 5 #[35, 39, 43, 49, 53], 35) := by decide +kernel
theorem dX9_nearsBy_36 : decode cX9_nearsBy 36 = .ok (.iload_n 1, 1) := by decide +kernel
theorem dX9_nearsBy_37 : decode cX9_nearsBy 37 = .ok (.iload_n 2, 1) := by decide +kernel
theorem dX9_nearsBy_38 : decode cX9_nearsBy 38 = .ok (.imul, 1) := by decide +kernel
theorem dX9_nearsBy_39 : decode cX9_nearsBy 39 = .ok (.ireturn, 1) := by decide +kernel
theorem dX9_nearsBy_40 : decode cX9_nearsBy 40 = .ok (.iconst 2, 1) := by decide +kernel
theorem dX9_nearsBy_41 : decode cX9_nearsBy 41 = .ok (.iload_n 1, 1) := by decide +kernel
theorem dX9_nearsBy_42 : decode cX9_nearsBy 42 = .ok (.imul, 1) := by decide +kernel
theorem dX9_nearsBy_43 : decode cX9_nearsBy 43 = .ok (.ireturn, 1) := by decide +kernel
theorem dX9_nearsBy_44 : decode cX9_nearsBy 44 = .ok (.iconst 2, 1) := by decide +kernel
theorem dX9_nearsBy_45 : decode cX9_nearsBy 45 = .ok (.iload_n 1, 1) := by decide +kernel
theorem dX9_nearsBy_46 : decode cX9_nearsBy 46 = .ok (.imul, 1) := by decide +kernel
theorem dX9_nearsBy_47 : decode cX9_nearsBy 47 = .ok (.iload_n 2, 1) := by decide +kernel
theorem dX9_nearsBy_48 : decode cX9_nearsBy 48 = .ok (.iadd, 1) := by decide +kernel
theorem dX9_nearsBy_49 : decode cX9_nearsBy 49 = .ok (.ireturn, 1) := by decide +kernel
theorem dX9_nearsBy_50 : decode cX9_nearsBy 50 = .ok (.iconst 3, 1) := by decide +kernel
theorem dX9_nearsBy_51 : decode cX9_nearsBy 51 = .ok (.iload_n 2, 1) := by decide +kernel
theorem dX9_nearsBy_52 : decode cX9_nearsBy 52 = .ok (.iadd, 1) := by decide +kernel
theorem dX9_nearsBy_53 : decode cX9_nearsBy 53 = .ok (.ireturn, 1) := by decide +kernel
theorem dX9_nearsBy_54 : decode cX9_nearsBy 54 = .ok (.iload_n 3, 1) := by decide +kernel
theorem dX9_nearsBy_55 : decode cX9_nearsBy 55 = .ok (.iconst 3, 1) := by decide +kernel
theorem dX9_nearsBy_56 : decode cX9_nearsBy 56 = .ok (.irem, 1) := by decide +kernel
theorem dX9_nearsBy_57 : decode cX9_nearsBy 57 = .ok (.ifCond .ne 7, 3) := by decide +kernel
theorem dX9_nearsBy_60 : decode cX9_nearsBy 60 = .ok (.iconst 0, 1) := by decide +kernel
theorem dX9_nearsBy_61 : decode cX9_nearsBy 61 = .ok (.goto 6, 3) := by decide +kernel
theorem dX9_nearsBy_64 : decode cX9_nearsBy 64 = .ok (.iconst 3, 1) := by decide +kernel
theorem dX9_nearsBy_65 : decode cX9_nearsBy 65 = .ok (.iload_n 2, 1) := by decide +kernel
theorem dX9_nearsBy_66 : decode cX9_nearsBy 66 = .ok (.iadd, 1) := by decide +kernel
theorem dX9_nearsBy_67 : decode cX9_nearsBy 67 = .ok (.ireturn, 1) := by decide +kernel
theorem dX9_nearsBy_68 : decode cX9_nearsBy 68 = .ok (.iconst 2, 1) := by decide +kernel
theorem dX9_nearsBy_69 : decode cX9_nearsBy 69 = .ok (.iload_n 1, 1) := by decide +kernel
theorem dX9_nearsBy_70 : decode cX9_nearsBy 70 = .ok (.iadd, 1) := by decide +kernel
theorem dX9_nearsBy_71 : decode cX9_nearsBy 71 = .ok (.ireturn, 1) := by decide +kernel
theorem dX9_reachesBy_0 : decode cX9_reachesBy 0 = .ok (.bipush 10, 2) := by decide +kernel
theorem dX9_reachesBy_2 : decode cX9_reachesBy 2 = .ok (.iconst 2, 1) := by decide +kernel
theorem dX9_reachesBy_3 : decode cX9_reachesBy 3 = .ok (.iload_n 1, 1) := by decide +kernel
theorem dX9_reachesBy_4 : decode cX9_reachesBy 4 = .ok (.imul, 1) := by decide +kernel
theorem dX9_reachesBy_5 : decode cX9_reachesBy 5 = .ok (.iadd, 1) := by decide +kernel
theorem dX9_reachesBy_6 : decode cX9_reachesBy 6 = .ok (.istore_n 3, 1) := by decide +kernel
theorem dX9_reachesBy_7 : decode cX9_reachesBy 7 = .ok (.iload_n 3, 1) := by decide +kernel
theorem dX9_reachesBy_8 : decode cX9_reachesBy 8 = .ok (.iconst 5, 1) := by decide +kernel
theorem dX9_reachesBy_9 : decode cX9_reachesBy 9 = .ok (.iadd, 1) := by decide +kernel
theorem dX9_reachesBy_10 : decode cX9_reachesBy 10 = .ok (.iconst 3, 1) := by decide +kernel
theorem dX9_reachesBy_11 : decode cX9_reachesBy 11 = .ok (.iload_n 2, 1) := by decide +kernel
theorem dX9_reachesBy_12 : decode cX9_reachesBy 12 = .ok (.imul, 1) := by decide +kernel
theorem dX9_reachesBy_13 : decode cX9_reachesBy 13 = .ok (.isub, 1) := by decide +kernel
theorem dX9_reachesBy_14 : decode cX9_reachesBy 14 = .ok (.istore 4, 2) := by decide +kernel
theorem dX9_reachesBy_16 : decode cX9_reachesBy 16 = .ok (.iload_n 0, 1) := by decide +kernel
theorem dX9_reachesBy_17 : decode cX9_reachesBy 17 = .ok (.tableswitch 68 1 5 #[35, 38, 42, 54, 60], 35) := by decide +kernel
theorem dX9_reachesBy_52 : decode cX9_reachesBy 52 = .ok (.bipush 20, 2) := by decide +kernel
theorem dX9_reachesBy_54 : decode cX9_reachesBy 54 = .ok (.ireturn, 1) := by decide +kernel
theorem dX9_reachesBy_55 : decode cX9_reachesBy 55 = .ok (.iload_n 3, 1) := by decide +kernel
theorem dX9_reachesBy_56 : decode cX9_reachesBy 56 = .ok (.iconst 5, 1) := by decide +kernel
theorem dX9_reachesBy_57 : decode cX9_reachesBy 57 = .ok (.iadd, 1) := by decide +kernel
theorem dX9_reachesBy_58 : decode cX9_reachesBy 58 = .ok (.ireturn, 1) := by decide +kernel
theorem dX9_reachesBy_59 : decode cX9_reachesBy 59 = .ok (.iload 4, 2) := by decide +kernel
theorem dX9_reachesBy_61 : decode cX9_reachesBy 61 = .ok (.ifCond .le 8, 3) := by decide +kernel
theorem dX9_reachesBy_64 : decode cX9_reachesBy 64 = .ok (.iload 4, 2) := by decide +kernel
theorem dX9_reachesBy_66 : decode cX9_reachesBy 66 = .ok (.goto 4, 3) := by decide +kernel
theorem dX9_reachesBy_69 : decode cX9_reachesBy 69 = .ok (.iconst 0, 1) := by decide +kernel
theorem dX9_reachesBy_70 : decode cX9_reachesBy 70 = .ok (.ireturn, 1) := by decide +kernel
theorem dX9_reachesBy_71 : decode cX9_reachesBy 71 = .ok (.iload_n 3, 1) := by decide +kernel
theorem dX9_reachesBy_72 : decode cX9_reachesBy 72 = .ok (.iconst 3, 1) := by decide +kernel
theorem dX9_reachesBy_73 : decode cX9_reachesBy 73 = .ok (.iload_n 2, 1) := by decide +kernel
theorem dX9_reachesBy_74 : decode cX9_reachesBy 74 = .ok (.imul, 1) := by decide +kernel
theorem dX9_reachesBy_75 : decode cX9_reachesBy 75 = .ok (.iadd, 1) := by decide +kernel
theorem dX9_reachesBy_76 : decode cX9_reachesBy 76 = .ok (.ireturn, 1) := by decide +kernel
theorem dX9_reachesBy_77 : decode cX9_reachesBy 77 = .ok (.iload_n 3, 1) := by decide +kernel
theorem dX9_reachesBy_78 : decode cX9_reachesBy 78 = .ok (.iconst 3, 1) := by decide +kernel
theorem dX9_reachesBy_79 : decode cX9_reachesBy 79 = .ok (.iload_n 2, 1) := by decide +kernel
theorem dX9_reachesBy_80 : decode cX9_reachesBy 80 = .ok (.imul, 1) := by decide +kernel
theorem dX9_reachesBy_81 : decode cX9_reachesBy 81 = .ok (.iadd, 1) := by decide +kernel
theorem dX9_reachesBy_82 : decode cX9_reachesBy 82 = .ok (.iconst 2, 1) := by decide +kernel
theorem dX9_reachesBy_83 : decode cX9_reachesBy 83 = .ok (.idiv, 1) := by decide +kernel
theorem dX9_reachesBy_84 : decode cX9_reachesBy 84 = .ok (.ireturn, 1) := by decide +kernel
theorem dX9_reachesBy_85 : decode cX9_reachesBy 85 = .ok (.iload_n 3, 1) := by decide +kernel
theorem dX9_reachesBy_86 : decode cX9_reachesBy 86 = .ok (.ireturn, 1) := by decide +kernel
theorem dX9_lightNow_0 : decode cX9_lightNow 0 = .ok (.aload_n 0, 1) := by decide +kernel
theorem dX9_lightNow_1 : decode cX9_lightNow 1 = .ok (.getfield 9, 3) := by decide +kernel
theorem dX9_lightNow_4 : decode cX9_lightNow 4 = .ok (.iconst 0, 1) := by decide +kernel
theorem dX9_lightNow_5 : decode cX9_lightNow 5 = .ok (.iaload, 1) := by decide +kernel
theorem dX9_lightNow_6 : decode cX9_lightNow 6 = .ok (.bipush 16, 2) := by decide +kernel
theorem dX9_lightNow_8 : decode cX9_lightNow 8 = .ok (.if_icmp .ge 20, 3) := by decide +kernel
theorem dX9_lightNow_11 : decode cX9_lightNow 11 = .ok (.aload_n 0, 1) := by decide +kernel
theorem dX9_lightNow_12 : decode cX9_lightNow 12 = .ok (.getfield 9, 3) := by decide +kernel
theorem dX9_lightNow_15 : decode cX9_lightNow 15 = .ok (.bipush 7, 2) := by decide +kernel
theorem dX9_lightNow_17 : decode cX9_lightNow 17 = .ok (.aload_n 0, 1) := by decide +kernel
theorem dX9_lightNow_18 : decode cX9_lightNow 18 = .ok (.getfield 9, 3) := by decide +kernel
theorem dX9_lightNow_21 : decode cX9_lightNow 21 = .ok (.iconst 0, 1) := by decide +kernel
theorem dX9_lightNow_22 : decode cX9_lightNow 22 = .ok (.iaload, 1) := by decide +kernel
theorem dX9_lightNow_23 : decode cX9_lightNow 23 = .ok (.iadd, 1) := by decide +kernel
theorem dX9_lightNow_24 : decode cX9_lightNow 24 = .ok (.iaload, 1) := by decide +kernel
theorem dX9_lightNow_25 : decode cX9_lightNow 25 = .ok (.goto 4, 3) := by decide +kernel
theorem dX9_lightNow_28 : decode cX9_lightNow 28 = .ok (.iconst 0, 1) := by decide +kernel
theorem dX9_lightNow_29 : decode cX9_lightNow 29 = .ok (.ireturn, 1) := by decide +kernel
theorem dX9_nearsOf_0 : decode cX9_nearsOf 0 = .ok (.aload_n 0, 1) := by decide +kernel
theorem dX9_nearsOf_1 : decode cX9_nearsOf 1 = .ok (.iload_n 1, 1) := by decide +kernel
theorem dX9_nearsOf_2 : decode cX9_nearsOf 2 = .ok (.iconst 0, 1) := by decide +kernel
theorem dX9_nearsOf_3 : decode cX9_nearsOf 3 = .ok (.invokevirtual 79, 3) := by decide +kernel
theorem dX9_nearsOf_6 : decode cX9_nearsOf 6 = .ok (.aload_n 0, 1) := by decide +kernel
theorem dX9_nearsOf_7 : decode cX9_nearsOf 7 = .ok (.invokevirtual 83, 3) := by decide +kernel
theorem dX9_nearsOf_10 : decode cX9_nearsOf 10 = .ok (.iconst 4, 1) := by decide +kernel
theorem dX9_nearsOf_11 : decode cX9_nearsOf 11 = .ok (.idiv, 1) := by decide +kernel
theorem dX9_nearsOf_12 : decode cX9_nearsOf 12 = .ok (.aload_n 0, 1) := by decide +kernel
theorem dX9_nearsOf_13 : decode cX9_nearsOf 13 = .ok (.invokevirtual 83, 3) := by decide +kernel
theorem dX9_nearsOf_16 : decode cX9_nearsOf 16 = .ok (.iconst 4, 1) := by decide +kernel
theorem dX9_nearsOf_17 : decode cX9_nearsOf 17 = .ok (.irem, 1) := by decide +kernel
theorem dX9_nearsOf_18 : decode cX9_nearsOf 18 = .ok (.aload_n 0, 1) := by decide +kernel
theorem dX9_nearsOf_19 : decode cX9_nearsOf 19 = .ok (.getfield 9, 3) := by decide +kernel
theorem dX9_nearsOf_22 : decode cX9_nearsOf 22 = .ok (.iconst 0, 1) := by decide +kernel
theorem dX9_nearsOf_23 : decode cX9_nearsOf 23 = .ok (.iaload, 1) := by decide +kernel
theorem dX9_nearsOf_24 : decode cX9_nearsOf 24 = .ok (.invokestatic 87, 3) := by decide +kernel
theorem dX9_nearsOf_27 : decode cX9_nearsOf 27 = .ok (.aload_n 0, 1) := by decide +kernel
theorem dX9_nearsOf_28 : decode cX9_nearsOf 28 = .ok (.getfield 9, 3) := by decide +kernel
theorem dX9_nearsOf_31 : decode cX9_nearsOf 31 = .ok (.bipush 23, 2) := by decide +kernel
theorem dX9_nearsOf_33 : decode cX9_nearsOf 33 = .ok (.aload_n 0, 1) := by decide +kernel
theorem dX9_nearsOf_34 : decode cX9_nearsOf 34 = .ok (.iload_n 1, 1) := by decide +kernel
theorem dX9_nearsOf_35 : decode cX9_nearsOf 35 = .ok (.iconst 3, 1) := by decide +kernel
theorem dX9_nearsOf_36 : decode cX9_nearsOf 36 = .ok (.invokevirtual 79, 3) := by decide +kernel
theorem dX9_nearsOf_39 : decode cX9_nearsOf 39 = .ok (.iadd, 1) := by decide +kernel
theorem dX9_nearsOf_40 : decode cX9_nearsOf 40 = .ok (.iaload, 1) := by decide +kernel
theorem dX9_nearsOf_41 : decode cX9_nearsOf 41 = .ok (.iadd, 1) := by decide +kernel
theorem dX9_nearsOf_42 : decode cX9_nearsOf 42 = .ok (.istore_n 2, 1) := by decide +kernel
theorem dX9_nearsOf_43 : decode cX9_nearsOf 43 = .ok (.iconst 0, 1) := by decide +kernel
theorem dX9_nearsOf_44 : decode cX9_nearsOf 44 = .ok (.istore_n 3, 1) := by decide +kernel
theorem dX9_nearsOf_45 : decode cX9_nearsOf 45 = .ok (.iload_n 3, 1) := by decide +kernel
theorem dX9_nearsOf_46 : decode cX9_nearsOf 46 = .ok (.aload_n 0, 1) := by decide +kernel
theorem dX9_nearsOf_47 : decode cX9_nearsOf 47 = .ok (.getfield 9, 3) := by decide +kernel
theorem dX9_nearsOf_50 : decode cX9_nearsOf 50 = .ok (.iconst 4, 1) := by decide +kernel
theorem dX9_nearsOf_51 : decode cX9_nearsOf 51 = .ok (.iaload, 1) := by decide +kernel
theorem dX9_nearsOf_52 : decode cX9_nearsOf 52 = .ok (.if_icmp .ge 46, 3) := by decide +kernel
theorem dX9_nearsOf_55 : decode cX9_nearsOf 55 = .ok (.iload_n 2, 1) := by decide +kernel
theorem dX9_nearsOf_56 : decode cX9_nearsOf 56 = .ok (.iload_n 3, 1) := by decide +kernel
theorem dX9_nearsOf_57 : decode cX9_nearsOf 57 = .ok (.iload_n 1, 1) := by decide +kernel
theorem dX9_nearsOf_58 : decode cX9_nearsOf 58 = .ok (.if_icmp .eq 31, 3) := by decide +kernel
theorem dX9_nearsOf_61 : decode cX9_nearsOf 61 = .ok (.aload_n 0, 1) := by decide +kernel
theorem dX9_nearsOf_62 : decode cX9_nearsOf 62 = .ok (.iload_n 3, 1) := by decide +kernel
theorem dX9_nearsOf_63 : decode cX9_nearsOf 63 = .ok (.iconst 4, 1) := by decide +kernel
theorem dX9_nearsOf_64 : decode cX9_nearsOf 64 = .ok (.invokevirtual 79, 3) := by decide +kernel
theorem dX9_nearsOf_67 : decode cX9_nearsOf 67 = .ok (.ifCond .ne 22, 3) := by decide +kernel
theorem dX9_nearsOf_70 : decode cX9_nearsOf 70 = .ok (.aload_n 0, 1) := by decide +kernel
theorem dX9_nearsOf_71 : decode cX9_nearsOf 71 = .ok (.iload_n 3, 1) := by decide +kernel
theorem dX9_nearsOf_72 : decode cX9_nearsOf 72 = .ok (.iconst 3, 1) := by decide +kernel
theorem dX9_nearsOf_73 : decode cX9_nearsOf 73 = .ok (.invokevirtual 79, 3) := by decide +kernel
theorem dX9_nearsOf_76 : decode cX9_nearsOf 76 = .ok (.aload_n 0, 1) := by decide +kernel
theorem dX9_nearsOf_77 : decode cX9_nearsOf 77 = .ok (.iload_n 1, 1) := by decide +kernel
theorem dX9_nearsOf_78 : decode cX9_nearsOf 78 = .ok (.iconst 3, 1) := by decide +kernel
theorem dX9_nearsOf_79 : decode cX9_nearsOf 79 = .ok (.invokevirtual 79, 3) := by decide +kernel
theorem dX9_nearsOf_82 : decode cX9_nearsOf 82 = .ok (.if_icmp .ne 7, 3) := by decide +kernel
theorem dX9_nearsOf_85 : decode cX9_nearsOf 85 = .ok (.iconst 1, 1) := by decide +kernel
theorem dX9_nearsOf_86 : decode cX9_nearsOf 86 = .ok (.goto 4, 3) := by decide +kernel
theorem dX9_nearsOf_89 : decode cX9_nearsOf 89 = .ok (.iconst 0, 1) := by decide +kernel
theorem dX9_nearsOf_90 : decode cX9_nearsOf 90 = .ok (.isub, 1) := by decide +kernel
theorem dX9_nearsOf_91 : decode cX9_nearsOf 91 = .ok (.istore_n 2, 1) := by decide +kernel
theorem dX9_nearsOf_92 : decode cX9_nearsOf 92 = .ok (.iinc 3 1, 3) := by decide +kernel
theorem dX9_nearsOf_95 : decode cX9_nearsOf 95 = .ok (.goto (-50), 3) := by decide +kernel
theorem dX9_nearsOf_98 : decode cX9_nearsOf 98 = .ok (.iload_n 2, 1) := by decide +kernel
theorem dX9_nearsOf_99 : decode cX9_nearsOf 99 = .ok (.ifCond .ge 7, 3) := by decide +kernel
theorem dX9_nearsOf_102 : decode cX9_nearsOf 102 = .ok (.iconst 0, 1) := by decide +kernel
theorem dX9_nearsOf_103 : decode cX9_nearsOf 103 = .ok (.goto 4, 3) := by decide +kernel
theorem dX9_nearsOf_106 : decode cX9_nearsOf 106 = .ok (.iload_n 2, 1) := by decide +kernel
theorem dX9_nearsOf_107 : decode cX9_nearsOf 107 = .ok (.ireturn, 1) := by decide +kernel
theorem dX9_reachesWith_0 : decode cX9_reachesWith 0 = .ok (.aload_n 0, 1) := by decide +kernel
theorem dX9_reachesWith_1 : decode cX9_reachesWith 1 = .ok (.iload_n 1, 1) := by decide +kernel
theorem dX9_reachesWith_2 : decode cX9_reachesWith 2 = .ok (.iconst 0, 1) := by decide +kernel
theorem dX9_reachesWith_3 : decode cX9_reachesWith 3 = .ok (.invokevirtual 79, 3) := by decide +kernel
theorem dX9_reachesWith_6 : decode cX9_reachesWith 6 = .ok (.iload_n 2, 1) := by decide +kernel
theorem dX9_reachesWith_7 : decode cX9_reachesWith 7 = .ok (.aload_n 0, 1) := by decide +kernel
theorem dX9_reachesWith_8 : decode cX9_reachesWith 8 = .ok (.invokevirtual 83, 3) := by decide +kernel
theorem dX9_reachesWith_11 : decode cX9_reachesWith 11 = .ok (.iconst 4, 1) := by decide +kernel
theorem dX9_reachesWith_12 : decode cX9_reachesWith 12 = .ok (.idiv, 1) := by decide +kernel
theorem dX9_reachesWith_13 : decode cX9_reachesWith 13 = .ok (.invokestatic 91, 3) := by decide +kernel
theorem dX9_reachesWith_16 : decode cX9_reachesWith 16 = .ok (.aload_n 0, 1) := by decide +kernel
theorem dX9_reachesWith_17 : decode cX9_reachesWith 17 = .ok (.getfield 9, 3) := by decide +kernel
theorem dX9_reachesWith_20 : decode cX9_reachesWith 20 = .ok (.bipush 29, 2) := by decide +kernel
theorem dX9_reachesWith_22 : decode cX9_reachesWith 22 = .ok (.aload_n 0, 1) := by decide +kernel
theorem dX9_reachesWith_23 : decode cX9_reachesWith 23 = .ok (.iload_n 1, 1) := by decide +kernel
theorem dX9_reachesWith_24 : decode cX9_reachesWith 24 = .ok (.iconst 3, 1) := by decide +kernel
theorem dX9_reachesWith_25 : decode cX9_reachesWith 25 = .ok (.invokevirtual 79, 3) := by decide +kernel
theorem dX9_reachesWith_28 : decode cX9_reachesWith 28 = .ok (.iadd, 1) := by decide +kernel
theorem dX9_reachesWith_29 : decode cX9_reachesWith 29 = .ok (.iaload, 1) := by decide +kernel
theorem dX9_reachesWith_30 : decode cX9_reachesWith 30 = .ok (.iadd, 1) := by decide +kernel
theorem dX9_reachesWith_31 : decode cX9_reachesWith 31 = .ok (.ireturn, 1) := by decide +kernel
theorem dX9_isReachedWith_0 : decode cX9_isReachedWith 0 = .ok (.aload_n 0, 1) := by decide +kernel
theorem dX9_isReachedWith_1 : decode cX9_isReachedWith 1 = .ok (.iload_n 1, 1) := by decide +kernel
theorem dX9_isReachedWith_2 : decode cX9_isReachedWith 2 = .ok (.iconst 4, 1) := by decide +kernel
theorem dX9_isReachedWith_3 : decode cX9_isReachedWith 3 = .ok (.invokevirtual 79, 3) := by decide +kernel
theorem dX9_isReachedWith_6 : decode cX9_isReachedWith 6 = .ok (.ifCond .ne 31, 3) := by decide +kernel
theorem dX9_isReachedWith_9 : decode cX9_isReachedWith 9 = .ok (.aload_n 0, 1) := by decide +kernel
theorem dX9_isReachedWith_10 : decode cX9_isReachedWith 10 = .ok (.iload_n 1, 1) := by decide +kernel
theorem dX9_isReachedWith_11 : decode cX9_isReachedWith 11 = .ok (.iconst 1, 1) := by decide +kernel
theorem dX9_isReachedWith_12 : decode cX9_isReachedWith 12 = .ok (.invokevirtual 79, 3) := by decide +kernel
theorem dX9_isReachedWith_15 : decode cX9_isReachedWith 15 = .ok (.ifCond .le 22, 3) := by decide +kernel
theorem dX9_isReachedWith_18 : decode cX9_isReachedWith 18 = .ok (.aload_n 0, 1) := by decide +kernel
theorem dX9_isReachedWith_19 : decode cX9_isReachedWith 19 = .ok (.iload_n 1, 1) := by decide +kernel
theorem dX9_isReachedWith_20 : decode cX9_isReachedWith 20 = .ok (.iconst 1, 1) := by decide +kernel
theorem dX9_isReachedWith_21 : decode cX9_isReachedWith 21 = .ok (.invokevirtual 79, 3) := by decide +kernel
theorem dX9_isReachedWith_24 : decode cX9_isReachedWith 24 = .ok (.aload_n 0, 1) := by decide +kernel
theorem dX9_isReachedWith_25 : decode cX9_isReachedWith 25 = .ok (.iload_n 1, 1) := by decide +kernel
theorem dX9_isReachedWith_26 : decode cX9_isReachedWith 26 = .ok (.iload_n 2, 1) := by decide +kernel
theorem dX9_isReachedWith_27 : decode cX9_isReachedWith 27 = .ok (.invokevirtual 95, 3) := by decide +kernel
theorem dX9_isReachedWith_30 : decode cX9_isReachedWith 30 = .ok (.if_icmp .gt 7, 3) := by decide +kernel
theorem dX9_isReachedWith_33 : decode cX9_isReachedWith 33 = .ok (.iconst 1, 1) := by decide +kernel
theorem dX9_isReachedWith_34 : decode cX9_isReachedWith 34 = .ok (.goto 4, 3) := by decide +kernel
theorem dX9_isReachedWith_37 : decode cX9_isReachedWith 37 = .ok (.iconst 0, 1) := by decide +kernel
theorem dX9_isReachedWith_38 : decode cX9_isReachedWith 38 = .ok (.ireturn, 1) := by decide +kernel
theorem dX9_paysOf_0 : decode cX9_paysOf 0 = .ok (.aload_n 0, 1) := by decide +kernel
theorem dX9_paysOf_1 : decode cX9_paysOf 1 = .ok (.iload_n 1, 1) := by decide +kernel
theorem dX9_paysOf_2 : decode cX9_paysOf 2 = .ok (.aload_n 0, 1) := by decide +kernel
theorem dX9_paysOf_3 : decode cX9_paysOf 3 = .ok (.iload_n 1, 1) := by decide +kernel
theorem dX9_paysOf_4 : decode cX9_paysOf 4 = .ok (.iconst 2, 1) := by decide +kernel
theorem dX9_paysOf_5 : decode cX9_paysOf 5 = .ok (.invokevirtual 79, 3) := by decide +kernel
theorem dX9_paysOf_8 : decode cX9_paysOf 8 = .ok (.invokevirtual 98, 3) := by decide +kernel
theorem dX9_paysOf_11 : decode cX9_paysOf 11 = .ok (.ifCond .eq 15, 3) := by decide +kernel
theorem dX9_paysOf_14 : decode cX9_paysOf 14 = .ok (.bipush 6, 2) := by decide +kernel
theorem dX9_paysOf_16 : decode cX9_paysOf 16 = .ok (.aload_n 0, 1) := by decide +kernel
theorem dX9_paysOf_17 : decode cX9_paysOf 17 = .ok (.iload_n 1, 1) := by decide +kernel
theorem dX9_paysOf_18 : decode cX9_paysOf 18 = .ok (.iconst 2, 1) := by decide +kernel
theorem dX9_paysOf_19 : decode cX9_paysOf 19 = .ok (.invokevirtual 79, 3) := by decide +kernel
theorem dX9_paysOf_22 : decode cX9_paysOf 22 = .ok (.iadd, 1) := by decide +kernel
theorem dX9_paysOf_23 : decode cX9_paysOf 23 = .ok (.goto 4, 3) := by decide +kernel
theorem dX9_paysOf_26 : decode cX9_paysOf 26 = .ok (.iconst 0, 1) := by decide +kernel
theorem dX9_paysOf_27 : decode cX9_paysOf 27 = .ok (.ireturn, 1) := by decide +kernel
theorem dX9_mayEnter_0 : decode cX9_mayEnter 0 = .ok (.aload_n 0, 1) := by decide +kernel
theorem dX9_mayEnter_1 : decode cX9_mayEnter 1 = .ok (.iload_n 1, 1) := by decide +kernel
theorem dX9_mayEnter_2 : decode cX9_mayEnter 2 = .ok (.invokevirtual 102, 3) := by decide +kernel
theorem dX9_mayEnter_5 : decode cX9_mayEnter 5 = .ok (.ifCond .ne 15, 3) := by decide +kernel
theorem dX9_mayEnter_8 : decode cX9_mayEnter 8 = .ok (.aload_n 0, 1) := by decide +kernel
theorem dX9_mayEnter_9 : decode cX9_mayEnter 9 = .ok (.iload_n 1, 1) := by decide +kernel
theorem dX9_mayEnter_10 : decode cX9_mayEnter 10 = .ok (.invokevirtual 105, 3) := by decide +kernel
theorem dX9_mayEnter_13 : decode cX9_mayEnter 13 = .ok (.ifCond .le 7, 3) := by decide +kernel
theorem dX9_mayEnter_16 : decode cX9_mayEnter 16 = .ok (.iconst 1, 1) := by decide +kernel
theorem dX9_mayEnter_17 : decode cX9_mayEnter 17 = .ok (.goto 4, 3) := by decide +kernel
theorem dX9_mayEnter_20 : decode cX9_mayEnter 20 = .ok (.iconst 0, 1) := by decide +kernel
theorem dX9_mayEnter_21 : decode cX9_mayEnter 21 = .ok (.ireturn, 1) := by decide +kernel
theorem dX9_apart_0 : decode cX9_apart 0 = .ok (.iload_n 0, 1) := by decide +kernel
theorem dX9_apart_1 : decode cX9_apart 1 = .ok (.iload_n 1, 1) := by decide +kernel
theorem dX9_apart_2 : decode cX9_apart 2 = .ok (.if_icmp .ge 9, 3) := by decide +kernel
theorem dX9_apart_5 : decode cX9_apart 5 = .ok (.iload_n 1, 1) := by decide +kernel
theorem dX9_apart_6 : decode cX9_apart 6 = .ok (.iload_n 0, 1) := by decide +kernel
theorem dX9_apart_7 : decode cX9_apart 7 = .ok (.isub, 1) := by decide +kernel
theorem dX9_apart_8 : decode cX9_apart 8 = .ok (.goto 6, 3) := by decide +kernel
theorem dX9_apart_11 : decode cX9_apart 11 = .ok (.iload_n 0, 1) := by decide +kernel
theorem dX9_apart_12 : decode cX9_apart 12 = .ok (.iload_n 1, 1) := by decide +kernel
theorem dX9_apart_13 : decode cX9_apart 13 = .ok (.isub, 1) := by decide +kernel
theorem dX9_apart_14 : decode cX9_apart 14 = .ok (.ireturn, 1) := by decide +kernel
theorem dX9_isOnRock_0 : decode cX9_isOnRock 0 = .ok (.aload_n 0, 1) := by decide +kernel
theorem dX9_isOnRock_1 : decode cX9_isOnRock 1 = .ok (.iload_n 1, 1) := by decide +kernel
theorem dX9_isOnRock_2 : decode cX9_isOnRock 2 = .ok (.iconst 4, 1) := by decide +kernel
theorem dX9_isOnRock_3 : decode cX9_isOnRock 3 = .ok (.invokevirtual 79, 3) := by decide +kernel
theorem dX9_isOnRock_6 : decode cX9_isOnRock 6 = .ok (.ifCond .ne 16, 3) := by decide +kernel
theorem dX9_isOnRock_9 : decode cX9_isOnRock 9 = .ok (.aload_n 0, 1) := by decide +kernel
theorem dX9_isOnRock_10 : decode cX9_isOnRock 10 = .ok (.iload_n 1, 1) := by decide +kernel
theorem dX9_isOnRock_11 : decode cX9_isOnRock 11 = .ok (.iconst 1, 1) := by decide +kernel
theorem dX9_isOnRock_12 : decode cX9_isOnRock 12 = .ok (.invokevirtual 79, 3) := by decide +kernel
theorem dX9_isOnRock_15 : decode cX9_isOnRock 15 = .ok (.ifCond .ne 7, 3) := by decide +kernel
theorem dX9_isOnRock_18 : decode cX9_isOnRock 18 = .ok (.iconst 1, 1) := by decide +kernel
theorem dX9_isOnRock_19 : decode cX9_isOnRock 19 = .ok (.goto 4, 3) := by decide +kernel
theorem dX9_isOnRock_22 : decode cX9_isOnRock 22 = .ok (.iconst 0, 1) := by decide +kernel
theorem dX9_isOnRock_23 : decode cX9_isOnRock 23 = .ok (.ireturn, 1) := by decide +kernel
theorem dX9_onRock_0 : decode cX9_onRock 0 = .ok (.iconst 0, 1) := by decide +kernel
theorem dX9_onRock_1 : decode cX9_onRock 1 = .ok (.istore_n 1, 1) := by decide +kernel
theorem dX9_onRock_2 : decode cX9_onRock 2 = .ok (.iconst 0, 1) := by decide +kernel
theorem dX9_onRock_3 : decode cX9_onRock 3 = .ok (.istore_n 2, 1) := by decide +kernel
theorem dX9_onRock_4 : decode cX9_onRock 4 = .ok (.iload_n 2, 1) := by decide +kernel
theorem dX9_onRock_5 : decode cX9_onRock 5 = .ok (.aload_n 0, 1) := by decide +kernel
theorem dX9_onRock_6 : decode cX9_onRock 6 = .ok (.getfield 9, 3) := by decide +kernel
theorem dX9_onRock_9 : decode cX9_onRock 9 = .ok (.iconst 4, 1) := by decide +kernel
theorem dX9_onRock_10 : decode cX9_onRock 10 = .ok (.iaload, 1) := by decide +kernel
theorem dX9_onRock_11 : decode cX9_onRock 11 = .ok (.if_icmp .ge 25, 3) := by decide +kernel
theorem dX9_onRock_14 : decode cX9_onRock 14 = .ok (.iload_n 1, 1) := by decide +kernel
theorem dX9_onRock_15 : decode cX9_onRock 15 = .ok (.aload_n 0, 1) := by decide +kernel
theorem dX9_onRock_16 : decode cX9_onRock 16 = .ok (.iload_n 2, 1) := by decide +kernel
theorem dX9_onRock_17 : decode cX9_onRock 17 = .ok (.invokevirtual 108, 3) := by decide +kernel
theorem dX9_onRock_20 : decode cX9_onRock 20 = .ok (.ifCond .eq 7, 3) := by decide +kernel
theorem dX9_onRock_23 : decode cX9_onRock 23 = .ok (.iconst 1, 1) := by decide +kernel
theorem dX9_onRock_24 : decode cX9_onRock 24 = .ok (.goto 4, 3) := by decide +kernel
theorem dX9_onRock_27 : decode cX9_onRock 27 = .ok (.iconst 0, 1) := by decide +kernel
theorem dX9_onRock_28 : decode cX9_onRock 28 = .ok (.iadd, 1) := by decide +kernel
theorem dX9_onRock_29 : decode cX9_onRock 29 = .ok (.istore_n 1, 1) := by decide +kernel
theorem dX9_onRock_30 : decode cX9_onRock 30 = .ok (.iinc 2 1, 3) := by decide +kernel
theorem dX9_onRock_33 : decode cX9_onRock 33 = .ok (.goto (-29), 3) := by decide +kernel
theorem dX9_onRock_36 : decode cX9_onRock 36 = .ok (.iload_n 1, 1) := by decide +kernel
theorem dX9_onRock_37 : decode cX9_onRock 37 = .ok (.ireturn, 1) := by decide +kernel
theorem dX9_knownOf_0 : decode cX9_knownOf 0 = .ok (.iload_n 1, 1) := by decide +kernel
theorem dX9_knownOf_1 : decode cX9_knownOf 1 = .ok (.ifCond .ne 12, 3) := by decide +kernel
theorem dX9_knownOf_4 : decode cX9_knownOf 4 = .ok (.aload_n 0, 1) := by decide +kernel
theorem dX9_knownOf_5 : decode cX9_knownOf 5 = .ok (.getfield 9, 3) := by decide +kernel
theorem dX9_knownOf_8 : decode cX9_knownOf 8 = .ok (.iconst 0, 1) := by decide +kernel
theorem dX9_knownOf_9 : decode cX9_knownOf 9 = .ok (.iaload, 1) := by decide +kernel
theorem dX9_knownOf_10 : decode cX9_knownOf 10 = .ok (.goto 46, 3) := by decide +kernel
theorem dX9_knownOf_13 : decode cX9_knownOf 13 = .ok (.iload_n 1, 1) := by decide +kernel
theorem dX9_knownOf_14 : decode cX9_knownOf 14 = .ok (.iconst 1, 1) := by decide +kernel
theorem dX9_knownOf_15 : decode cX9_knownOf 15 = .ok (.if_icmp .ne 12, 3) := by decide +kernel
theorem dX9_knownOf_18 : decode cX9_knownOf 18 = .ok (.aload_n 0, 1) := by decide +kernel
theorem dX9_knownOf_19 : decode cX9_knownOf 19 = .ok (.iload_n 2, 1) := by decide +kernel
theorem dX9_knownOf_20 : decode cX9_knownOf 20 = .ok (.iconst 1, 1) := by decide +kernel
theorem dX9_knownOf_21 : decode cX9_knownOf 21 = .ok (.invokevirtual 79, 3) := by decide +kernel
theorem dX9_knownOf_24 : decode cX9_knownOf 24 = .ok (.goto 32, 3) := by decide +kernel
theorem dX9_knownOf_27 : decode cX9_knownOf 27 = .ok (.iload_n 1, 1) := by decide +kernel
theorem dX9_knownOf_28 : decode cX9_knownOf 28 = .ok (.iconst 2, 1) := by decide +kernel
theorem dX9_knownOf_29 : decode cX9_knownOf 29 = .ok (.if_icmp .ne 12, 3) := by decide +kernel
theorem dX9_knownOf_32 : decode cX9_knownOf 32 = .ok (.aload_n 0, 1) := by decide +kernel
theorem dX9_knownOf_33 : decode cX9_knownOf 33 = .ok (.iload_n 2, 1) := by decide +kernel
theorem dX9_knownOf_34 : decode cX9_knownOf 34 = .ok (.iconst 2, 1) := by decide +kernel
theorem dX9_knownOf_35 : decode cX9_knownOf 35 = .ok (.invokevirtual 79, 3) := by decide +kernel
theorem dX9_knownOf_38 : decode cX9_knownOf 38 = .ok (.goto 18, 3) := by decide +kernel
theorem dX9_knownOf_41 : decode cX9_knownOf 41 = .ok (.iload_n 1, 1) := by decide +kernel
theorem dX9_knownOf_42 : decode cX9_knownOf 42 = .ok (.iconst 3, 1) := by decide +kernel
theorem dX9_knownOf_43 : decode cX9_knownOf 43 = .ok (.if_icmp .ne 12, 3) := by decide +kernel
theorem dX9_knownOf_46 : decode cX9_knownOf 46 = .ok (.aload_n 0, 1) := by decide +kernel
theorem dX9_knownOf_47 : decode cX9_knownOf 47 = .ok (.invokevirtual 83, 3) := by decide +kernel
theorem dX9_knownOf_50 : decode cX9_knownOf 50 = .ok (.iconst 4, 1) := by decide +kernel
theorem dX9_knownOf_51 : decode cX9_knownOf 51 = .ok (.idiv, 1) := by decide +kernel
theorem dX9_knownOf_52 : decode cX9_knownOf 52 = .ok (.goto 4, 3) := by decide +kernel
theorem dX9_knownOf_55 : decode cX9_knownOf 55 = .ok (.iload_n 2, 1) := by decide +kernel
theorem dX9_knownOf_56 : decode cX9_knownOf 56 = .ok (.ireturn, 1) := by decide +kernel
theorem dX9_joined_0 : decode cX9_joined 0 = .ok (.iload_n 0, 1) := by decide +kernel
theorem dX9_joined_1 : decode cX9_joined 1 = .ok (.tableswitch 78 10010 10013 #[31, 42, 53, 64], 31) := by decide +kernel
theorem dX9_joined_32 : decode cX9_joined 32 = .ok (.iload_n 1, 1) := by decide +kernel
theorem dX9_joined_33 : decode cX9_joined 33 = .ok (.iload_n 2, 1) := by decide +kernel
theorem dX9_joined_34 : decode cX9_joined 34 = .ok (.if_icmp .ge 7, 3) := by decide +kernel
theorem dX9_joined_37 : decode cX9_joined 37 = .ok (.iconst 1, 1) := by decide +kernel
theorem dX9_joined_38 : decode cX9_joined 38 = .ok (.goto 4, 3) := by decide +kernel
theorem dX9_joined_41 : decode cX9_joined 41 = .ok (.iconst 0, 1) := by decide +kernel
theorem dX9_joined_42 : decode cX9_joined 42 = .ok (.ireturn, 1) := by decide +kernel
theorem dX9_joined_43 : decode cX9_joined 43 = .ok (.iload_n 1, 1) := by decide +kernel
theorem dX9_joined_44 : decode cX9_joined 44 = .ok (.iload_n 2, 1) := by decide +kernel
theorem dX9_joined_45 : decode cX9_joined 45 = .ok (.if_icmp .ne 7, 3) := by decide +kernel
theorem dX9_joined_48 : decode cX9_joined 48 = .ok (.iconst 1, 1) := by decide +kernel
theorem dX9_joined_49 : decode cX9_joined 49 = .ok (.goto 4, 3) := by decide +kernel
theorem dX9_joined_52 : decode cX9_joined 52 = .ok (.iconst 0, 1) := by decide +kernel
theorem dX9_joined_53 : decode cX9_joined 53 = .ok (.ireturn, 1) := by decide +kernel
theorem dX9_joined_54 : decode cX9_joined 54 = .ok (.iload_n 1, 1) := by decide +kernel
theorem dX9_joined_55 : decode cX9_joined 55 = .ok (.iload_n 2, 1) := by decide +kernel
theorem dX9_joined_56 : decode cX9_joined 56 = .ok (.if_icmp .le 7, 3) := by decide +kernel
theorem dX9_joined_59 : decode cX9_joined 59 = .ok (.iconst 1, 1) := by decide +kernel
theorem dX9_joined_60 : decode cX9_joined 60 = .ok (.goto 4, 3) := by decide +kernel
theorem dX9_joined_63 : decode cX9_joined 63 = .ok (.iconst 0, 1) := by decide +kernel
theorem dX9_joined_64 : decode cX9_joined 64 = .ok (.ireturn, 1) := by decide +kernel
theorem dX9_joined_65 : decode cX9_joined 65 = .ok (.iload_n 1, 1) := by decide +kernel
theorem dX9_joined_66 : decode cX9_joined 66 = .ok (.ifCond .eq 11, 3) := by decide +kernel
theorem dX9_joined_69 : decode cX9_joined 69 = .ok (.iload_n 2, 1) := by decide +kernel
theorem dX9_joined_70 : decode cX9_joined 70 = .ok (.ifCond .eq 7, 3) := by decide +kernel
theorem dX9_joined_73 : decode cX9_joined 73 = .ok (.iconst 1, 1) := by decide +kernel
theorem dX9_joined_74 : decode cX9_joined 74 = .ok (.goto 4, 3) := by decide +kernel
theorem dX9_joined_77 : decode cX9_joined 77 = .ok (.iconst 0, 1) := by decide +kernel
theorem dX9_joined_78 : decode cX9_joined 78 = .ok (.ireturn, 1) := by decide +kernel
theorem dX9_joined_79 : decode cX9_joined 79 = .ok (.iload_n 1, 1) := by decide +kernel
theorem dX9_joined_80 : decode cX9_joined 80 = .ok (.ifCond .ne 7, 3) := by decide +kernel
theorem dX9_joined_83 : decode cX9_joined 83 = .ok (.iload_n 2, 1) := by decide +kernel
theorem dX9_joined_84 : decode cX9_joined 84 = .ok (.ifCond .eq 7, 3) := by decide +kernel
theorem dX9_joined_87 : decode cX9_joined 87 = .ok (.iconst 1, 1) := by decide +kernel
theorem dX9_joined_88 : decode cX9_joined 88 = .ok (.goto 4, 3) := by decide +kernel
theorem dX9_joined_91 : decode cX9_joined 91 = .ok (.iconst 0, 1) := by decide +kernel
theorem dX9_joined_92 : decode cX9_joined 92 = .ok (.ireturn, 1) := by decide +kernel
theorem dX9_ruleOf_0 : decode cX9_ruleOf 0 = .ok (.aload_n 0, 1) := by decide +kernel
theorem dX9_ruleOf_1 : decode cX9_ruleOf 1 = .ok (.getfield 9, 3) := by decide +kernel
theorem dX9_ruleOf_4 : decode cX9_ruleOf 4 = .ok (.bipush 89, 2) := by decide +kernel
theorem dX9_ruleOf_6 : decode cX9_ruleOf 6 = .ok (.iconst 3, 1) := by decide +kernel
theorem dX9_ruleOf_7 : decode cX9_ruleOf 7 = .ok (.iload_n 1, 1) := by decide +kernel
theorem dX9_ruleOf_8 : decode cX9_ruleOf 8 = .ok (.imul, 1) := by decide +kernel
theorem dX9_ruleOf_9 : decode cX9_ruleOf 9 = .ok (.iadd, 1) := by decide +kernel
theorem dX9_ruleOf_10 : decode cX9_ruleOf 10 = .ok (.iload_n 2, 1) := by decide +kernel
theorem dX9_ruleOf_11 : decode cX9_ruleOf 11 = .ok (.iadd, 1) := by decide +kernel
theorem dX9_ruleOf_12 : decode cX9_ruleOf 12 = .ok (.iaload, 1) := by decide +kernel
theorem dX9_ruleOf_13 : decode cX9_ruleOf 13 = .ok (.ireturn, 1) := by decide +kernel
theorem dX9_holdsFor_0 : decode cX9_holdsFor 0 = .ok (.iconst 0, 1) := by decide +kernel
theorem dX9_holdsFor_1 : decode cX9_holdsFor 1 = .ok (.istore_n 3, 1) := by decide +kernel
theorem dX9_holdsFor_2 : decode cX9_holdsFor 2 = .ok (.iload_n 1, 1) := by decide +kernel
theorem dX9_holdsFor_3 : decode cX9_holdsFor 3 = .ok (.ifCond .ne 7, 3) := by decide +kernel
theorem dX9_holdsFor_6 : decode cX9_holdsFor 6 = .ok (.iconst 0, 1) := by decide +kernel
theorem dX9_holdsFor_7 : decode cX9_holdsFor 7 = .ok (.goto 11, 3) := by decide +kernel
theorem dX9_holdsFor_10 : decode cX9_holdsFor 10 = .ok (.aload_n 0, 1) := by decide +kernel
theorem dX9_holdsFor_11 : decode cX9_holdsFor 11 = .ok (.iload_n 1, 1) := by decide +kernel
theorem dX9_holdsFor_12 : decode cX9_holdsFor 12 = .ok (.iconst 1, 1) := by decide +kernel
theorem dX9_holdsFor_13 : decode cX9_holdsFor 13 = .ok (.isub, 1) := by decide +kernel
theorem dX9_holdsFor_14 : decode cX9_holdsFor 14 = .ok (.iconst 2, 1) := by decide +kernel
theorem dX9_holdsFor_15 : decode cX9_holdsFor 15 = .ok (.invokevirtual 112, 3) := by decide +kernel
theorem dX9_holdsFor_18 : decode cX9_holdsFor 18 = .ok (.istore 4, 2) := by decide +kernel
theorem dX9_holdsFor_20 : decode cX9_holdsFor 20 = .ok (.iload 4, 2) := by decide +kernel
theorem dX9_holdsFor_22 : decode cX9_holdsFor 22 = .ok (.aload_n 0, 1) := by decide +kernel
theorem dX9_holdsFor_23 : decode cX9_holdsFor 23 = .ok (.iload_n 1, 1) := by decide +kernel
theorem dX9_holdsFor_24 : decode cX9_holdsFor 24 = .ok (.iconst 2, 1) := by decide +kernel
theorem dX9_holdsFor_25 : decode cX9_holdsFor 25 = .ok (.invokevirtual 112, 3) := by decide +kernel
theorem dX9_holdsFor_28 : decode cX9_holdsFor 28 = .ok (.if_icmp .ge 124, 3) := by decide +kernel
theorem dX9_holdsFor_31 : decode cX9_holdsFor 31 = .ok (.aload_n 0, 1) := by decide +kernel
theorem dX9_holdsFor_32 : decode cX9_holdsFor 32 = .ok (.getfield 9, 3) := by decide +kernel
theorem dX9_holdsFor_35 : decode cX9_holdsFor 35 = .ok (.bipush 113, 2) := by decide +kernel
theorem dX9_holdsFor_37 : decode cX9_holdsFor 37 = .ok (.iload 4, 2) := by decide +kernel
theorem dX9_holdsFor_39 : decode cX9_holdsFor 39 = .ok (.iadd, 1) := by decide +kernel
theorem dX9_holdsFor_40 : decode cX9_holdsFor 40 = .ok (.iaload, 1) := by decide +kernel
theorem dX9_holdsFor_41 : decode cX9_holdsFor 41 = .ok (.istore 5, 2) := by decide +kernel
theorem dX9_holdsFor_43 : decode cX9_holdsFor 43 = .ok (.iload 5, 2) := by decide +kernel
theorem dX9_holdsFor_45 : decode cX9_holdsFor 45 = .ok (.sipush 10010, 3) := by decide +kernel
theorem dX9_holdsFor_48 : decode cX9_holdsFor 48 = .ok (.if_icmp .ge 39, 3) := by decide +kernel
theorem dX9_holdsFor_51 : decode cX9_holdsFor 51 = .ok (.aload_n 0, 1) := by decide +kernel
theorem dX9_holdsFor_52 : decode cX9_holdsFor 52 = .ok (.getfield 19, 3) := by decide +kernel
theorem dX9_holdsFor_55 : decode cX9_holdsFor 55 = .ok (.iload_n 3, 1) := by decide +kernel
theorem dX9_holdsFor_56 : decode cX9_holdsFor 56 = .ok (.iload 5, 2) := by decide +kernel
theorem dX9_holdsFor_58 : decode cX9_holdsFor 58 = .ok (.sipush 10000, 3) := by decide +kernel
theorem dX9_holdsFor_61 : decode cX9_holdsFor 61 = .ok (.if_icmp .ge 8, 3) := by decide +kernel
theorem dX9_holdsFor_64 : decode cX9_holdsFor 64 = .ok (.iload 5, 2) := by decide +kernel
theorem dX9_holdsFor_66 : decode cX9_holdsFor 66 = .ok (.goto 14, 3) := by decide +kernel
theorem dX9_holdsFor_69 : decode cX9_holdsFor 69 = .ok (.aload_n 0, 1) := by decide +kernel
theorem dX9_holdsFor_70 : decode cX9_holdsFor 70 = .ok (.iload 5, 2) := by decide +kernel
theorem dX9_holdsFor_72 : decode cX9_holdsFor 72 = .ok (.sipush 10000, 3) := by decide +kernel
theorem dX9_holdsFor_75 : decode cX9_holdsFor 75 = .ok (.isub, 1) := by decide +kernel
theorem dX9_holdsFor_76 : decode cX9_holdsFor 76 = .ok (.iload_n 2, 1) := by decide +kernel
theorem dX9_holdsFor_77 : decode cX9_holdsFor 77 = .ok (.invokevirtual 115, 3) := by decide +kernel
theorem dX9_holdsFor_80 : decode cX9_holdsFor 80 = .ok (.iastore, 1) := by decide +kernel
theorem dX9_holdsFor_81 : decode cX9_holdsFor 81 = .ok (.iinc 3 1, 3) := by decide +kernel
theorem dX9_holdsFor_84 : decode cX9_holdsFor 84 = .ok (.goto 62, 3) := by decide +kernel
theorem dX9_holdsFor_87 : decode cX9_holdsFor 87 = .ok (.iload 5, 2) := by decide +kernel
theorem dX9_holdsFor_89 : decode cX9_holdsFor 89 = .ok (.sipush 10015, 3) := by decide +kernel
theorem dX9_holdsFor_92 : decode cX9_holdsFor 92 = .ok (.if_icmp .ne 24, 3) := by decide +kernel
theorem dX9_holdsFor_95 : decode cX9_holdsFor 95 = .ok (.aload_n 0, 1) := by decide +kernel
theorem dX9_holdsFor_96 : decode cX9_holdsFor 96 = .ok (.getfield 19, 3) := by decide +kernel
theorem dX9_holdsFor_99 : decode cX9_holdsFor 99 = .ok (.iload_n 3, 1) := by decide +kernel
theorem dX9_holdsFor_100 : decode cX9_holdsFor 100 = .ok (.iconst 1, 1) := by decide +kernel
theorem dX9_holdsFor_101 : decode cX9_holdsFor 101 = .ok (.isub, 1) := by decide +kernel
theorem dX9_holdsFor_102 : decode cX9_holdsFor 102 = .ok (.iconst 1, 1) := by decide +kernel
theorem dX9_holdsFor_103 : decode cX9_holdsFor 103 = .ok (.aload_n 0, 1) := by decide +kernel
theorem dX9_holdsFor_104 : decode cX9_holdsFor 104 = .ok (.getfield 19, 3) := by decide +kernel
theorem dX9_holdsFor_107 : decode cX9_holdsFor 107 = .ok (.iload_n 3, 1) := by decide +kernel
theorem dX9_holdsFor_108 : decode cX9_holdsFor 108 = .ok (.iconst 1, 1) := by decide +kernel
theorem dX9_holdsFor_109 : decode cX9_holdsFor 109 = .ok (.isub, 1) := by decide +kernel
theorem dX9_holdsFor_110 : decode cX9_holdsFor 110 = .ok (.iaload, 1) := by decide +kernel
theorem dX9_holdsFor_111 : decode cX9_holdsFor 111 = .ok (.isub, 1) := by decide +kernel
theorem dX9_holdsFor_112 : decode cX9_holdsFor 112 = .ok (.iastore, 1) := by decide +kernel
theorem dX9_holdsFor_113 : decode cX9_holdsFor 113 = .ok (.goto 33, 3) := by decide +kernel
theorem dX9_holdsFor_116 : decode cX9_holdsFor 116 = .ok (.iinc 3 (-1), 3) := by decide +kernel
theorem dX9_holdsFor_119 : decode cX9_holdsFor 119 = .ok (.aload_n 0, 1) := by decide +kernel
theorem dX9_holdsFor_120 : decode cX9_holdsFor 120 = .ok (.getfield 19, 3) := by decide +kernel
theorem dX9_holdsFor_123 : decode cX9_holdsFor 123 = .ok (.iload_n 3, 1) := by decide +kernel
theorem dX9_holdsFor_124 : decode cX9_holdsFor 124 = .ok (.iconst 1, 1) := by decide +kernel
theorem dX9_holdsFor_125 : decode cX9_holdsFor 125 = .ok (.isub, 1) := by decide +kernel
theorem dX9_holdsFor_126 : decode cX9_holdsFor 126 = .ok (.iload 5, 2) := by decide +kernel
theorem dX9_holdsFor_128 : decode cX9_holdsFor 128 = .ok (.aload_n 0, 1) := by decide +kernel
theorem dX9_holdsFor_129 : decode cX9_holdsFor 129 = .ok (.getfield 19, 3) := by decide +kernel
theorem dX9_holdsFor_132 : decode cX9_holdsFor 132 = .ok (.iload_n 3, 1) := by decide +kernel
theorem dX9_holdsFor_133 : decode cX9_holdsFor 133 = .ok (.iconst 1, 1) := by decide +kernel
theorem dX9_holdsFor_134 : decode cX9_holdsFor 134 = .ok (.isub, 1) := by decide +kernel
theorem dX9_holdsFor_135 : decode cX9_holdsFor 135 = .ok (.iaload, 1) := by decide +kernel
theorem dX9_holdsFor_136 : decode cX9_holdsFor 136 = .ok (.aload_n 0, 1) := by decide +kernel
theorem dX9_holdsFor_137 : decode cX9_holdsFor 137 = .ok (.getfield 19, 3) := by decide +kernel
theorem dX9_holdsFor_140 : decode cX9_holdsFor 140 = .ok (.iload_n 3, 1) := by decide +kernel
theorem dX9_holdsFor_141 : decode cX9_holdsFor 141 = .ok (.iaload, 1) := by decide +kernel
theorem dX9_holdsFor_142 : decode cX9_holdsFor 142 = .ok (.invokestatic 118, 3) := by decide +kernel
theorem dX9_holdsFor_145 : decode cX9_holdsFor 145 = .ok (.iastore, 1) := by decide +kernel
theorem dX9_holdsFor_146 : decode cX9_holdsFor 146 = .ok (.iinc 4 1, 3) := by decide +kernel
theorem dX9_holdsFor_149 : decode cX9_holdsFor 149 = .ok (.goto (-129), 3) := by decide +kernel
theorem dX9_holdsFor_152 : decode cX9_holdsFor 152 = .ok (.iload_n 3, 1) := by decide +kernel
theorem dX9_holdsFor_153 : decode cX9_holdsFor 153 = .ok (.ifCond .eq 12, 3) := by decide +kernel
theorem dX9_holdsFor_156 : decode cX9_holdsFor 156 = .ok (.aload_n 0, 1) := by decide +kernel
theorem dX9_holdsFor_157 : decode cX9_holdsFor 157 = .ok (.getfield 19, 3) := by decide +kernel
theorem dX9_holdsFor_160 : decode cX9_holdsFor 160 = .ok (.iconst 0, 1) := by decide +kernel
theorem dX9_holdsFor_161 : decode cX9_holdsFor 161 = .ok (.iaload, 1) := by decide +kernel
theorem dX9_holdsFor_162 : decode cX9_holdsFor 162 = .ok (.ifCond .eq 7, 3) := by decide +kernel
theorem dX9_holdsFor_165 : decode cX9_holdsFor 165 = .ok (.iconst 1, 1) := by decide +kernel
theorem dX9_holdsFor_166 : decode cX9_holdsFor 166 = .ok (.goto 4, 3) := by decide +kernel
theorem dX9_holdsFor_169 : decode cX9_holdsFor 169 = .ok (.iconst 0, 1) := by decide +kernel
theorem dX9_holdsFor_170 : decode cX9_holdsFor 170 = .ok (.ireturn, 1) := by decide +kernel
theorem dX9_willOf_0 : decode cX9_willOf 0 = .ok (.iconst 0, 1) := by decide +kernel
theorem dX9_willOf_1 : decode cX9_willOf 1 = .ok (.istore_n 2, 1) := by decide +kernel
theorem dX9_willOf_2 : decode cX9_willOf 2 = .ok (.iload_n 2, 1) := by decide +kernel
theorem dX9_willOf_3 : decode cX9_willOf 3 = .ok (.aload_n 0, 1) := by decide +kernel
theorem dX9_willOf_4 : decode cX9_willOf 4 = .ok (.getfield 9, 3) := by decide +kernel
theorem dX9_willOf_7 : decode cX9_willOf 7 = .ok (.iconst 5, 1) := by decide +kernel
theorem dX9_willOf_8 : decode cX9_willOf 8 = .ok (.iaload, 1) := by decide +kernel
theorem dX9_willOf_9 : decode cX9_willOf 9 = .ok (.if_icmp .ge 43, 3) := by decide +kernel
theorem dX9_willOf_12 : decode cX9_willOf 12 = .ok (.aload_n 0, 1) := by decide +kernel
theorem dX9_willOf_13 : decode cX9_willOf 13 = .ok (.iload_n 1, 1) := by decide +kernel
theorem dX9_willOf_14 : decode cX9_willOf 14 = .ok (.iconst 0, 1) := by decide +kernel
theorem dX9_willOf_15 : decode cX9_willOf 15 = .ok (.invokevirtual 79, 3) := by decide +kernel
theorem dX9_willOf_18 : decode cX9_willOf 18 = .ok (.aload_n 0, 1) := by decide +kernel
theorem dX9_willOf_19 : decode cX9_willOf 19 = .ok (.iload_n 2, 1) := by decide +kernel
theorem dX9_willOf_20 : decode cX9_willOf 20 = .ok (.iconst 0, 1) := by decide +kernel
theorem dX9_willOf_21 : decode cX9_willOf 21 = .ok (.invokevirtual 112, 3) := by decide +kernel
theorem dX9_willOf_24 : decode cX9_willOf 24 = .ok (.invokestatic 121, 3) := by decide +kernel
theorem dX9_willOf_27 : decode cX9_willOf 27 = .ok (.ifCond .eq 19, 3) := by decide +kernel
theorem dX9_willOf_30 : decode cX9_willOf 30 = .ok (.aload_n 0, 1) := by decide +kernel
theorem dX9_willOf_31 : decode cX9_willOf 31 = .ok (.iload_n 2, 1) := by decide +kernel
theorem dX9_willOf_32 : decode cX9_willOf 32 = .ok (.iload_n 1, 1) := by decide +kernel
theorem dX9_willOf_33 : decode cX9_willOf 33 = .ok (.invokevirtual 124, 3) := by decide +kernel
theorem dX9_willOf_36 : decode cX9_willOf 36 = .ok (.ifCond .eq 10, 3) := by decide +kernel
theorem dX9_willOf_39 : decode cX9_willOf 39 = .ok (.aload_n 0, 1) := by decide +kernel
theorem dX9_willOf_40 : decode cX9_willOf 40 = .ok (.iload_n 2, 1) := by decide +kernel
theorem dX9_willOf_41 : decode cX9_willOf 41 = .ok (.iconst 1, 1) := by decide +kernel
theorem dX9_willOf_42 : decode cX9_willOf 42 = .ok (.invokevirtual 112, 3) := by decide +kernel
theorem dX9_willOf_45 : decode cX9_willOf 45 = .ok (.ireturn, 1) := by decide +kernel
theorem dX9_willOf_46 : decode cX9_willOf 46 = .ok (.iinc 2 1, 3) := by decide +kernel
theorem dX9_willOf_49 : decode cX9_willOf 49 = .ok (.goto (-47), 3) := by decide +kernel
theorem dX9_willOf_52 : decode cX9_willOf 52 = .ok (.iconst 0, 1) := by decide +kernel
theorem dX9_willOf_53 : decode cX9_willOf 53 = .ok (.ireturn, 1) := by decide +kernel
theorem dX9_byteAt_0 : decode cX9_byteAt 0 = .ok (.iload_n 1, 1) := by decide +kernel
theorem dX9_byteAt_1 : decode cX9_byteAt 1 = .ok (.aload_n 0, 1) := by decide +kernel
theorem dX9_byteAt_2 : decode cX9_byteAt 2 = .ok (.getfield 127, 3) := by decide +kernel
theorem dX9_byteAt_5 : decode cX9_byteAt 5 = .ok (.if_icmp .ge 12, 3) := by decide +kernel
theorem dX9_byteAt_8 : decode cX9_byteAt 8 = .ok (.aload_n 0, 1) := by decide +kernel
theorem dX9_byteAt_9 : decode cX9_byteAt 9 = .ok (.getfield 22, 3) := by decide +kernel
theorem dX9_byteAt_12 : decode cX9_byteAt 12 = .ok (.iload_n 1, 1) := by decide +kernel
theorem dX9_byteAt_13 : decode cX9_byteAt 13 = .ok (.iaload, 1) := by decide +kernel
theorem dX9_byteAt_14 : decode cX9_byteAt 14 = .ok (.goto 4, 3) := by decide +kernel
theorem dX9_byteAt_17 : decode cX9_byteAt 17 = .ok (.iconst (-1), 1) := by decide +kernel
theorem dX9_byteAt_18 : decode cX9_byteAt 18 = .ok (.ireturn, 1) := by decide +kernel
theorem dX9_isNameOf_0 : decode cX9_isNameOf 0 = .ok (.aload_n 0, 1) := by decide +kernel
theorem dX9_isNameOf_1 : decode cX9_isNameOf 1 = .ok (.getfield 131, 3) := by decide +kernel
theorem dX9_isNameOf_4 : decode cX9_isNameOf 4 = .ok (.aload_n 0, 1) := by decide +kernel
theorem dX9_isNameOf_5 : decode cX9_isNameOf 5 = .ok (.getfield 134, 3) := by decide +kernel
theorem dX9_isNameOf_8 : decode cX9_isNameOf 8 = .ok (.isub, 1) := by decide +kernel
theorem dX9_isNameOf_9 : decode cX9_isNameOf 9 = .ok (.bipush 8, 2) := by decide +kernel
theorem dX9_isNameOf_11 : decode cX9_isNameOf 11 = .ok (.if_icmp .gt 7, 3) := by decide +kernel
theorem dX9_isNameOf_14 : decode cX9_isNameOf 14 = .ok (.iconst 1, 1) := by decide +kernel
theorem dX9_isNameOf_15 : decode cX9_isNameOf 15 = .ok (.goto 4, 3) := by decide +kernel
theorem dX9_isNameOf_18 : decode cX9_isNameOf 18 = .ok (.iconst 0, 1) := by decide +kernel
theorem dX9_isNameOf_19 : decode cX9_isNameOf 19 = .ok (.istore_n 2, 1) := by decide +kernel
theorem dX9_isNameOf_20 : decode cX9_isNameOf 20 = .ok (.iconst 0, 1) := by decide +kernel
theorem dX9_isNameOf_21 : decode cX9_isNameOf 21 = .ok (.istore_n 3, 1) := by decide +kernel
theorem dX9_isNameOf_22 : decode cX9_isNameOf 22 = .ok (.iload_n 3, 1) := by decide +kernel
theorem dX9_isNameOf_23 : decode cX9_isNameOf 23 = .ok (.bipush 8, 2) := by decide +kernel
theorem dX9_isNameOf_25 : decode cX9_isNameOf 25 = .ok (.if_icmp .ge 61, 3) := by decide +kernel
theorem dX9_isNameOf_28 : decode cX9_isNameOf 28 = .ok (.iload_n 2, 1) := by decide +kernel
theorem dX9_isNameOf_29 : decode cX9_isNameOf 29 = .ok (.ifCond .eq 57, 3) := by decide +kernel
theorem dX9_isNameOf_32 : decode cX9_isNameOf 32 = .ok (.aload_n 0, 1) := by decide +kernel
theorem dX9_isNameOf_33 : decode cX9_isNameOf 33 = .ok (.getfield 25, 3) := by decide +kernel
theorem dX9_isNameOf_36 : decode cX9_isNameOf 36 = .ok (.bipush 8, 2) := by decide +kernel
theorem dX9_isNameOf_38 : decode cX9_isNameOf 38 = .ok (.iload_n 1, 1) := by decide +kernel
theorem dX9_isNameOf_39 : decode cX9_isNameOf 39 = .ok (.imul, 1) := by decide +kernel
theorem dX9_isNameOf_40 : decode cX9_isNameOf 40 = .ok (.iload_n 3, 1) := by decide +kernel
theorem dX9_isNameOf_41 : decode cX9_isNameOf 41 = .ok (.iadd, 1) := by decide +kernel
theorem dX9_isNameOf_42 : decode cX9_isNameOf 42 = .ok (.caload, 1) := by decide +kernel
theorem dX9_isNameOf_43 : decode cX9_isNameOf 43 = .ok (.aload_n 0, 1) := by decide +kernel
theorem dX9_isNameOf_44 : decode cX9_isNameOf 44 = .ok (.getfield 134, 3) := by decide +kernel
theorem dX9_isNameOf_47 : decode cX9_isNameOf 47 = .ok (.iload_n 3, 1) := by decide +kernel
theorem dX9_isNameOf_48 : decode cX9_isNameOf 48 = .ok (.iadd, 1) := by decide +kernel
theorem dX9_isNameOf_49 : decode cX9_isNameOf 49 = .ok (.aload_n 0, 1) := by decide +kernel
theorem dX9_isNameOf_50 : decode cX9_isNameOf 50 = .ok (.getfield 131, 3) := by decide +kernel
theorem dX9_isNameOf_53 : decode cX9_isNameOf 53 = .ok (.if_icmp .ge 16, 3) := by decide +kernel
theorem dX9_isNameOf_56 : decode cX9_isNameOf 56 = .ok (.aload_n 0, 1) := by decide +kernel
theorem dX9_isNameOf_57 : decode cX9_isNameOf 57 = .ok (.aload_n 0, 1) := by decide +kernel
theorem dX9_isNameOf_58 : decode cX9_isNameOf 58 = .ok (.getfield 134, 3) := by decide +kernel
theorem dX9_isNameOf_61 : decode cX9_isNameOf 61 = .ok (.iload_n 3, 1) := by decide +kernel
theorem dX9_isNameOf_62 : decode cX9_isNameOf 62 = .ok (.iadd, 1) := by decide +kernel
theorem dX9_isNameOf_63 : decode cX9_isNameOf 63 = .ok (.invokevirtual 137, 3) := by decide +kernel
theorem dX9_isNameOf_66 : decode cX9_isNameOf 66 = .ok (.goto 5, 3) := by decide +kernel
theorem dX9_isNameOf_69 : decode cX9_isNameOf 69 = .ok (.bipush 32, 2) := by decide +kernel
theorem dX9_isNameOf_71 : decode cX9_isNameOf 71 = .ok (.if_icmp .ne 7, 3) := by decide +kernel
theorem dX9_isNameOf_74 : decode cX9_isNameOf 74 = .ok (.iconst 1, 1) := by decide +kernel
theorem dX9_isNameOf_75 : decode cX9_isNameOf 75 = .ok (.goto 4, 3) := by decide +kernel
theorem dX9_isNameOf_78 : decode cX9_isNameOf 78 = .ok (.iconst 0, 1) := by decide +kernel
theorem dX9_isNameOf_79 : decode cX9_isNameOf 79 = .ok (.istore_n 2, 1) := by decide +kernel
theorem dX9_isNameOf_80 : decode cX9_isNameOf 80 = .ok (.iinc 3 1, 3) := by decide +kernel
theorem dX9_isNameOf_83 : decode cX9_isNameOf 83 = .ok (.goto (-61), 3) := by decide +kernel
theorem dX9_isNameOf_86 : decode cX9_isNameOf 86 = .ok (.iload_n 2, 1) := by decide +kernel
theorem dX9_isNameOf_87 : decode cX9_isNameOf 87 = .ok (.ireturn, 1) := by decide +kernel
theorem dX9_readsName_0 : decode cX9_readsName 0 = .ok (.aload_n 0, 1) := by decide +kernel
theorem dX9_readsName_1 : decode cX9_readsName 1 = .ok (.aload_n 0, 1) := by decide +kernel
theorem dX9_readsName_2 : decode cX9_readsName 2 = .ok (.getfield 131, 3) := by decide +kernel
theorem dX9_readsName_5 : decode cX9_readsName 5 = .ok (.invokevirtual 137, 3) := by decide +kernel
theorem dX9_readsName_8 : decode cX9_readsName 8 = .ok (.bipush 97, 2) := by decide +kernel
theorem dX9_readsName_10 : decode cX9_readsName 10 = .ok (.bipush 122, 2) := by decide +kernel
theorem dX9_readsName_12 : decode cX9_readsName 12 = .ok (.invokestatic 71, 3) := by decide +kernel
theorem dX9_readsName_15 : decode cX9_readsName 15 = .ok (.ifCond .eq 16, 3) := by decide +kernel
theorem dX9_readsName_18 : decode cX9_readsName 18 = .ok (.aload_n 0, 1) := by decide +kernel
theorem dX9_readsName_19 : decode cX9_readsName 19 = .ok (.dup, 1) := by decide +kernel
theorem dX9_readsName_20 : decode cX9_readsName 20 = .ok (.getfield 131, 3) := by decide +kernel
theorem dX9_readsName_23 : decode cX9_readsName 23 = .ok (.iconst 1, 1) := by decide +kernel
theorem dX9_readsName_24 : decode cX9_readsName 24 = .ok (.iadd, 1) := by decide +kernel
theorem dX9_readsName_25 : decode cX9_readsName 25 = .ok (.putfield 131, 3) := by decide +kernel
theorem dX9_readsName_28 : decode cX9_readsName 28 = .ok (.goto (-28), 3) := by decide +kernel
theorem dX9_readsName_31 : decode cX9_readsName 31 = .ok (.aload_n 0, 1) := by decide +kernel
theorem dX9_readsName_32 : decode cX9_readsName 32 = .ok (.bipush 101, 2) := by decide +kernel
theorem dX9_readsName_34 : decode cX9_readsName 34 = .ok (.putfield 140, 3) := by decide +kernel
theorem dX9_readsName_37 : decode cX9_readsName 37 = .ok (.iconst 0, 1) := by decide +kernel
theorem dX9_readsName_38 : decode cX9_readsName 38 = .ok (.istore_n 1, 1) := by decide +kernel
theorem dX9_readsName_39 : decode cX9_readsName 39 = .ok (.iload_n 1, 1) := by decide +kernel
theorem dX9_readsName_40 : decode cX9_readsName 40 = .ok (.bipush 18, 2) := by decide +kernel
theorem dX9_readsName_42 : decode cX9_readsName 42 = .ok (.if_icmp .ge 29, 3) := by decide +kernel
theorem dX9_readsName_45 : decode cX9_readsName 45 = .ok (.aload_n 0, 1) := by decide +kernel
theorem dX9_readsName_46 : decode cX9_readsName 46 = .ok (.aload_n 0, 1) := by decide +kernel
theorem dX9_readsName_47 : decode cX9_readsName 47 = .ok (.iload_n 1, 1) := by decide +kernel
theorem dX9_readsName_48 : decode cX9_readsName 48 = .ok (.invokevirtual 143, 3) := by decide +kernel
theorem dX9_readsName_51 : decode cX9_readsName 51 = .ok (.ifCond .eq 7, 3) := by decide +kernel
theorem dX9_readsName_54 : decode cX9_readsName 54 = .ok (.iload_n 1, 1) := by decide +kernel
theorem dX9_readsName_55 : decode cX9_readsName 55 = .ok (.goto 7, 3) := by decide +kernel
theorem dX9_readsName_58 : decode cX9_readsName 58 = .ok (.aload_n 0, 1) := by decide +kernel
theorem dX9_readsName_59 : decode cX9_readsName 59 = .ok (.getfield 140, 3) := by decide +kernel
theorem dX9_readsName_62 : decode cX9_readsName 62 = .ok (.putfield 140, 3) := by decide +kernel
theorem dX9_readsName_65 : decode cX9_readsName 65 = .ok (.iinc 1 1, 3) := by decide +kernel
theorem dX9_readsName_68 : decode cX9_readsName 68 = .ok (.goto (-29), 3) := by decide +kernel
theorem dX9_readsName_71 : decode cX9_readsName 71 = .ok (.return_, 1) := by decide +kernel
theorem dX9_readsNumber_0 : decode cX9_readsNumber 0 = .ok (.aload_n 0, 1) := by decide +kernel
theorem dX9_readsNumber_1 : decode cX9_readsNumber 1 = .ok (.iconst 0, 1) := by decide +kernel
theorem dX9_readsNumber_2 : decode cX9_readsNumber 2 = .ok (.putfield 146, 3) := by decide +kernel
theorem dX9_readsNumber_5 : decode cX9_readsNumber 5 = .ok (.aload_n 0, 1) := by decide +kernel
theorem dX9_readsNumber_6 : decode cX9_readsNumber 6 = .ok (.aload_n 0, 1) := by decide +kernel
theorem dX9_readsNumber_7 : decode cX9_readsNumber 7 = .ok (.getfield 131, 3) := by decide +kernel
theorem dX9_readsNumber_10 : decode cX9_readsNumber 10 = .ok (.invokevirtual 137, 3) := by decide +kernel
theorem dX9_readsNumber_13 : decode cX9_readsNumber 13 = .ok (.bipush 48, 2) := by decide +kernel
theorem dX9_readsNumber_15 : decode cX9_readsNumber 15 = .ok (.bipush 57, 2) := by decide +kernel
theorem dX9_readsNumber_17 : decode cX9_readsNumber 17 = .ok (.invokestatic 71, 3) := by decide +kernel
theorem dX9_readsNumber_20 : decode cX9_readsNumber 20 = .ok (.ifCond .eq 59, 3) := by decide +kernel
theorem dX9_readsNumber_23 : decode cX9_readsNumber 23 = .ok (.aload_n 0, 1) := by decide +kernel
theorem dX9_readsNumber_24 : decode cX9_readsNumber 24 = .ok (.aload_n 0, 1) := by decide +kernel
theorem dX9_readsNumber_25 : decode cX9_readsNumber 25 = .ok (.getfield 131, 3) := by decide +kernel
theorem dX9_readsNumber_28 : decode cX9_readsNumber 28 = .ok (.aload_n 0, 1) := by decide +kernel
theorem dX9_readsNumber_29 : decode cX9_readsNumber 29 = .ok (.getfield 134, 3) := by decide +kernel
theorem dX9_readsNumber_32 : decode cX9_readsNumber 32 = .ok (.isub, 1) := by decide +kernel
theorem dX9_readsNumber_33 : decode cX9_readsNumber 33 = .ok (.iconst 4, 1) := by decide +kernel
theorem dX9_readsNumber_34 : decode cX9_readsNumber 34 = .ok (.if_icmp .ge 25, 3) := by decide +kernel
theorem dX9_readsNumber_37 : decode cX9_readsNumber 37 = .ok (.bipush 10, 2) := by decide +kernel
theorem dX9_readsNumber_39 : decode cX9_readsNumber 39 = .ok (.aload_n 0, 1) := by decide +kernel
theorem dX9_readsNumber_40 : decode cX9_readsNumber 40 = .ok (.getfield 146, 3) := by decide +kernel
theorem dX9_readsNumber_43 : decode cX9_readsNumber 43 = .ok (.imul, 1) := by decide +kernel
theorem dX9_readsNumber_44 : decode cX9_readsNumber 44 = .ok (.aload_n 0, 1) := by decide +kernel
theorem dX9_readsNumber_45 : decode cX9_readsNumber 45 = .ok (.aload_n 0, 1) := by decide +kernel
theorem dX9_readsNumber_46 : decode cX9_readsNumber 46 = .ok (.getfield 131, 3) := by decide +kernel
theorem dX9_readsNumber_49 : decode cX9_readsNumber 49 = .ok (.invokevirtual 137, 3) := by decide +kernel
theorem dX9_readsNumber_52 : decode cX9_readsNumber 52 = .ok (.iadd, 1) := by decide +kernel
theorem dX9_readsNumber_53 : decode cX9_readsNumber 53 = .ok (.bipush 48, 2) := by decide +kernel
theorem dX9_readsNumber_55 : decode cX9_readsNumber 55 = .ok (.isub, 1) := by decide +kernel
theorem dX9_readsNumber_56 : decode cX9_readsNumber 56 = .ok (.goto 7, 3) := by decide +kernel
theorem dX9_readsNumber_59 : decode cX9_readsNumber 59 = .ok (.aload_n 0, 1) := by decide +kernel
theorem dX9_readsNumber_60 : decode cX9_readsNumber 60 = .ok (.getfield 146, 3) := by decide +kernel
theorem dX9_readsNumber_63 : decode cX9_readsNumber 63 = .ok (.putfield 146, 3) := by decide +kernel
theorem dX9_readsNumber_66 : decode cX9_readsNumber 66 = .ok (.aload_n 0, 1) := by decide +kernel
theorem dX9_readsNumber_67 : decode cX9_readsNumber 67 = .ok (.dup, 1) := by decide +kernel
theorem dX9_readsNumber_68 : decode cX9_readsNumber 68 = .ok (.getfield 131, 3) := by decide +kernel
theorem dX9_readsNumber_71 : decode cX9_readsNumber 71 = .ok (.iconst 1, 1) := by decide +kernel
theorem dX9_readsNumber_72 : decode cX9_readsNumber 72 = .ok (.iadd, 1) := by decide +kernel
theorem dX9_readsNumber_73 : decode cX9_readsNumber 73 = .ok (.putfield 131, 3) := by decide +kernel
theorem dX9_readsNumber_76 : decode cX9_readsNumber 76 = .ok (.goto (-71), 3) := by decide +kernel
theorem dX9_readsNumber_79 : decode cX9_readsNumber 79 = .ok (.aload_n 0, 1) := by decide +kernel
theorem dX9_readsNumber_80 : decode cX9_readsNumber 80 = .ok (.aload_n 0, 1) := by decide +kernel
theorem dX9_readsNumber_81 : decode cX9_readsNumber 81 = .ok (.getfield 131, 3) := by decide +kernel
theorem dX9_readsNumber_84 : decode cX9_readsNumber 84 = .ok (.aload_n 0, 1) := by decide +kernel
theorem dX9_readsNumber_85 : decode cX9_readsNumber 85 = .ok (.getfield 134, 3) := by decide +kernel
theorem dX9_readsNumber_88 : decode cX9_readsNumber 88 = .ok (.isub, 1) := by decide +kernel
theorem dX9_readsNumber_89 : decode cX9_readsNumber 89 = .ok (.iconst 4, 1) := by decide +kernel
theorem dX9_readsNumber_90 : decode cX9_readsNumber 90 = .ok (.if_icmp .le 8, 3) := by decide +kernel
theorem dX9_readsNumber_93 : decode cX9_readsNumber 93 = .ok (.bipush 101, 2) := by decide +kernel
theorem dX9_readsNumber_95 : decode cX9_readsNumber 95 = .ok (.goto 5, 3) := by decide +kernel
theorem dX9_readsNumber_98 : decode cX9_readsNumber 98 = .ok (.bipush 100, 2) := by decide +kernel
theorem dX9_readsNumber_100 : decode cX9_readsNumber 100 = .ok (.putfield 140, 3) := by decide +kernel
theorem dX9_readsNumber_103 : decode cX9_readsNumber 103 = .ok (.return_, 1) := by decide +kernel
theorem dX9_next_0 : decode cX9_next 0 = .ok (.aload_n 0, 1) := by decide +kernel
theorem dX9_next_1 : decode cX9_next 1 = .ok (.aload_n 0, 1) := by decide +kernel
theorem dX9_next_2 : decode cX9_next 2 = .ok (.getfield 131, 3) := by decide +kernel
theorem dX9_next_5 : decode cX9_next 5 = .ok (.invokevirtual 137, 3) := by decide +kernel
theorem dX9_next_8 : decode cX9_next 8 = .ok (.bipush 32, 2) := by decide +kernel
theorem dX9_next_10 : decode cX9_next 10 = .ok (.if_icmp .ne 16, 3) := by decide +kernel
theorem dX9_next_13 : decode cX9_next 13 = .ok (.aload_n 0, 1) := by decide +kernel
theorem dX9_next_14 : decode cX9_next 14 = .ok (.dup, 1) := by decide +kernel
theorem dX9_next_15 : decode cX9_next 15 = .ok (.getfield 131, 3) := by decide +kernel
theorem dX9_next_18 : decode cX9_next 18 = .ok (.iconst 1, 1) := by decide +kernel
theorem dX9_next_19 : decode cX9_next 19 = .ok (.iadd, 1) := by decide +kernel
theorem dX9_next_20 : decode cX9_next 20 = .ok (.putfield 131, 3) := by decide +kernel
theorem dX9_next_23 : decode cX9_next 23 = .ok (.goto (-23), 3) := by decide +kernel
theorem dX9_next_26 : decode cX9_next 26 = .ok (.aload_n 0, 1) := by decide +kernel
theorem dX9_next_27 : decode cX9_next 27 = .ok (.aload_n 0, 1) := by decide +kernel
theorem dX9_next_28 : decode cX9_next 28 = .ok (.getfield 131, 3) := by decide +kernel
theorem dX9_next_31 : decode cX9_next 31 = .ok (.putfield 134, 3) := by decide +kernel
theorem dX9_next_34 : decode cX9_next 34 = .ok (.aload_n 0, 1) := by decide +kernel
theorem dX9_next_35 : decode cX9_next 35 = .ok (.aload_n 0, 1) := by decide +kernel
theorem dX9_next_36 : decode cX9_next 36 = .ok (.getfield 131, 3) := by decide +kernel
theorem dX9_next_39 : decode cX9_next 39 = .ok (.invokevirtual 137, 3) := by decide +kernel
theorem dX9_next_42 : decode cX9_next 42 = .ok (.istore_n 1, 1) := by decide +kernel
theorem dX9_next_43 : decode cX9_next 43 = .ok (.iload_n 1, 1) := by decide +kernel
theorem dX9_next_44 : decode cX9_next 44 = .ok (.ifCond .ge 11, 3) := by decide +kernel
theorem dX9_next_47 : decode cX9_next 47 = .ok (.aload_n 0, 1) := by decide +kernel
theorem dX9_next_48 : decode cX9_next 48 = .ok (.iconst (-1), 1) := by decide +kernel
theorem dX9_next_49 : decode cX9_next 49 = .ok (.putfield 140, 3) := by decide +kernel
theorem dX9_next_52 : decode cX9_next 52 = .ok (.goto 58, 3) := by decide +kernel
theorem dX9_next_55 : decode cX9_next 55 = .ok (.iload_n 1, 1) := by decide +kernel
theorem dX9_next_56 : decode cX9_next 56 = .ok (.bipush 97, 2) := by decide +kernel
theorem dX9_next_58 : decode cX9_next 58 = .ok (.bipush 122, 2) := by decide +kernel
theorem dX9_next_60 : decode cX9_next 60 = .ok (.invokestatic 71, 3) := by decide +kernel
theorem dX9_next_63 : decode cX9_next 63 = .ok (.ifCond .eq 10, 3) := by decide +kernel
theorem dX9_next_66 : decode cX9_next 66 = .ok (.aload_n 0, 1) := by decide +kernel
theorem dX9_next_67 : decode cX9_next 67 = .ok (.invokevirtual 149, 3) := by decide +kernel
theorem dX9_next_70 : decode cX9_next 70 = .ok (.goto 40, 3) := by decide +kernel
theorem dX9_next_73 : decode cX9_next 73 = .ok (.iload_n 1, 1) := by decide +kernel
theorem dX9_next_74 : decode cX9_next 74 = .ok (.bipush 48, 2) := by decide +kernel
theorem dX9_next_76 : decode cX9_next 76 = .ok (.bipush 57, 2) := by decide +kernel
theorem dX9_next_78 : decode cX9_next 78 = .ok (.invokestatic 71, 3) := by decide +kernel
theorem dX9_next_81 : decode cX9_next 81 = .ok (.ifCond .eq 10, 3) := by decide +kernel
theorem dX9_next_84 : decode cX9_next 84 = .ok (.aload_n 0, 1) := by decide +kernel
theorem dX9_next_85 : decode cX9_next 85 = .ok (.invokevirtual 152, 3) := by decide +kernel
theorem dX9_next_88 : decode cX9_next 88 = .ok (.goto 22, 3) := by decide +kernel
theorem dX9_next_91 : decode cX9_next 91 = .ok (.aload_n 0, 1) := by decide +kernel
theorem dX9_next_92 : decode cX9_next 92 = .ok (.sipush 200, 3) := by decide +kernel
theorem dX9_next_95 : decode cX9_next 95 = .ok (.iload_n 1, 1) := by decide +kernel
theorem dX9_next_96 : decode cX9_next 96 = .ok (.iadd, 1) := by decide +kernel
theorem dX9_next_97 : decode cX9_next 97 = .ok (.putfield 140, 3) := by decide +kernel
theorem dX9_next_100 : decode cX9_next 100 = .ok (.aload_n 0, 1) := by decide +kernel
theorem dX9_next_101 : decode cX9_next 101 = .ok (.dup, 1) := by decide +kernel
theorem dX9_next_102 : decode cX9_next 102 = .ok (.getfield 131, 3) := by decide +kernel
theorem dX9_next_105 : decode cX9_next 105 = .ok (.iconst 1, 1) := by decide +kernel
theorem dX9_next_106 : decode cX9_next 106 = .ok (.iadd, 1) := by decide +kernel
theorem dX9_next_107 : decode cX9_next 107 = .ok (.putfield 131, 3) := by decide +kernel
theorem dX9_next_110 : decode cX9_next 110 = .ok (.return_, 1) := by decide +kernel
theorem dX9_takes_0 : decode cX9_takes 0 = .ok (.aload_n 0, 1) := by decide +kernel
theorem dX9_takes_1 : decode cX9_takes 1 = .ok (.getfield 140, 3) := by decide +kernel
theorem dX9_takes_4 : decode cX9_takes 4 = .ok (.iload_n 1, 1) := by decide +kernel
theorem dX9_takes_5 : decode cX9_takes 5 = .ok (.if_icmp .ne 7, 3) := by decide +kernel
theorem dX9_takes_8 : decode cX9_takes 8 = .ok (.iconst 1, 1) := by decide +kernel
theorem dX9_takes_9 : decode cX9_takes 9 = .ok (.goto 4, 3) := by decide +kernel
theorem dX9_takes_12 : decode cX9_takes 12 = .ok (.iconst 0, 1) := by decide +kernel
theorem dX9_takes_13 : decode cX9_takes 13 = .ok (.istore_n 2, 1) := by decide +kernel
theorem dX9_takes_14 : decode cX9_takes 14 = .ok (.iload_n 2, 1) := by decide +kernel
theorem dX9_takes_15 : decode cX9_takes 15 = .ok (.ifCond .eq 7, 3) := by decide +kernel
theorem dX9_takes_18 : decode cX9_takes 18 = .ok (.aload_n 0, 1) := by decide +kernel
theorem dX9_takes_19 : decode cX9_takes 19 = .ok (.invokevirtual 155, 3) := by decide +kernel
theorem dX9_takes_22 : decode cX9_takes 22 = .ok (.iload_n 2, 1) := by decide +kernel
theorem dX9_takes_23 : decode cX9_takes 23 = .ok (.ireturn, 1) := by decide +kernel
theorem dX9_lays_0 : decode cX9_lays 0 = .ok (.aload_n 0, 1) := by decide +kernel
theorem dX9_lays_1 : decode cX9_lays 1 = .ok (.getfield 29, 3) := by decide +kernel
theorem dX9_lays_4 : decode cX9_lays 4 = .ok (.aload_n 0, 1) := by decide +kernel
theorem dX9_lays_5 : decode cX9_lays 5 = .ok (.getfield 158, 3) := by decide +kernel
theorem dX9_lays_8 : decode cX9_lays 8 = .ok (.iload_n 1, 1) := by decide +kernel
theorem dX9_lays_9 : decode cX9_lays 9 = .ok (.iastore, 1) := by decide +kernel
theorem dX9_lays_10 : decode cX9_lays 10 = .ok (.aload_n 0, 1) := by decide +kernel
theorem dX9_lays_11 : decode cX9_lays 11 = .ok (.dup, 1) := by decide +kernel
theorem dX9_lays_12 : decode cX9_lays 12 = .ok (.getfield 158, 3) := by decide +kernel
theorem dX9_lays_15 : decode cX9_lays 15 = .ok (.iconst 1, 1) := by decide +kernel
theorem dX9_lays_16 : decode cX9_lays 16 = .ok (.iadd, 1) := by decide +kernel
theorem dX9_lays_17 : decode cX9_lays 17 = .ok (.putfield 158, 3) := by decide +kernel
theorem dX9_lays_20 : decode cX9_lays 20 = .ok (.return_, 1) := by decide +kernel
theorem dX9_readsValue_0 : decode cX9_readsValue 0 = .ok (.aload_n 0, 1) := by decide +kernel
theorem dX9_readsValue_1 : decode cX9_readsValue 1 = .ok (.getfield 140, 3) := by decide +kernel
theorem dX9_readsValue_4 : decode cX9_readsValue 4 = .ok (.bipush 100, 2) := by decide +kernel
theorem dX9_readsValue_6 : decode cX9_readsValue 6 = .ok (.if_icmp .eq 17, 3) := by decide +kernel
theorem dX9_readsValue_9 : decode cX9_readsValue 9 = .ok (.aload_n 0, 1) := by decide +kernel
theorem dX9_readsValue_10 : decode cX9_readsValue 10 = .ok (.getfield 140, 3) := by decide +kernel
theorem dX9_readsValue_13 : decode cX9_readsValue 13 = .ok (.bipush 13, 2) := by decide +kernel
theorem dX9_readsValue_15 : decode cX9_readsValue 15 = .ok (.bipush 17, 2) := by decide +kernel
theorem dX9_readsValue_17 : decode cX9_readsValue 17 = .ok (.invokestatic 71, 3) := by decide +kernel
theorem dX9_readsValue_20 : decode cX9_readsValue 20 = .ok (.ifCond .eq 7, 3) := by decide +kernel
theorem dX9_readsValue_23 : decode cX9_readsValue 23 = .ok (.iconst 1, 1) := by decide +kernel
theorem dX9_readsValue_24 : decode cX9_readsValue 24 = .ok (.goto 4, 3) := by decide +kernel
theorem dX9_readsValue_27 : decode cX9_readsValue 27 = .ok (.iconst 0, 1) := by decide +kernel
theorem dX9_readsValue_28 : decode cX9_readsValue 28 = .ok (.istore_n 1, 1) := by decide +kernel
theorem dX9_readsValue_29 : decode cX9_readsValue 29 = .ok (.iload_n 1, 1) := by decide +kernel
theorem dX9_readsValue_30 : decode cX9_readsValue 30 = .ok (.ifCond .eq 38, 3) := by decide +kernel
theorem dX9_readsValue_33 : decode cX9_readsValue 33 = .ok (.aload_n 0, 1) := by decide +kernel
theorem dX9_readsValue_34 : decode cX9_readsValue 34 = .ok (.aload_n 0, 1) := by decide +kernel
theorem dX9_readsValue_35 : decode cX9_readsValue 35 = .ok (.getfield 140, 3) := by decide +kernel
theorem dX9_readsValue_38 : decode cX9_readsValue 38 = .ok (.bipush 100, 2) := by decide +kernel
theorem dX9_readsValue_40 : decode cX9_readsValue 40 = .ok (.if_icmp .ne 10, 3) := by decide +kernel
theorem dX9_readsValue_43 : decode cX9_readsValue 43 = .ok (.aload_n 0, 1) := by decide +kernel
theorem dX9_readsValue_44 : decode cX9_readsValue 44 = .ok (.getfield 146, 3) := by decide +kernel
theorem dX9_readsValue_47 : decode cX9_readsValue 47 = .ok (.goto 14, 3) := by decide +kernel
theorem dX9_readsValue_50 : decode cX9_readsValue 50 = .ok (.sipush 10000, 3) := by decide +kernel
theorem dX9_readsValue_53 : decode cX9_readsValue 53 = .ok (.aload_n 0, 1) := by decide +kernel
theorem dX9_readsValue_54 : decode cX9_readsValue 54 = .ok (.getfield 140, 3) := by decide +kernel
theorem dX9_readsValue_57 : decode cX9_readsValue 57 = .ok (.iadd, 1) := by decide +kernel
theorem dX9_readsValue_58 : decode cX9_readsValue 58 = .ok (.bipush 13, 2) := by decide +kernel
theorem dX9_readsValue_60 : decode cX9_readsValue 60 = .ok (.isub, 1) := by decide +kernel
theorem dX9_readsValue_61 : decode cX9_readsValue 61 = .ok (.invokevirtual 161, 3) := by decide +kernel
theorem dX9_readsValue_64 : decode cX9_readsValue 64 = .ok (.aload_n 0, 1) := by decide +kernel
theorem dX9_readsValue_65 : decode cX9_readsValue 65 = .ok (.invokevirtual 155, 3) := by decide +kernel
theorem dX9_readsValue_68 : decode cX9_readsValue 68 = .ok (.iload_n 1, 1) := by decide +kernel
theorem dX9_readsValue_69 : decode cX9_readsValue 69 = .ok (.ireturn, 1) := by decide +kernel
theorem dX9_readsLike_0 : decode cX9_readsLike 0 = .ok (.aload_n 0, 1) := by decide +kernel
theorem dX9_readsLike_1 : decode cX9_readsLike 1 = .ok (.invokevirtual 165, 3) := by decide +kernel
theorem dX9_readsLike_4 : decode cX9_readsLike 4 = .ok (.ifCond .ne 5, 3) := by decide +kernel
theorem dX9_readsLike_7 : decode cX9_readsLike 7 = .ok (.iconst 0, 1) := by decide +kernel
theorem dX9_readsLike_8 : decode cX9_readsLike 8 = .ok (.ireturn, 1) := by decide +kernel
theorem dX9_readsLike_9 : decode cX9_readsLike 9 = .ok (.aload_n 0, 1) := by decide +kernel
theorem dX9_readsLike_10 : decode cX9_readsLike 10 = .ok (.getfield 140, 3) := by decide +kernel
theorem dX9_readsLike_13 : decode cX9_readsLike 13 = .ok (.sipush 260, 3) := by decide +kernel
theorem dX9_readsLike_16 : decode cX9_readsLike 16 = .ok (.if_icmp .ne 9, 3) := by decide +kernel
theorem dX9_readsLike_19 : decode cX9_readsLike 19 = .ok (.sipush 10010, 3) := by decide +kernel
theorem dX9_readsLike_22 : decode cX9_readsLike 22 = .ok (.goto 36, 3) := by decide +kernel
theorem dX9_readsLike_25 : decode cX9_readsLike 25 = .ok (.aload_n 0, 1) := by decide +kernel
theorem dX9_readsLike_26 : decode cX9_readsLike 26 = .ok (.getfield 140, 3) := by decide +kernel
theorem dX9_readsLike_29 : decode cX9_readsLike 29 = .ok (.sipush 261, 3) := by decide +kernel
theorem dX9_readsLike_32 : decode cX9_readsLike 32 = .ok (.if_icmp .ne 9, 3) := by decide +kernel
theorem dX9_readsLike_35 : decode cX9_readsLike 35 = .ok (.sipush 10011, 3) := by decide +kernel
theorem dX9_readsLike_38 : decode cX9_readsLike 38 = .ok (.goto 20, 3) := by decide +kernel
theorem dX9_readsLike_41 : decode cX9_readsLike 41 = .ok (.aload_n 0, 1) := by decide +kernel
theorem dX9_readsLike_42 : decode cX9_readsLike 42 = .ok (.getfield 140, 3) := by decide +kernel
theorem dX9_readsLike_45 : decode cX9_readsLike 45 = .ok (.sipush 262, 3) := by decide +kernel
theorem dX9_readsLike_48 : decode cX9_readsLike 48 = .ok (.if_icmp .ne 9, 3) := by decide +kernel
theorem dX9_readsLike_51 : decode cX9_readsLike 51 = .ok (.sipush 10012, 3) := by decide +kernel
theorem dX9_readsLike_54 : decode cX9_readsLike 54 = .ok (.goto 4, 3) := by decide +kernel
theorem dX9_readsLike_57 : decode cX9_readsLike 57 = .ok (.iconst 0, 1) := by decide +kernel
theorem dX9_readsLike_58 : decode cX9_readsLike 58 = .ok (.istore_n 1, 1) := by decide +kernel
theorem dX9_readsLike_59 : decode cX9_readsLike 59 = .ok (.iload_n 1, 1) := by decide +kernel
theorem dX9_readsLike_60 : decode cX9_readsLike 60 = .ok (.ifCond .ne 5, 3) := by decide +kernel
theorem dX9_readsLike_63 : decode cX9_readsLike 63 = .ok (.iconst 0, 1) := by decide +kernel
theorem dX9_readsLike_64 : decode cX9_readsLike 64 = .ok (.ireturn, 1) := by decide +kernel
theorem dX9_readsLike_65 : decode cX9_readsLike 65 = .ok (.aload_n 0, 1) := by decide +kernel
theorem dX9_readsLike_66 : decode cX9_readsLike 66 = .ok (.invokevirtual 155, 3) := by decide +kernel
theorem dX9_readsLike_69 : decode cX9_readsLike 69 = .ok (.aload_n 0, 1) := by decide +kernel
theorem dX9_readsLike_70 : decode cX9_readsLike 70 = .ok (.invokevirtual 165, 3) := by decide +kernel
theorem dX9_readsLike_73 : decode cX9_readsLike 73 = .ok (.ifCond .ne 5, 3) := by decide +kernel
theorem dX9_readsLike_76 : decode cX9_readsLike 76 = .ok (.iconst 0, 1) := by decide +kernel
theorem dX9_readsLike_77 : decode cX9_readsLike 77 = .ok (.ireturn, 1) := by decide +kernel
theorem dX9_readsLike_78 : decode cX9_readsLike 78 = .ok (.aload_n 0, 1) := by decide +kernel
theorem dX9_readsLike_79 : decode cX9_readsLike 79 = .ok (.iload_n 1, 1) := by decide +kernel
theorem dX9_readsLike_80 : decode cX9_readsLike 80 = .ok (.invokevirtual 161, 3) := by decide +kernel
theorem dX9_readsLike_83 : decode cX9_readsLike 83 = .ok (.iconst 1, 1) := by decide +kernel
theorem dX9_readsLike_84 : decode cX9_readsLike 84 = .ok (.ireturn, 1) := by decide +kernel
theorem dX9_readsWithin_0 : decode cX9_readsWithin 0 = .ok (.aload_n 0, 1) := by decide +kernel
theorem dX9_readsWithin_1 : decode cX9_readsWithin 1 = .ok (.getfield 169, 3) := by decide +kernel
theorem dX9_readsWithin_4 : decode cX9_readsWithin 4 = .ok (.iconst 3, 1) := by decide +kernel
theorem dX9_readsWithin_5 : decode cX9_readsWithin 5 = .ok (.if_icmp .ne 5, 3) := by decide +kernel
theorem dX9_readsWithin_8 : decode cX9_readsWithin 8 = .ok (.iconst 0, 1) := by decide +kernel
theorem dX9_readsWithin_9 : decode cX9_readsWithin 9 = .ok (.ireturn, 1) := by decide +kernel
theorem dX9_readsWithin_10 : decode cX9_readsWithin 10 = .ok (.aload_n 0, 1) := by decide +kernel
theorem dX9_readsWithin_11 : decode cX9_readsWithin 11 = .ok (.dup, 1) := by decide +kernel
theorem dX9_readsWithin_12 : decode cX9_readsWithin 12 = .ok (.getfield 169, 3) := by decide +kernel
theorem dX9_readsWithin_15 : decode cX9_readsWithin 15 = .ok (.iconst 1, 1) := by decide +kernel
theorem dX9_readsWithin_16 : decode cX9_readsWithin 16 = .ok (.iadd, 1) := by decide +kernel
theorem dX9_readsWithin_17 : decode cX9_readsWithin 17 = .ok (.putfield 169, 3) := by decide +kernel
theorem dX9_readsWithin_20 : decode cX9_readsWithin 20 = .ok (.aload_n 0, 1) := by decide +kernel
theorem dX9_readsWithin_21 : decode cX9_readsWithin 21 = .ok (.invokevirtual 155, 3) := by decide +kernel
theorem dX9_readsWithin_24 : decode cX9_readsWithin 24 = .ok (.aload_n 0, 1) := by decide +kernel
theorem dX9_readsWithin_25 : decode cX9_readsWithin 25 = .ok (.invokevirtual 172, 3) := by decide +kernel
theorem dX9_readsWithin_28 : decode cX9_readsWithin 28 = .ok (.ifCond .eq 13, 3) := by decide +kernel
theorem dX9_readsWithin_31 : decode cX9_readsWithin 31 = .ok (.aload_n 0, 1) := by decide +kernel
theorem dX9_readsWithin_32 : decode cX9_readsWithin 32 = .ok (.sipush 241, 3) := by decide +kernel
theorem dX9_readsWithin_35 : decode cX9_readsWithin 35 = .ok (.invokevirtual 175, 3) := by decide +kernel
theorem dX9_readsWithin_38 : decode cX9_readsWithin 38 = .ok (.ifCond .ne 5, 3) := by decide +kernel
theorem dX9_readsWithin_41 : decode cX9_readsWithin 41 = .ok (.iconst 0, 1) := by decide +kernel
theorem dX9_readsWithin_42 : decode cX9_readsWithin 42 = .ok (.ireturn, 1) := by decide +kernel
theorem dX9_readsWithin_43 : decode cX9_readsWithin 43 = .ok (.aload_n 0, 1) := by decide +kernel
theorem dX9_readsWithin_44 : decode cX9_readsWithin 44 = .ok (.dup, 1) := by decide +kernel
theorem dX9_readsWithin_45 : decode cX9_readsWithin 45 = .ok (.getfield 169, 3) := by decide +kernel
theorem dX9_readsWithin_48 : decode cX9_readsWithin 48 = .ok (.iconst 1, 1) := by decide +kernel
theorem dX9_readsWithin_49 : decode cX9_readsWithin 49 = .ok (.isub, 1) := by decide +kernel
theorem dX9_readsWithin_50 : decode cX9_readsWithin 50 = .ok (.putfield 169, 3) := by decide +kernel
theorem dX9_readsWithin_53 : decode cX9_readsWithin 53 = .ok (.iconst 1, 1) := by decide +kernel
theorem dX9_readsWithin_54 : decode cX9_readsWithin 54 = .ok (.ireturn, 1) := by decide +kernel
theorem dX9_readsOne_0 : decode cX9_readsOne 0 = .ok (.iconst 0, 1) := by decide +kernel
theorem dX9_readsOne_1 : decode cX9_readsOne 1 = .ok (.istore_n 1, 1) := by decide +kernel
theorem dX9_readsOne_2 : decode cX9_readsOne 2 = .ok (.aload_n 0, 1) := by decide +kernel
theorem dX9_readsOne_3 : decode cX9_readsOne 3 = .ok (.bipush 10, 2) := by decide +kernel
theorem dX9_readsOne_5 : decode cX9_readsOne 5 = .ok (.invokevirtual 175, 3) := by decide +kernel
theorem dX9_readsOne_8 : decode cX9_readsOne 8 = .ok (.ifCond .eq 9, 3) := by decide +kernel
theorem dX9_readsOne_11 : decode cX9_readsOne 11 = .ok (.iinc 1 1, 3) := by decide +kernel
theorem dX9_readsOne_14 : decode cX9_readsOne 14 = .ok (.goto (-12), 3) := by decide +kernel
theorem dX9_readsOne_17 : decode cX9_readsOne 17 = .ok (.aload_n 0, 1) := by decide +kernel
theorem dX9_readsOne_18 : decode cX9_readsOne 18 = .ok (.getfield 140, 3) := by decide +kernel
theorem dX9_readsOne_21 : decode cX9_readsOne 21 = .ok (.sipush 240, 3) := by decide +kernel
theorem dX9_readsOne_24 : decode cX9_readsOne 24 = .ok (.if_icmp .ne 10, 3) := by decide +kernel
theorem dX9_readsOne_27 : decode cX9_readsOne 27 = .ok (.aload_n 0, 1) := by decide +kernel
theorem dX9_readsOne_28 : decode cX9_readsOne 28 = .ok (.invokevirtual 178, 3) := by decide +kernel
theorem dX9_readsOne_31 : decode cX9_readsOne 31 = .ok (.goto 7, 3) := by decide +kernel
theorem dX9_readsOne_34 : decode cX9_readsOne 34 = .ok (.aload_n 0, 1) := by decide +kernel
theorem dX9_readsOne_35 : decode cX9_readsOne 35 = .ok (.invokevirtual 181, 3) := by decide +kernel
theorem dX9_readsOne_38 : decode cX9_readsOne 38 = .ok (.istore_n 2, 1) := by decide +kernel
theorem dX9_readsOne_39 : decode cX9_readsOne 39 = .ok (.iconst 0, 1) := by decide +kernel
theorem dX9_readsOne_40 : decode cX9_readsOne 40 = .ok (.istore_n 3, 1) := by decide +kernel
theorem dX9_readsOne_41 : decode cX9_readsOne 41 = .ok (.iload_n 3, 1) := by decide +kernel
theorem dX9_readsOne_42 : decode cX9_readsOne 42 = .ok (.iload_n 1, 1) := by decide +kernel
theorem dX9_readsOne_43 : decode cX9_readsOne 43 = .ok (.if_icmp .ge 20, 3) := by decide +kernel
theorem dX9_readsOne_46 : decode cX9_readsOne 46 = .ok (.iload_n 2, 1) := by decide +kernel
theorem dX9_readsOne_47 : decode cX9_readsOne 47 = .ok (.ifCond .eq 16, 3) := by decide +kernel
theorem dX9_readsOne_50 : decode cX9_readsOne 50 = .ok (.aload_n 0, 1) := by decide +kernel
theorem dX9_readsOne_51 : decode cX9_readsOne 51 = .ok (.sipush 10015, 3) := by decide +kernel
theorem dX9_readsOne_54 : decode cX9_readsOne 54 = .ok (.invokevirtual 161, 3) := by decide +kernel
theorem dX9_readsOne_57 : decode cX9_readsOne 57 = .ok (.iinc 3 1, 3) := by decide +kernel
theorem dX9_readsOne_60 : decode cX9_readsOne 60 = .ok (.goto (-19), 3) := by decide +kernel
theorem dX9_readsOne_63 : decode cX9_readsOne 63 = .ok (.iload_n 2, 1) := by decide +kernel
theorem dX9_readsOne_64 : decode cX9_readsOne 64 = .ok (.ireturn, 1) := by decide +kernel
theorem dX9_readsAll_0 : decode cX9_readsAll 0 = .ok (.aload_n 0, 1) := by decide +kernel
theorem dX9_readsAll_1 : decode cX9_readsAll 1 = .ok (.invokevirtual 184, 3) := by decide +kernel
theorem dX9_readsAll_4 : decode cX9_readsAll 4 = .ok (.istore_n 1, 1) := by decide +kernel
theorem dX9_readsAll_5 : decode cX9_readsAll 5 = .ok (.iload_n 1, 1) := by decide +kernel
theorem dX9_readsAll_6 : decode cX9_readsAll 6 = .ok (.ifCond .eq 31, 3) := by decide +kernel
theorem dX9_readsAll_9 : decode cX9_readsAll 9 = .ok (.aload_n 0, 1) := by decide +kernel
theorem dX9_readsAll_10 : decode cX9_readsAll 10 = .ok (.bipush 11, 2) := by decide +kernel
theorem dX9_readsAll_12 : decode cX9_readsAll 12 = .ok (.invokevirtual 175, 3) := by decide +kernel
theorem dX9_readsAll_15 : decode cX9_readsAll 15 = .ok (.ifCond .eq 22, 3) := by decide +kernel
theorem dX9_readsAll_18 : decode cX9_readsAll 18 = .ok (.aload_n 0, 1) := by decide +kernel
theorem dX9_readsAll_19 : decode cX9_readsAll 19 = .ok (.invokevirtual 184, 3) := by decide +kernel
theorem dX9_readsAll_22 : decode cX9_readsAll 22 = .ok (.istore_n 1, 1) := by decide +kernel
theorem dX9_readsAll_23 : decode cX9_readsAll 23 = .ok (.iload_n 1, 1) := by decide +kernel
theorem dX9_readsAll_24 : decode cX9_readsAll 24 = .ok (.ifCond .eq (-19), 3) := by decide +kernel
theorem dX9_readsAll_27 : decode cX9_readsAll 27 = .ok (.aload_n 0, 1) := by decide +kernel
theorem dX9_readsAll_28 : decode cX9_readsAll 28 = .ok (.sipush 10013, 3) := by decide +kernel
theorem dX9_readsAll_31 : decode cX9_readsAll 31 = .ok (.invokevirtual 161, 3) := by decide +kernel
theorem dX9_readsAll_34 : decode cX9_readsAll 34 = .ok (.goto (-29), 3) := by decide +kernel
theorem dX9_readsAll_37 : decode cX9_readsAll 37 = .ok (.iload_n 1, 1) := by decide +kernel
theorem dX9_readsAll_38 : decode cX9_readsAll 38 = .ok (.ireturn, 1) := by decide +kernel
theorem dX9_readsCondition_0 : decode cX9_readsCondition 0 = .ok (.aload_n 0, 1) := by decide +kernel
theorem dX9_readsCondition_1 : decode cX9_readsCondition 1 = .ok (.invokevirtual 187, 3) := by decide +kernel
theorem dX9_readsCondition_4 : decode cX9_readsCondition 4 = .ok (.istore_n 1, 1) := by decide +kernel
theorem dX9_readsCondition_5 : decode cX9_readsCondition 5 = .ok (.iload_n 1, 1) := by decide +kernel
theorem dX9_readsCondition_6 : decode cX9_readsCondition 6 = .ok (.ifCond .eq 31, 3) := by decide +kernel
theorem dX9_readsCondition_9 : decode cX9_readsCondition 9 = .ok (.aload_n 0, 1) := by decide +kernel
theorem dX9_readsCondition_10 : decode cX9_readsCondition 10 = .ok (.bipush 12, 2) := by decide +kernel
theorem dX9_readsCondition_12 : decode cX9_readsCondition 12 = .ok (.invokevirtual 175, 3) := by decide +kernel
theorem dX9_readsCondition_15 : decode cX9_readsCondition 15 = .ok (.ifCond .eq 22, 3) := by decide +kernel
theorem dX9_readsCondition_18 : decode cX9_readsCondition 18 = .ok (.aload_n 0, 1) := by decide +kernel
theorem dX9_readsCondition_19 : decode cX9_readsCondition 19 = .ok (.invokevirtual 187, 3) := by decide +kernel
theorem dX9_readsCondition_22 : decode cX9_readsCondition 22 = .ok (.istore_n 1, 1) := by decide +kernel
theorem dX9_readsCondition_23 : decode cX9_readsCondition 23 = .ok (.iload_n 1, 1) := by decide +kernel
theorem dX9_readsCondition_24 : decode cX9_readsCondition 24 = .ok (.ifCond .eq (-19), 3) := by decide +kernel
theorem dX9_readsCondition_27 : decode cX9_readsCondition 27 = .ok (.aload_n 0, 1) := by decide +kernel
theorem dX9_readsCondition_28 : decode cX9_readsCondition 28 = .ok (.sipush 10014, 3) := by decide +kernel
theorem dX9_readsCondition_31 : decode cX9_readsCondition 31 = .ok (.invokevirtual 161, 3) := by decide +kernel
theorem dX9_readsCondition_34 : decode cX9_readsCondition 34 = .ok (.goto (-29), 3) := by decide +kernel
theorem dX9_readsCondition_37 : decode cX9_readsCondition 37 = .ok (.iload_n 1, 1) := by decide +kernel
theorem dX9_readsCondition_38 : decode cX9_readsCondition 38 = .ok (.ireturn, 1) := by decide +kernel
theorem dX9_readsRule_0 : decode cX9_readsRule 0 = .ok (.iload_n 1, 1) := by decide +kernel
theorem dX9_readsRule_1 : decode cX9_readsRule 1 = .ok (.bipush 8, 2) := by decide +kernel
theorem dX9_readsRule_3 : decode cX9_readsRule 3 = .ok (.if_icmp .eq 15, 3) := by decide +kernel
theorem dX9_readsRule_6 : decode cX9_readsRule 6 = .ok (.aload_n 0, 1) := by decide +kernel
theorem dX9_readsRule_7 : decode cX9_readsRule 7 = .ok (.getfield 140, 3) := by decide +kernel
theorem dX9_readsRule_10 : decode cX9_readsRule 10 = .ok (.iconst 0, 1) := by decide +kernel
theorem dX9_readsRule_11 : decode cX9_readsRule 11 = .ok (.iconst 5, 1) := by decide +kernel
theorem dX9_readsRule_12 : decode cX9_readsRule 12 = .ok (.invokestatic 71, 3) := by decide +kernel
theorem dX9_readsRule_15 : decode cX9_readsRule 15 = .ok (.ifCond .ne 5, 3) := by decide +kernel
theorem dX9_readsRule_18 : decode cX9_readsRule 18 = .ok (.iconst 0, 1) := by decide +kernel
theorem dX9_readsRule_19 : decode cX9_readsRule 19 = .ok (.ireturn, 1) := by decide +kernel
theorem dX9_readsRule_20 : decode cX9_readsRule 20 = .ok (.aload_n 0, 1) := by decide +kernel
theorem dX9_readsRule_21 : decode cX9_readsRule 21 = .ok (.getfield 32, 3) := by decide +kernel
theorem dX9_readsRule_24 : decode cX9_readsRule 24 = .ok (.iconst 3, 1) := by decide +kernel
theorem dX9_readsRule_25 : decode cX9_readsRule 25 = .ok (.iload_n 1, 1) := by decide +kernel
theorem dX9_readsRule_26 : decode cX9_readsRule 26 = .ok (.imul, 1) := by decide +kernel
theorem dX9_readsRule_27 : decode cX9_readsRule 27 = .ok (.aload_n 0, 1) := by decide +kernel
theorem dX9_readsRule_28 : decode cX9_readsRule 28 = .ok (.getfield 140, 3) := by decide +kernel
theorem dX9_readsRule_31 : decode cX9_readsRule 31 = .ok (.iastore, 1) := by decide +kernel
theorem dX9_readsRule_32 : decode cX9_readsRule 32 = .ok (.aload_n 0, 1) := by decide +kernel
theorem dX9_readsRule_33 : decode cX9_readsRule 33 = .ok (.invokevirtual 155, 3) := by decide +kernel
theorem dX9_readsRule_36 : decode cX9_readsRule 36 = .ok (.aload_n 0, 1) := by decide +kernel
theorem dX9_readsRule_37 : decode cX9_readsRule 37 = .ok (.iconst 0, 1) := by decide +kernel
theorem dX9_readsRule_38 : decode cX9_readsRule 38 = .ok (.putfield 169, 3) := by decide +kernel
theorem dX9_readsRule_41 : decode cX9_readsRule 41 = .ok (.aload_n 0, 1) := by decide +kernel
theorem dX9_readsRule_42 : decode cX9_readsRule 42 = .ok (.bipush 9, 2) := by decide +kernel
theorem dX9_readsRule_44 : decode cX9_readsRule 44 = .ok (.invokevirtual 175, 3) := by decide +kernel
theorem dX9_readsRule_47 : decode cX9_readsRule 47 = .ok (.ifCond .eq 12, 3) := by decide +kernel
theorem dX9_readsRule_50 : decode cX9_readsRule 50 = .ok (.aload_n 0, 1) := by decide +kernel
theorem dX9_readsRule_51 : decode cX9_readsRule 51 = .ok (.invokevirtual 172, 3) := by decide +kernel
theorem dX9_readsRule_54 : decode cX9_readsRule 54 = .ok (.ifCond .ne 5, 3) := by decide +kernel
theorem dX9_readsRule_57 : decode cX9_readsRule 57 = .ok (.iconst 0, 1) := by decide +kernel
theorem dX9_readsRule_58 : decode cX9_readsRule 58 = .ok (.ireturn, 1) := by decide +kernel
theorem dX9_readsRule_59 : decode cX9_readsRule 59 = .ok (.aload_n 0, 1) := by decide +kernel
theorem dX9_readsRule_60 : decode cX9_readsRule 60 = .ok (.getfield 140, 3) := by decide +kernel
theorem dX9_readsRule_63 : decode cX9_readsRule 63 = .ok (.bipush 6, 2) := by decide +kernel
theorem dX9_readsRule_65 : decode cX9_readsRule 65 = .ok (.bipush 8, 2) := by decide +kernel
theorem dX9_readsRule_67 : decode cX9_readsRule 67 = .ok (.invokestatic 71, 3) := by decide +kernel
theorem dX9_readsRule_70 : decode cX9_readsRule 70 = .ok (.ifCond .ne 5, 3) := by decide +kernel
theorem dX9_readsRule_73 : decode cX9_readsRule 73 = .ok (.iconst 0, 1) := by decide +kernel
theorem dX9_readsRule_74 : decode cX9_readsRule 74 = .ok (.ireturn, 1) := by decide +kernel
theorem dX9_readsRule_75 : decode cX9_readsRule 75 = .ok (.aload_n 0, 1) := by decide +kernel
theorem dX9_readsRule_76 : decode cX9_readsRule 76 = .ok (.getfield 32, 3) := by decide +kernel
theorem dX9_readsRule_79 : decode cX9_readsRule 79 = .ok (.iconst 3, 1) := by decide +kernel
theorem dX9_readsRule_80 : decode cX9_readsRule 80 = .ok (.iload_n 1, 1) := by decide +kernel
theorem dX9_readsRule_81 : decode cX9_readsRule 81 = .ok (.imul, 1) := by decide +kernel
theorem dX9_readsRule_82 : decode cX9_readsRule 82 = .ok (.iconst 1, 1) := by decide +kernel
theorem dX9_readsRule_83 : decode cX9_readsRule 83 = .ok (.iadd, 1) := by decide +kernel
theorem dX9_readsRule_84 : decode cX9_readsRule 84 = .ok (.aload_n 0, 1) := by decide +kernel
theorem dX9_readsRule_85 : decode cX9_readsRule 85 = .ok (.getfield 140, 3) := by decide +kernel
theorem dX9_readsRule_88 : decode cX9_readsRule 88 = .ok (.bipush 6, 2) := by decide +kernel
theorem dX9_readsRule_90 : decode cX9_readsRule 90 = .ok (.isub, 1) := by decide +kernel
theorem dX9_readsRule_91 : decode cX9_readsRule 91 = .ok (.iastore, 1) := by decide +kernel
theorem dX9_readsRule_92 : decode cX9_readsRule 92 = .ok (.aload_n 0, 1) := by decide +kernel
theorem dX9_readsRule_93 : decode cX9_readsRule 93 = .ok (.getfield 32, 3) := by decide +kernel
theorem dX9_readsRule_96 : decode cX9_readsRule 96 = .ok (.iconst 3, 1) := by decide +kernel
theorem dX9_readsRule_97 : decode cX9_readsRule 97 = .ok (.iload_n 1, 1) := by decide +kernel
theorem dX9_readsRule_98 : decode cX9_readsRule 98 = .ok (.imul, 1) := by decide +kernel
theorem dX9_readsRule_99 : decode cX9_readsRule 99 = .ok (.iconst 2, 1) := by decide +kernel
theorem dX9_readsRule_100 : decode cX9_readsRule 100 = .ok (.iadd, 1) := by decide +kernel
theorem dX9_readsRule_101 : decode cX9_readsRule 101 = .ok (.aload_n 0, 1) := by decide +kernel
theorem dX9_readsRule_102 : decode cX9_readsRule 102 = .ok (.getfield 158, 3) := by decide +kernel
theorem dX9_readsRule_105 : decode cX9_readsRule 105 = .ok (.iastore, 1) := by decide +kernel
theorem dX9_readsRule_106 : decode cX9_readsRule 106 = .ok (.aload_n 0, 1) := by decide +kernel
theorem dX9_readsRule_107 : decode cX9_readsRule 107 = .ok (.invokevirtual 155, 3) := by decide +kernel
theorem dX9_readsRule_110 : decode cX9_readsRule 110 = .ok (.aload_n 0, 1) := by decide +kernel
theorem dX9_readsRule_111 : decode cX9_readsRule 111 = .ok (.sipush 259, 3) := by decide +kernel
theorem dX9_readsRule_114 : decode cX9_readsRule 114 = .ok (.invokevirtual 175, 3) := by decide +kernel
theorem dX9_readsRule_117 : decode cX9_readsRule 117 = .ok (.ireturn, 1) := by decide +kernel
theorem dX9_feed_0 : decode cX9_feed 0 = .ok (.iload_n 3, 1) := by decide +kernel
theorem dX9_feed_1 : decode cX9_feed 1 = .ok (.iconst 1, 1) := by decide +kernel
theorem dX9_feed_2 : decode cX9_feed 2 = .ok (.bipush 8, 2) := by decide +kernel
theorem dX9_feed_4 : decode cX9_feed 4 = .ok (.invokestatic 71, 3) := by decide +kernel
theorem dX9_feed_7 : decode cX9_feed 7 = .ok (.ifCond .ne 5, 3) := by decide +kernel
theorem dX9_feed_10 : decode cX9_feed 10 = .ok (.iconst (-1), 1) := by decide +kernel
theorem dX9_feed_11 : decode cX9_feed 11 = .ok (.ireturn, 1) := by decide +kernel
theorem dX9_feed_12 : decode cX9_feed 12 = .ok (.aload_n 0, 1) := by decide +kernel
theorem dX9_feed_13 : decode cX9_feed 13 = .ok (.getfield 127, 3) := by decide +kernel
theorem dX9_feed_16 : decode cX9_feed 16 = .ok (.iload_n 3, 1) := by decide +kernel
theorem dX9_feed_17 : decode cX9_feed 17 = .ok (.iadd, 1) := by decide +kernel
theorem dX9_feed_18 : decode cX9_feed 18 = .ok (.sipush 200, 3) := by decide +kernel
theorem dX9_feed_21 : decode cX9_feed 21 = .ok (.if_icmp .le 6, 3) := by decide +kernel
theorem dX9_feed_24 : decode cX9_feed 24 = .ok (.bipush (-2), 2) := by decide +kernel
theorem dX9_feed_26 : decode cX9_feed 26 = .ok (.ireturn, 1) := by decide +kernel
theorem dX9_feed_27 : decode cX9_feed 27 = .ok (.iconst 0, 1) := by decide +kernel
theorem dX9_feed_28 : decode cX9_feed 28 = .ok (.istore 4, 2) := by decide +kernel
theorem dX9_feed_30 : decode cX9_feed 30 = .ok (.iload 4, 2) := by decide +kernel
theorem dX9_feed_32 : decode cX9_feed 32 = .ok (.iload_n 3, 1) := by decide +kernel
theorem dX9_feed_33 : decode cX9_feed 33 = .ok (.if_icmp .ge 40, 3) := by decide +kernel
theorem dX9_feed_36 : decode cX9_feed 36 = .ok (.aload_n 0, 1) := by decide +kernel
theorem dX9_feed_37 : decode cX9_feed 37 = .ok (.getfield 22, 3) := by decide +kernel
theorem dX9_feed_40 : decode cX9_feed 40 = .ok (.aload_n 0, 1) := by decide +kernel
theorem dX9_feed_41 : decode cX9_feed 41 = .ok (.getfield 127, 3) := by decide +kernel
theorem dX9_feed_44 : decode cX9_feed 44 = .ok (.lload_n 1, 1) := by decide +kernel
theorem dX9_feed_45 : decode cX9_feed 45 = .ok (.bipush 8, 2) := by decide +kernel
theorem dX9_feed_47 : decode cX9_feed 47 = .ok (.iload 4, 2) := by decide +kernel
theorem dX9_feed_49 : decode cX9_feed 49 = .ok (.imul, 1) := by decide +kernel
theorem dX9_feed_50 : decode cX9_feed 50 = .ok (.lshr, 1) := by decide +kernel
theorem dX9_feed_51 : decode cX9_feed 51 = .ok (.ldc2_w 190, 3) := by decide +kernel
theorem dX9_feed_54 : decode cX9_feed 54 = .ok (.land, 1) := by decide +kernel
theorem dX9_feed_55 : decode cX9_feed 55 = .ok (.l2i, 1) := by decide +kernel
theorem dX9_feed_56 : decode cX9_feed 56 = .ok (.iastore, 1) := by decide +kernel
theorem dX9_feed_57 : decode cX9_feed 57 = .ok (.aload_n 0, 1) := by decide +kernel
theorem dX9_feed_58 : decode cX9_feed 58 = .ok (.dup, 1) := by decide +kernel
theorem dX9_feed_59 : decode cX9_feed 59 = .ok (.getfield 127, 3) := by decide +kernel
theorem dX9_feed_62 : decode cX9_feed 62 = .ok (.iconst 1, 1) := by decide +kernel
theorem dX9_feed_63 : decode cX9_feed 63 = .ok (.iadd, 1) := by decide +kernel
theorem dX9_feed_64 : decode cX9_feed 64 = .ok (.putfield 127, 3) := by decide +kernel
theorem dX9_feed_67 : decode cX9_feed 67 = .ok (.iinc 4 1, 3) := by decide +kernel
theorem dX9_feed_70 : decode cX9_feed 70 = .ok (.goto (-40), 3) := by decide +kernel
theorem dX9_feed_73 : decode cX9_feed 73 = .ok (.aload_n 0, 1) := by decide +kernel
theorem dX9_feed_74 : decode cX9_feed 74 = .ok (.getfield 127, 3) := by decide +kernel
theorem dX9_feed_77 : decode cX9_feed 77 = .ok (.ireturn, 1) := by decide +kernel
theorem dX9_rules_0 : decode cX9_rules 0 = .ok (.aload_n 0, 1) := by decide +kernel
theorem dX9_rules_1 : decode cX9_rules 1 = .ok (.iconst 0, 1) := by decide +kernel
theorem dX9_rules_2 : decode cX9_rules 2 = .ok (.putfield 131, 3) := by decide +kernel
theorem dX9_rules_5 : decode cX9_rules 5 = .ok (.aload_n 0, 1) := by decide +kernel
theorem dX9_rules_6 : decode cX9_rules 6 = .ok (.iconst 0, 1) := by decide +kernel
theorem dX9_rules_7 : decode cX9_rules 7 = .ok (.putfield 158, 3) := by decide +kernel
theorem dX9_rules_10 : decode cX9_rules 10 = .ok (.iconst 0, 1) := by decide +kernel
theorem dX9_rules_11 : decode cX9_rules 11 = .ok (.istore_n 1, 1) := by decide +kernel
theorem dX9_rules_12 : decode cX9_rules 12 = .ok (.aload_n 0, 1) := by decide +kernel
theorem dX9_rules_13 : decode cX9_rules 13 = .ok (.invokevirtual 155, 3) := by decide +kernel
theorem dX9_rules_16 : decode cX9_rules 16 = .ok (.iconst 1, 1) := by decide +kernel
theorem dX9_rules_17 : decode cX9_rules 17 = .ok (.istore_n 2, 1) := by decide +kernel
theorem dX9_rules_18 : decode cX9_rules 18 = .ok (.iload_n 2, 1) := by decide +kernel
theorem dX9_rules_19 : decode cX9_rules 19 = .ok (.ifCond .eq 23, 3) := by decide +kernel
theorem dX9_rules_22 : decode cX9_rules 22 = .ok (.aload_n 0, 1) := by decide +kernel
theorem dX9_rules_23 : decode cX9_rules 23 = .ok (.getfield 140, 3) := by decide +kernel
theorem dX9_rules_26 : decode cX9_rules 26 = .ok (.iconst (-1), 1) := by decide +kernel
theorem dX9_rules_27 : decode cX9_rules 27 = .ok (.if_icmp .eq 15, 3) := by decide +kernel
theorem dX9_rules_30 : decode cX9_rules 30 = .ok (.aload_n 0, 1) := by decide +kernel
theorem dX9_rules_31 : decode cX9_rules 31 = .ok (.iload_n 1, 1) := by decide +kernel
theorem dX9_rules_32 : decode cX9_rules 32 = .ok (.invokevirtual 192, 3) := by decide +kernel
theorem dX9_rules_35 : decode cX9_rules 35 = .ok (.istore_n 2, 1) := by decide +kernel
theorem dX9_rules_36 : decode cX9_rules 36 = .ok (.iinc 1 1, 3) := by decide +kernel
theorem dX9_rules_39 : decode cX9_rules 39 = .ok (.goto (-21), 3) := by decide +kernel
theorem dX9_rules_42 : decode cX9_rules 42 = .ok (.aload_n 0, 1) := by decide +kernel
theorem dX9_rules_43 : decode cX9_rules 43 = .ok (.iconst 0, 1) := by decide +kernel
theorem dX9_rules_44 : decode cX9_rules 44 = .ok (.putfield 127, 3) := by decide +kernel
theorem dX9_rules_47 : decode cX9_rules 47 = .ok (.iload_n 2, 1) := by decide +kernel
theorem dX9_rules_48 : decode cX9_rules 48 = .ok (.ifCond .ne 11, 3) := by decide +kernel
theorem dX9_rules_51 : decode cX9_rules 51 = .ok (.bipush (-100), 2) := by decide +kernel
theorem dX9_rules_53 : decode cX9_rules 53 = .ok (.aload_n 0, 1) := by decide +kernel
theorem dX9_rules_54 : decode cX9_rules 54 = .ok (.getfield 134, 3) := by decide +kernel
theorem dX9_rules_57 : decode cX9_rules 57 = .ok (.isub, 1) := by decide +kernel
theorem dX9_rules_58 : decode cX9_rules 58 = .ok (.ireturn, 1) := by decide +kernel
theorem dX9_rules_59 : decode cX9_rules 59 = .ok (.aload_n 0, 1) := by decide +kernel
theorem dX9_rules_60 : decode cX9_rules 60 = .ok (.getfield 9, 3) := by decide +kernel
theorem dX9_rules_63 : decode cX9_rules 63 = .ok (.iconst 5, 1) := by decide +kernel
theorem dX9_rules_64 : decode cX9_rules 64 = .ok (.iload_n 1, 1) := by decide +kernel
theorem dX9_rules_65 : decode cX9_rules 65 = .ok (.iastore, 1) := by decide +kernel
theorem dX9_rules_66 : decode cX9_rules 66 = .ok (.iconst 0, 1) := by decide +kernel
theorem dX9_rules_67 : decode cX9_rules 67 = .ok (.istore_n 3, 1) := by decide +kernel
theorem dX9_rules_68 : decode cX9_rules 68 = .ok (.iload_n 3, 1) := by decide +kernel
theorem dX9_rules_69 : decode cX9_rules 69 = .ok (.iconst 3, 1) := by decide +kernel
theorem dX9_rules_70 : decode cX9_rules 70 = .ok (.iload_n 1, 1) := by decide +kernel
theorem dX9_rules_71 : decode cX9_rules 71 = .ok (.imul, 1) := by decide +kernel
theorem dX9_rules_72 : decode cX9_rules 72 = .ok (.if_icmp .ge 24, 3) := by decide +kernel
theorem dX9_rules_75 : decode cX9_rules 75 = .ok (.aload_n 0, 1) := by decide +kernel
theorem dX9_rules_76 : decode cX9_rules 76 = .ok (.getfield 9, 3) := by decide +kernel
theorem dX9_rules_79 : decode cX9_rules 79 = .ok (.bipush 89, 2) := by decide +kernel
theorem dX9_rules_81 : decode cX9_rules 81 = .ok (.iload_n 3, 1) := by decide +kernel
theorem dX9_rules_82 : decode cX9_rules 82 = .ok (.iadd, 1) := by decide +kernel
theorem dX9_rules_83 : decode cX9_rules 83 = .ok (.aload_n 0, 1) := by decide +kernel
theorem dX9_rules_84 : decode cX9_rules 84 = .ok (.getfield 32, 3) := by decide +kernel
theorem dX9_rules_87 : decode cX9_rules 87 = .ok (.iload_n 3, 1) := by decide +kernel
theorem dX9_rules_88 : decode cX9_rules 88 = .ok (.iaload, 1) := by decide +kernel
theorem dX9_rules_89 : decode cX9_rules 89 = .ok (.iastore, 1) := by decide +kernel
theorem dX9_rules_90 : decode cX9_rules 90 = .ok (.iinc 3 1, 3) := by decide +kernel
theorem dX9_rules_93 : decode cX9_rules 93 = .ok (.goto (-25), 3) := by decide +kernel
theorem dX9_rules_96 : decode cX9_rules 96 = .ok (.iconst 0, 1) := by decide +kernel
theorem dX9_rules_97 : decode cX9_rules 97 = .ok (.istore_n 3, 1) := by decide +kernel
theorem dX9_rules_98 : decode cX9_rules 98 = .ok (.iload_n 3, 1) := by decide +kernel
theorem dX9_rules_99 : decode cX9_rules 99 = .ok (.aload_n 0, 1) := by decide +kernel
theorem dX9_rules_100 : decode cX9_rules 100 = .ok (.getfield 158, 3) := by decide +kernel
theorem dX9_rules_103 : decode cX9_rules 103 = .ok (.if_icmp .ge 24, 3) := by decide +kernel
theorem dX9_rules_106 : decode cX9_rules 106 = .ok (.aload_n 0, 1) := by decide +kernel
theorem dX9_rules_107 : decode cX9_rules 107 = .ok (.getfield 9, 3) := by decide +kernel
theorem dX9_rules_110 : decode cX9_rules 110 = .ok (.bipush 113, 2) := by decide +kernel
theorem dX9_rules_112 : decode cX9_rules 112 = .ok (.iload_n 3, 1) := by decide +kernel
theorem dX9_rules_113 : decode cX9_rules 113 = .ok (.iadd, 1) := by decide +kernel
theorem dX9_rules_114 : decode cX9_rules 114 = .ok (.aload_n 0, 1) := by decide +kernel
theorem dX9_rules_115 : decode cX9_rules 115 = .ok (.getfield 29, 3) := by decide +kernel
theorem dX9_rules_118 : decode cX9_rules 118 = .ok (.iload_n 3, 1) := by decide +kernel
theorem dX9_rules_119 : decode cX9_rules 119 = .ok (.iaload, 1) := by decide +kernel
theorem dX9_rules_120 : decode cX9_rules 120 = .ok (.iastore, 1) := by decide +kernel
theorem dX9_rules_121 : decode cX9_rules 121 = .ok (.iinc 3 1, 3) := by decide +kernel
theorem dX9_rules_124 : decode cX9_rules 124 = .ok (.goto (-26), 3) := by decide +kernel
theorem dX9_rules_127 : decode cX9_rules 127 = .ok (.iload_n 1, 1) := by decide +kernel
theorem dX9_rules_128 : decode cX9_rules 128 = .ok (.ireturn, 1) := by decide +kernel
theorem dX9_enters_0 : decode cX9_enters 0 = .ok (.aload_n 0, 1) := by decide +kernel
theorem dX9_enters_1 : decode cX9_enters 1 = .ok (.iload_n 1, 1) := by decide +kernel
theorem dX9_enters_2 : decode cX9_enters 2 = .ok (.invokevirtual 105, 3) := by decide +kernel
theorem dX9_enters_5 : decode cX9_enters 5 = .ok (.istore_n 2, 1) := by decide +kernel
theorem dX9_enters_6 : decode cX9_enters 6 = .ok (.aload_n 0, 1) := by decide +kernel
theorem dX9_enters_7 : decode cX9_enters 7 = .ok (.iload_n 1, 1) := by decide +kernel
theorem dX9_enters_8 : decode cX9_enters 8 = .ok (.iconst 4, 1) := by decide +kernel
theorem dX9_enters_9 : decode cX9_enters 9 = .ok (.iload_n 2, 1) := by decide +kernel
theorem dX9_enters_10 : decode cX9_enters 10 = .ok (.ifCond .le 7, 3) := by decide +kernel
theorem dX9_enters_13 : decode cX9_enters 13 = .ok (.iconst 1, 1) := by decide +kernel
theorem dX9_enters_14 : decode cX9_enters 14 = .ok (.goto 4, 3) := by decide +kernel
theorem dX9_enters_17 : decode cX9_enters 17 = .ok (.iconst 0, 1) := by decide +kernel
theorem dX9_enters_18 : decode cX9_enters 18 = .ok (.invokevirtual 195, 3) := by decide +kernel
theorem dX9_enters_21 : decode cX9_enters 21 = .ok (.iload_n 2, 1) := by decide +kernel
theorem dX9_enters_22 : decode cX9_enters 22 = .ok (.ireturn, 1) := by decide +kernel
theorem dX9_meets_0 : decode cX9_meets 0 = .ok (.aload_n 0, 1) := by decide +kernel
theorem dX9_meets_1 : decode cX9_meets 1 = .ok (.iload_n 1, 1) := by decide +kernel
theorem dX9_meets_2 : decode cX9_meets 2 = .ok (.invokevirtual 102, 3) := by decide +kernel
theorem dX9_meets_5 : decode cX9_meets 5 = .ok (.istore_n 2, 1) := by decide +kernel
theorem dX9_meets_6 : decode cX9_meets 6 = .ok (.aload_n 0, 1) := by decide +kernel
theorem dX9_meets_7 : decode cX9_meets 7 = .ok (.iload_n 1, 1) := by decide +kernel
theorem dX9_meets_8 : decode cX9_meets 8 = .ok (.iconst 4, 1) := by decide +kernel
theorem dX9_meets_9 : decode cX9_meets 9 = .ok (.invokevirtual 79, 3) := by decide +kernel
theorem dX9_meets_12 : decode cX9_meets 12 = .ok (.iconst 1, 1) := by decide +kernel
theorem dX9_meets_13 : decode cX9_meets 13 = .ok (.if_icmp .eq 8, 3) := by decide +kernel
theorem dX9_meets_16 : decode cX9_meets 16 = .ok (.iload_n 2, 1) := by decide +kernel
theorem dX9_meets_17 : decode cX9_meets 17 = .ok (.iconst 1, 1) := by decide +kernel
theorem dX9_meets_18 : decode cX9_meets 18 = .ok (.if_icmp .ne 5, 3) := by decide +kernel
theorem dX9_meets_21 : decode cX9_meets 21 = .ok (.iconst 0, 1) := by decide +kernel
theorem dX9_meets_22 : decode cX9_meets 22 = .ok (.ireturn, 1) := by decide +kernel
theorem dX9_meets_23 : decode cX9_meets 23 = .ok (.iload_n 2, 1) := by decide +kernel
theorem dX9_meets_24 : decode cX9_meets 24 = .ok (.ifCond .ne 9, 3) := by decide +kernel
theorem dX9_meets_27 : decode cX9_meets 27 = .ok (.aload_n 0, 1) := by decide +kernel
theorem dX9_meets_28 : decode cX9_meets 28 = .ok (.iload_n 1, 1) := by decide +kernel
theorem dX9_meets_29 : decode cX9_meets 29 = .ok (.invokevirtual 199, 3) := by decide +kernel
theorem dX9_meets_32 : decode cX9_meets 32 = .ok (.ireturn, 1) := by decide +kernel
theorem dX9_meets_33 : decode cX9_meets 33 = .ok (.aload_n 0, 1) := by decide +kernel
theorem dX9_meets_34 : decode cX9_meets 34 = .ok (.iload_n 1, 1) := by decide +kernel
theorem dX9_meets_35 : decode cX9_meets 35 = .ok (.iconst 1, 1) := by decide +kernel
theorem dX9_meets_36 : decode cX9_meets 36 = .ok (.aload_n 0, 1) := by decide +kernel
theorem dX9_meets_37 : decode cX9_meets 37 = .ok (.iload_n 1, 1) := by decide +kernel
theorem dX9_meets_38 : decode cX9_meets 38 = .ok (.iconst 1, 1) := by decide +kernel
theorem dX9_meets_39 : decode cX9_meets 39 = .ok (.invokevirtual 79, 3) := by decide +kernel
theorem dX9_meets_42 : decode cX9_meets 42 = .ok (.bipush 12, 2) := by decide +kernel
theorem dX9_meets_44 : decode cX9_meets 44 = .ok (.iadd, 1) := by decide +kernel
theorem dX9_meets_45 : decode cX9_meets 45 = .ok (.bipush 99, 2) := by decide +kernel
theorem dX9_meets_47 : decode cX9_meets 47 = .ok (.invokestatic 202, 3) := by decide +kernel
theorem dX9_meets_50 : decode cX9_meets 50 = .ok (.invokevirtual 195, 3) := by decide +kernel
theorem dX9_meets_53 : decode cX9_meets 53 = .ok (.aload_n 0, 1) := by decide +kernel
theorem dX9_meets_54 : decode cX9_meets 54 = .ok (.invokevirtual 83, 3) := by decide +kernel
theorem dX9_meets_57 : decode cX9_meets 57 = .ok (.iconst 4, 1) := by decide +kernel
theorem dX9_meets_58 : decode cX9_meets 58 = .ok (.irem, 1) := by decide +kernel
theorem dX9_meets_59 : decode cX9_meets 59 = .ok (.iconst 1, 1) := by decide +kernel
theorem dX9_meets_60 : decode cX9_meets 60 = .ok (.if_icmp .le 7, 3) := by decide +kernel
theorem dX9_meets_63 : decode cX9_meets 63 = .ok (.iconst 1, 1) := by decide +kernel
theorem dX9_meets_64 : decode cX9_meets 64 = .ok (.goto 4, 3) := by decide +kernel
theorem dX9_meets_67 : decode cX9_meets 67 = .ok (.iconst 0, 1) := by decide +kernel
theorem dX9_meets_68 : decode cX9_meets 68 = .ok (.ireturn, 1) := by decide +kernel
theorem dX9_restOne_0 : decode cX9_restOne 0 = .ok (.iconst 0, 1) := by decide +kernel
theorem dX9_restOne_1 : decode cX9_restOne 1 = .ok (.istore_n 1, 1) := by decide +kernel
theorem dX9_restOne_2 : decode cX9_restOne 2 = .ok (.iload_n 1, 1) := by decide +kernel
theorem dX9_restOne_3 : decode cX9_restOne 3 = .ok (.aload_n 0, 1) := by decide +kernel
theorem dX9_restOne_4 : decode cX9_restOne 4 = .ok (.getfield 9, 3) := by decide +kernel
theorem dX9_restOne_7 : decode cX9_restOne 7 = .ok (.iconst 4, 1) := by decide +kernel
theorem dX9_restOne_8 : decode cX9_restOne 8 = .ok (.iaload, 1) := by decide +kernel
theorem dX9_restOne_9 : decode cX9_restOne 9 = .ok (.if_icmp .ge 19, 3) := by decide +kernel
theorem dX9_restOne_12 : decode cX9_restOne 12 = .ok (.aload_n 0, 1) := by decide +kernel
theorem dX9_restOne_13 : decode cX9_restOne 13 = .ok (.iload_n 1, 1) := by decide +kernel
theorem dX9_restOne_14 : decode cX9_restOne 14 = .ok (.invokevirtual 205, 3) := by decide +kernel
theorem dX9_restOne_17 : decode cX9_restOne 17 = .ok (.ifCond .eq 5, 3) := by decide +kernel
theorem dX9_restOne_20 : decode cX9_restOne 20 = .ok (.iload_n 1, 1) := by decide +kernel
theorem dX9_restOne_21 : decode cX9_restOne 21 = .ok (.ireturn, 1) := by decide +kernel
theorem dX9_restOne_22 : decode cX9_restOne 22 = .ok (.iinc 1 1, 3) := by decide +kernel
theorem dX9_restOne_25 : decode cX9_restOne 25 = .ok (.goto (-23), 3) := by decide +kernel
theorem dX9_restOne_28 : decode cX9_restOne 28 = .ok (.iconst (-1), 1) := by decide +kernel
theorem dX9_restOne_29 : decode cX9_restOne 29 = .ok (.ireturn, 1) := by decide +kernel
theorem dX9_goesBy_0 : decode cX9_goesBy 0 = .ok (.iload_n 1, 1) := by decide +kernel
theorem dX9_goesBy_1 : decode cX9_goesBy 1 = .ok (.ifCond .ge 10, 3) := by decide +kernel
theorem dX9_goesBy_4 : decode cX9_goesBy 4 = .ok (.aload_n 0, 1) := by decide +kernel
theorem dX9_goesBy_5 : decode cX9_goesBy 5 = .ok (.invokevirtual 208, 3) := by decide +kernel
theorem dX9_goesBy_8 : decode cX9_goesBy 8 = .ok (.goto 6, 3) := by decide +kernel
theorem dX9_goesBy_11 : decode cX9_goesBy 11 = .ok (.iload_n 1, 1) := by decide +kernel
theorem dX9_goesBy_12 : decode cX9_goesBy 12 = .ok (.iconst 1, 1) := by decide +kernel
theorem dX9_goesBy_13 : decode cX9_goesBy 13 = .ok (.isub, 1) := by decide +kernel
theorem dX9_goesBy_14 : decode cX9_goesBy 14 = .ok (.istore_n 2, 1) := by decide +kernel
theorem dX9_goesBy_15 : decode cX9_goesBy 15 = .ok (.iload_n 2, 1) := by decide +kernel
theorem dX9_goesBy_16 : decode cX9_goesBy 16 = .ok (.ifCond .lt 11, 3) := by decide +kernel
theorem dX9_goesBy_19 : decode cX9_goesBy 19 = .ok (.aload_n 0, 1) := by decide +kernel
theorem dX9_goesBy_20 : decode cX9_goesBy 20 = .ok (.iload_n 2, 1) := by decide +kernel
theorem dX9_goesBy_21 : decode cX9_goesBy 21 = .ok (.invokevirtual 211, 3) := by decide +kernel
theorem dX9_goesBy_24 : decode cX9_goesBy 24 = .ok (.goto 4, 3) := by decide +kernel
theorem dX9_goesBy_27 : decode cX9_goesBy 27 = .ok (.iconst 0, 1) := by decide +kernel
theorem dX9_goesBy_28 : decode cX9_goesBy 28 = .ok (.istore_n 3, 1) := by decide +kernel
theorem dX9_goesBy_29 : decode cX9_goesBy 29 = .ok (.iconst 0, 1) := by decide +kernel
theorem dX9_goesBy_30 : decode cX9_goesBy 30 = .ok (.istore 4, 2) := by decide +kernel
theorem dX9_goesBy_32 : decode cX9_goesBy 32 = .ok (.iconst 0, 1) := by decide +kernel
theorem dX9_goesBy_33 : decode cX9_goesBy 33 = .ok (.istore 5, 2) := by decide +kernel
theorem dX9_goesBy_35 : decode cX9_goesBy 35 = .ok (.iload 5, 2) := by decide +kernel
theorem dX9_goesBy_37 : decode cX9_goesBy 37 = .ok (.aload_n 0, 1) := by decide +kernel
theorem dX9_goesBy_38 : decode cX9_goesBy 38 = .ok (.getfield 9, 3) := by decide +kernel
theorem dX9_goesBy_41 : decode cX9_goesBy 41 = .ok (.iconst 4, 1) := by decide +kernel
theorem dX9_goesBy_42 : decode cX9_goesBy 42 = .ok (.iaload, 1) := by decide +kernel
theorem dX9_goesBy_43 : decode cX9_goesBy 43 = .ok (.if_icmp .ge 72, 3) := by decide +kernel
theorem dX9_goesBy_46 : decode cX9_goesBy 46 = .ok (.iload 4, 2) := by decide +kernel
theorem dX9_goesBy_48 : decode cX9_goesBy 48 = .ok (.aload_n 0, 1) := by decide +kernel
theorem dX9_goesBy_49 : decode cX9_goesBy 49 = .ok (.iload 5, 2) := by decide +kernel
theorem dX9_goesBy_51 : decode cX9_goesBy 51 = .ok (.iconst 4, 1) := by decide +kernel
theorem dX9_goesBy_52 : decode cX9_goesBy 52 = .ok (.invokevirtual 79, 3) := by decide +kernel
theorem dX9_goesBy_55 : decode cX9_goesBy 55 = .ok (.iadd, 1) := by decide +kernel
theorem dX9_goesBy_56 : decode cX9_goesBy 56 = .ok (.istore 4, 2) := by decide +kernel
theorem dX9_goesBy_58 : decode cX9_goesBy 58 = .ok (.aload_n 0, 1) := by decide +kernel
theorem dX9_goesBy_59 : decode cX9_goesBy 59 = .ok (.iload 5, 2) := by decide +kernel
theorem dX9_goesBy_61 : decode cX9_goesBy 61 = .ok (.iconst 1, 1) := by decide +kernel
theorem dX9_goesBy_62 : decode cX9_goesBy 62 = .ok (.invokevirtual 79, 3) := by decide +kernel
theorem dX9_goesBy_65 : decode cX9_goesBy 65 = .ok (.aload_n 0, 1) := by decide +kernel
theorem dX9_goesBy_66 : decode cX9_goesBy 66 = .ok (.iload 5, 2) := by decide +kernel
theorem dX9_goesBy_68 : decode cX9_goesBy 68 = .ok (.invokevirtual 214, 3) := by decide +kernel
theorem dX9_goesBy_71 : decode cX9_goesBy 71 = .ok (.isub, 1) := by decide +kernel
theorem dX9_goesBy_72 : decode cX9_goesBy 72 = .ok (.bipush 99, 2) := by decide +kernel
theorem dX9_goesBy_74 : decode cX9_goesBy 74 = .ok (.invokestatic 202, 3) := by decide +kernel
theorem dX9_goesBy_77 : decode cX9_goesBy 77 = .ok (.istore 6, 2) := by decide +kernel
theorem dX9_goesBy_79 : decode cX9_goesBy 79 = .ok (.aload_n 0, 1) := by decide +kernel
theorem dX9_goesBy_80 : decode cX9_goesBy 80 = .ok (.iload 5, 2) := by decide +kernel
theorem dX9_goesBy_82 : decode cX9_goesBy 82 = .ok (.iconst 1, 1) := by decide +kernel
theorem dX9_goesBy_83 : decode cX9_goesBy 83 = .ok (.aload_n 0, 1) := by decide +kernel
theorem dX9_goesBy_84 : decode cX9_goesBy 84 = .ok (.iload 5, 2) := by decide +kernel
theorem dX9_goesBy_86 : decode cX9_goesBy 86 = .ok (.iconst 4, 1) := by decide +kernel
theorem dX9_goesBy_87 : decode cX9_goesBy 87 = .ok (.invokevirtual 79, 3) := by decide +kernel
theorem dX9_goesBy_90 : decode cX9_goesBy 90 = .ok (.iconst 1, 1) := by decide +kernel
theorem dX9_goesBy_91 : decode cX9_goesBy 91 = .ok (.if_icmp .ne 13, 3) := by decide +kernel
theorem dX9_goesBy_94 : decode cX9_goesBy 94 = .ok (.aload_n 0, 1) := by decide +kernel
theorem dX9_goesBy_95 : decode cX9_goesBy 95 = .ok (.iload 5, 2) := by decide +kernel
theorem dX9_goesBy_97 : decode cX9_goesBy 97 = .ok (.iconst 1, 1) := by decide +kernel
theorem dX9_goesBy_98 : decode cX9_goesBy 98 = .ok (.invokevirtual 79, 3) := by decide +kernel
theorem dX9_goesBy_101 : decode cX9_goesBy 101 = .ok (.goto 5, 3) := by decide +kernel
theorem dX9_goesBy_104 : decode cX9_goesBy 104 = .ok (.iload 6, 2) := by decide +kernel
theorem dX9_goesBy_106 : decode cX9_goesBy 106 = .ok (.invokevirtual 195, 3) := by decide +kernel
theorem dX9_goesBy_109 : decode cX9_goesBy 109 = .ok (.iinc 5 1, 3) := by decide +kernel
theorem dX9_goesBy_112 : decode cX9_goesBy 112 = .ok (.goto (-77), 3) := by decide +kernel
theorem dX9_goesBy_115 : decode cX9_goesBy 115 = .ok (.iload 4, 2) := by decide +kernel
theorem dX9_goesBy_117 : decode cX9_goesBy 117 = .ok (.aload_n 0, 1) := by decide +kernel
theorem dX9_goesBy_118 : decode cX9_goesBy 118 = .ok (.invokevirtual 217, 3) := by decide +kernel
theorem dX9_goesBy_121 : decode cX9_goesBy 121 = .ok (.isub, 1) := by decide +kernel
theorem dX9_goesBy_122 : decode cX9_goesBy 122 = .ok (.istore 5, 2) := by decide +kernel
theorem dX9_goesBy_124 : decode cX9_goesBy 124 = .ok (.iload_n 3, 1) := by decide +kernel
theorem dX9_goesBy_125 : decode cX9_goesBy 125 = .ok (.iload 5, 2) := by decide +kernel
theorem dX9_goesBy_127 : decode cX9_goesBy 127 = .ok (.ifCond .le 8, 3) := by decide +kernel
theorem dX9_goesBy_130 : decode cX9_goesBy 130 = .ok (.iload 5, 2) := by decide +kernel
theorem dX9_goesBy_132 : decode cX9_goesBy 132 = .ok (.goto 4, 3) := by decide +kernel
theorem dX9_goesBy_135 : decode cX9_goesBy 135 = .ok (.iconst 0, 1) := by decide +kernel
theorem dX9_goesBy_136 : decode cX9_goesBy 136 = .ok (.iadd, 1) := by decide +kernel
theorem dX9_goesBy_137 : decode cX9_goesBy 137 = .ok (.istore_n 3, 1) := by decide +kernel
theorem dX9_goesBy_138 : decode cX9_goesBy 138 = .ok (.aload_n 0, 1) := by decide +kernel
theorem dX9_goesBy_139 : decode cX9_goesBy 139 = .ok (.getfield 9, 3) := by decide +kernel
theorem dX9_goesBy_142 : decode cX9_goesBy 142 = .ok (.iconst 0, 1) := by decide +kernel
theorem dX9_goesBy_143 : decode cX9_goesBy 143 = .ok (.dup2, 1) := by decide +kernel
theorem dX9_goesBy_144 : decode cX9_goesBy 144 = .ok (.iaload, 1) := by decide +kernel
theorem dX9_goesBy_145 : decode cX9_goesBy 145 = .ok (.iconst 1, 1) := by decide +kernel
theorem dX9_goesBy_146 : decode cX9_goesBy 146 = .ok (.iadd, 1) := by decide +kernel
theorem dX9_goesBy_147 : decode cX9_goesBy 147 = .ok (.iastore, 1) := by decide +kernel
theorem dX9_goesBy_148 : decode cX9_goesBy 148 = .ok (.aload_n 0, 1) := by decide +kernel
theorem dX9_goesBy_149 : decode cX9_goesBy 149 = .ok (.getfield 9, 3) := by decide +kernel
theorem dX9_goesBy_152 : decode cX9_goesBy 152 = .ok (.iconst 2, 1) := by decide +kernel
theorem dX9_goesBy_153 : decode cX9_goesBy 153 = .ok (.dup2, 1) := by decide +kernel
theorem dX9_goesBy_154 : decode cX9_goesBy 154 = .ok (.iaload, 1) := by decide +kernel
theorem dX9_goesBy_155 : decode cX9_goesBy 155 = .ok (.iload_n 3, 1) := by decide +kernel
theorem dX9_goesBy_156 : decode cX9_goesBy 156 = .ok (.iadd, 1) := by decide +kernel
theorem dX9_goesBy_157 : decode cX9_goesBy 157 = .ok (.iastore, 1) := by decide +kernel
theorem dX9_goesBy_158 : decode cX9_goesBy 158 = .ok (.iload_n 3, 1) := by decide +kernel
theorem dX9_goesBy_159 : decode cX9_goesBy 159 = .ok (.ireturn, 1) := by decide +kernel
theorem dX9_isDigit_0 : decode cX9_isDigit 0 = .ok (.iload_n 0, 1) := by decide +kernel
theorem dX9_isDigit_1 : decode cX9_isDigit 1 = .ok (.iconst 0, 1) := by decide +kernel
theorem dX9_isDigit_2 : decode cX9_isDigit 2 = .ok (.bipush 9, 2) := by decide +kernel
theorem dX9_isDigit_4 : decode cX9_isDigit 4 = .ok (.invokestatic 71, 3) := by decide +kernel
theorem dX9_isDigit_7 : decode cX9_isDigit 7 = .ok (.ireturn, 1) := by decide +kernel
theorem dX9_isLane_0 : decode cX9_isLane 0 = .ok (.iload_n 0, 1) := by decide +kernel
theorem dX9_isLane_1 : decode cX9_isLane 1 = .ok (.iconst 0, 1) := by decide +kernel
theorem dX9_isLane_2 : decode cX9_isLane 2 = .ok (.iconst 5, 1) := by decide +kernel
theorem dX9_isLane_3 : decode cX9_isLane 3 = .ok (.invokestatic 71, 3) := by decide +kernel
theorem dX9_isLane_6 : decode cX9_isLane 6 = .ok (.ireturn, 1) := by decide +kernel
theorem dX9_ship_0 : decode cX9_ship 0 = .ok (.iload_n 1, 1) := by decide +kernel
theorem dX9_ship_1 : decode cX9_ship 1 = .ok (.iconst 1, 1) := by decide +kernel
theorem dX9_ship_2 : decode cX9_ship 2 = .ok (.iconst 5, 1) := by decide +kernel
theorem dX9_ship_3 : decode cX9_ship 3 = .ok (.invokestatic 71, 3) := by decide +kernel
theorem dX9_ship_6 : decode cX9_ship 6 = .ok (.ifCond .eq 28, 3) := by decide +kernel
theorem dX9_ship_9 : decode cX9_ship 9 = .ok (.iload_n 2, 1) := by decide +kernel
theorem dX9_ship_10 : decode cX9_ship 10 = .ok (.iconst 0, 1) := by decide +kernel
theorem dX9_ship_11 : decode cX9_ship 11 = .ok (.bipush 99, 2) := by decide +kernel
theorem dX9_ship_13 : decode cX9_ship 13 = .ok (.invokestatic 71, 3) := by decide +kernel
theorem dX9_ship_16 : decode cX9_ship 16 = .ok (.ifCond .eq 18, 3) := by decide +kernel
theorem dX9_ship_19 : decode cX9_ship 19 = .ok (.iload_n 3, 1) := by decide +kernel
theorem dX9_ship_20 : decode cX9_ship 20 = .ok (.invokestatic 220, 3) := by decide +kernel
theorem dX9_ship_23 : decode cX9_ship 23 = .ok (.ifCond .eq 11, 3) := by decide +kernel
theorem dX9_ship_26 : decode cX9_ship 26 = .ok (.iload 4, 2) := by decide +kernel
theorem dX9_ship_28 : decode cX9_ship 28 = .ok (.invokestatic 223, 3) := by decide +kernel
theorem dX9_ship_31 : decode cX9_ship 31 = .ok (.ifCond .ne 5, 3) := by decide +kernel
theorem dX9_ship_34 : decode cX9_ship 34 = .ok (.iconst (-1), 1) := by decide +kernel
theorem dX9_ship_35 : decode cX9_ship 35 = .ok (.ireturn, 1) := by decide +kernel
theorem dX9_ship_36 : decode cX9_ship 36 = .ok (.aload_n 0, 1) := by decide +kernel
theorem dX9_ship_37 : decode cX9_ship 37 = .ok (.getfield 9, 3) := by decide +kernel
theorem dX9_ship_40 : decode cX9_ship 40 = .ok (.iconst 4, 1) := by decide +kernel
theorem dX9_ship_41 : decode cX9_ship 41 = .ok (.iaload, 1) := by decide +kernel
theorem dX9_ship_42 : decode cX9_ship 42 = .ok (.bipush 6, 2) := by decide +kernel
theorem dX9_ship_44 : decode cX9_ship 44 = .ok (.if_icmp .ne 6, 3) := by decide +kernel
theorem dX9_ship_47 : decode cX9_ship 47 = .ok (.bipush (-2), 2) := by decide +kernel
theorem dX9_ship_49 : decode cX9_ship 49 = .ok (.ireturn, 1) := by decide +kernel
theorem dX9_ship_50 : decode cX9_ship 50 = .ok (.aload_n 0, 1) := by decide +kernel
theorem dX9_ship_51 : decode cX9_ship 51 = .ok (.getfield 9, 3) := by decide +kernel
theorem dX9_ship_54 : decode cX9_ship 54 = .ok (.iconst 4, 1) := by decide +kernel
theorem dX9_ship_55 : decode cX9_ship 55 = .ok (.iaload, 1) := by decide +kernel
theorem dX9_ship_56 : decode cX9_ship 56 = .ok (.istore 5, 2) := by decide +kernel
theorem dX9_ship_58 : decode cX9_ship 58 = .ok (.aload_n 0, 1) := by decide +kernel
theorem dX9_ship_59 : decode cX9_ship 59 = .ok (.iload 5, 2) := by decide +kernel
theorem dX9_ship_61 : decode cX9_ship 61 = .ok (.iconst 0, 1) := by decide +kernel
theorem dX9_ship_62 : decode cX9_ship 62 = .ok (.iload_n 1, 1) := by decide +kernel
theorem dX9_ship_63 : decode cX9_ship 63 = .ok (.invokevirtual 195, 3) := by decide +kernel
theorem dX9_ship_66 : decode cX9_ship 66 = .ok (.aload_n 0, 1) := by decide +kernel
theorem dX9_ship_67 : decode cX9_ship 67 = .ok (.iload 5, 2) := by decide +kernel
theorem dX9_ship_69 : decode cX9_ship 69 = .ok (.iconst 1, 1) := by decide +kernel
theorem dX9_ship_70 : decode cX9_ship 70 = .ok (.iload_n 2, 1) := by decide +kernel
theorem dX9_ship_71 : decode cX9_ship 71 = .ok (.invokevirtual 195, 3) := by decide +kernel
theorem dX9_ship_74 : decode cX9_ship 74 = .ok (.aload_n 0, 1) := by decide +kernel
theorem dX9_ship_75 : decode cX9_ship 75 = .ok (.iload 5, 2) := by decide +kernel
theorem dX9_ship_77 : decode cX9_ship 77 = .ok (.iconst 2, 1) := by decide +kernel
theorem dX9_ship_78 : decode cX9_ship 78 = .ok (.iload_n 3, 1) := by decide +kernel
theorem dX9_ship_79 : decode cX9_ship 79 = .ok (.invokevirtual 195, 3) := by decide +kernel
theorem dX9_ship_82 : decode cX9_ship 82 = .ok (.aload_n 0, 1) := by decide +kernel
theorem dX9_ship_83 : decode cX9_ship 83 = .ok (.iload 5, 2) := by decide +kernel
theorem dX9_ship_85 : decode cX9_ship 85 = .ok (.iconst 3, 1) := by decide +kernel
theorem dX9_ship_86 : decode cX9_ship 86 = .ok (.iload 4, 2) := by decide +kernel
theorem dX9_ship_88 : decode cX9_ship 88 = .ok (.invokevirtual 195, 3) := by decide +kernel
theorem dX9_ship_91 : decode cX9_ship 91 = .ok (.aload_n 0, 1) := by decide +kernel
theorem dX9_ship_92 : decode cX9_ship 92 = .ok (.iload 5, 2) := by decide +kernel
theorem dX9_ship_94 : decode cX9_ship 94 = .ok (.iconst 4, 1) := by decide +kernel
theorem dX9_ship_95 : decode cX9_ship 95 = .ok (.iconst 0, 1) := by decide +kernel
theorem dX9_ship_96 : decode cX9_ship 96 = .ok (.invokevirtual 195, 3) := by decide +kernel
theorem dX9_ship_99 : decode cX9_ship 99 = .ok (.aload_n 0, 1) := by decide +kernel
theorem dX9_ship_100 : decode cX9_ship 100 = .ok (.getfield 9, 3) := by decide +kernel
theorem dX9_ship_103 : decode cX9_ship 103 = .ok (.iconst 4, 1) := by decide +kernel
theorem dX9_ship_104 : decode cX9_ship 104 = .ok (.dup2, 1) := by decide +kernel
theorem dX9_ship_105 : decode cX9_ship 105 = .ok (.iaload, 1) := by decide +kernel
theorem dX9_ship_106 : decode cX9_ship 106 = .ok (.iconst 1, 1) := by decide +kernel
theorem dX9_ship_107 : decode cX9_ship 107 = .ok (.iadd, 1) := by decide +kernel
theorem dX9_ship_108 : decode cX9_ship 108 = .ok (.iastore, 1) := by decide +kernel
theorem dX9_ship_109 : decode cX9_ship 109 = .ok (.iload 5, 2) := by decide +kernel
theorem dX9_ship_111 : decode cX9_ship 111 = .ok (.ireturn, 1) := by decide +kernel
theorem dX9_shipOf_0 : decode cX9_shipOf 0 = .ok (.aload_n 0, 1) := by decide +kernel
theorem dX9_shipOf_1 : decode cX9_shipOf 1 = .ok (.iload_n 1, 1) := by decide +kernel
theorem dX9_shipOf_2 : decode cX9_shipOf 2 = .ok (.invokevirtual 226, 3) := by decide +kernel
theorem dX9_shipOf_5 : decode cX9_shipOf 5 = .ok (.ifCond .eq 13, 3) := by decide +kernel
theorem dX9_shipOf_8 : decode cX9_shipOf 8 = .ok (.iload_n 2, 1) := by decide +kernel
theorem dX9_shipOf_9 : decode cX9_shipOf 9 = .ok (.iconst 0, 1) := by decide +kernel
theorem dX9_shipOf_10 : decode cX9_shipOf 10 = .ok (.bipush 9, 2) := by decide +kernel
theorem dX9_shipOf_12 : decode cX9_shipOf 12 = .ok (.invokestatic 71, 3) := by decide +kernel
theorem dX9_shipOf_15 : decode cX9_shipOf 15 = .ok (.ifCond .ne 5, 3) := by decide +kernel
theorem dX9_shipOf_18 : decode cX9_shipOf 18 = .ok (.iconst (-1), 1) := by decide +kernel
theorem dX9_shipOf_19 : decode cX9_shipOf 19 = .ok (.ireturn, 1) := by decide +kernel
theorem dX9_shipOf_20 : decode cX9_shipOf 20 = .ok (.iload_n 2, 1) := by decide +kernel
theorem dX9_shipOf_21 : decode cX9_shipOf 21 = .ok (.tableswitch 79 5 9 #[35, 41, 53, 59, 73], 35) := by decide +kernel
theorem dX9_shipOf_56 : decode cX9_shipOf 56 = .ok (.aload_n 0, 1) := by decide +kernel
theorem dX9_shipOf_57 : decode cX9_shipOf 57 = .ok (.iload_n 1, 1) := by decide +kernel
theorem dX9_shipOf_58 : decode cX9_shipOf 58 = .ok (.invokevirtual 214, 3) := by decide +kernel
theorem dX9_shipOf_61 : decode cX9_shipOf 61 = .ok (.ireturn, 1) := by decide +kernel
theorem dX9_shipOf_62 : decode cX9_shipOf 62 = .ok (.aload_n 0, 1) := by decide +kernel
theorem dX9_shipOf_63 : decode cX9_shipOf 63 = .ok (.iload_n 1, 1) := by decide +kernel
theorem dX9_shipOf_64 : decode cX9_shipOf 64 = .ok (.aload_n 0, 1) := by decide +kernel
theorem dX9_shipOf_65 : decode cX9_shipOf 65 = .ok (.iload_n 1, 1) := by decide +kernel
theorem dX9_shipOf_66 : decode cX9_shipOf 66 = .ok (.iconst 2, 1) := by decide +kernel
theorem dX9_shipOf_67 : decode cX9_shipOf 67 = .ok (.invokevirtual 79, 3) := by decide +kernel
theorem dX9_shipOf_70 : decode cX9_shipOf 70 = .ok (.invokevirtual 95, 3) := by decide +kernel
theorem dX9_shipOf_73 : decode cX9_shipOf 73 = .ok (.ireturn, 1) := by decide +kernel
theorem dX9_shipOf_74 : decode cX9_shipOf 74 = .ok (.aload_n 0, 1) := by decide +kernel
theorem dX9_shipOf_75 : decode cX9_shipOf 75 = .ok (.iload_n 1, 1) := by decide +kernel
theorem dX9_shipOf_76 : decode cX9_shipOf 76 = .ok (.invokevirtual 105, 3) := by decide +kernel
theorem dX9_shipOf_79 : decode cX9_shipOf 79 = .ok (.ireturn, 1) := by decide +kernel
theorem dX9_shipOf_80 : decode cX9_shipOf 80 = .ok (.aload_n 0, 1) := by decide +kernel
theorem dX9_shipOf_81 : decode cX9_shipOf 81 = .ok (.iload_n 1, 1) := by decide +kernel
theorem dX9_shipOf_82 : decode cX9_shipOf 82 = .ok (.invokevirtual 205, 3) := by decide +kernel
theorem dX9_shipOf_85 : decode cX9_shipOf 85 = .ok (.ifCond .eq 7, 3) := by decide +kernel
theorem dX9_shipOf_88 : decode cX9_shipOf 88 = .ok (.iconst 1, 1) := by decide +kernel
theorem dX9_shipOf_89 : decode cX9_shipOf 89 = .ok (.goto 4, 3) := by decide +kernel
theorem dX9_shipOf_92 : decode cX9_shipOf 92 = .ok (.iconst 0, 1) := by decide +kernel
theorem dX9_shipOf_93 : decode cX9_shipOf 93 = .ok (.ireturn, 1) := by decide +kernel
theorem dX9_shipOf_94 : decode cX9_shipOf 94 = .ok (.aload_n 0, 1) := by decide +kernel
theorem dX9_shipOf_95 : decode cX9_shipOf 95 = .ok (.iload_n 1, 1) := by decide +kernel
theorem dX9_shipOf_96 : decode cX9_shipOf 96 = .ok (.invokevirtual 102, 3) := by decide +kernel
theorem dX9_shipOf_99 : decode cX9_shipOf 99 = .ok (.ireturn, 1) := by decide +kernel
theorem dX9_shipOf_100 : decode cX9_shipOf 100 = .ok (.aload_n 0, 1) := by decide +kernel
theorem dX9_shipOf_101 : decode cX9_shipOf 101 = .ok (.iload_n 1, 1) := by decide +kernel
theorem dX9_shipOf_102 : decode cX9_shipOf 102 = .ok (.iload_n 2, 1) := by decide +kernel
theorem dX9_shipOf_103 : decode cX9_shipOf 103 = .ok (.invokevirtual 79, 3) := by decide +kernel
theorem dX9_shipOf_106 : decode cX9_shipOf 106 = .ok (.ireturn, 1) := by decide +kernel
theorem dX9_change_0 : decode cX9_change 0 = .ok (.iload_n 2, 1) := by decide +kernel
theorem dX9_change_1 : decode cX9_change 1 = .ok (.iconst 1, 1) := by decide +kernel
theorem dX9_change_2 : decode cX9_change 2 = .ok (.if_icmp .ne 8, 3) := by decide +kernel
theorem dX9_change_5 : decode cX9_change 5 = .ok (.bipush 99, 2) := by decide +kernel
theorem dX9_change_7 : decode cX9_change 7 = .ok (.goto 23, 3) := by decide +kernel
theorem dX9_change_10 : decode cX9_change 10 = .ok (.iload_n 2, 1) := by decide +kernel
theorem dX9_change_11 : decode cX9_change 11 = .ok (.iconst 3, 1) := by decide +kernel
theorem dX9_change_12 : decode cX9_change 12 = .ok (.if_icmp .ne 7, 3) := by decide +kernel
theorem dX9_change_15 : decode cX9_change 15 = .ok (.iconst 5, 1) := by decide +kernel
theorem dX9_change_16 : decode cX9_change 16 = .ok (.goto 14, 3) := by decide +kernel
theorem dX9_change_19 : decode cX9_change 19 = .ok (.iload_n 2, 1) := by decide +kernel
theorem dX9_change_20 : decode cX9_change 20 = .ok (.iconst 4, 1) := by decide +kernel
theorem dX9_change_21 : decode cX9_change 21 = .ok (.if_icmp .ne 7, 3) := by decide +kernel
theorem dX9_change_24 : decode cX9_change 24 = .ok (.iconst 1, 1) := by decide +kernel
theorem dX9_change_25 : decode cX9_change 25 = .ok (.goto 5, 3) := by decide +kernel
theorem dX9_change_28 : decode cX9_change 28 = .ok (.bipush 9, 2) := by decide +kernel
theorem dX9_change_30 : decode cX9_change 30 = .ok (.istore 4, 2) := by decide +kernel
theorem dX9_change_32 : decode cX9_change 32 = .ok (.aload_n 0, 1) := by decide +kernel
theorem dX9_change_33 : decode cX9_change 33 = .ok (.iload_n 1, 1) := by decide +kernel
theorem dX9_change_34 : decode cX9_change 34 = .ok (.invokevirtual 226, 3) := by decide +kernel
theorem dX9_change_37 : decode cX9_change 37 = .ok (.ifCond .eq 38, 3) := by decide +kernel
theorem dX9_change_40 : decode cX9_change 40 = .ok (.iload_n 2, 1) := by decide +kernel
theorem dX9_change_41 : decode cX9_change 41 = .ok (.iconst 1, 1) := by decide +kernel
theorem dX9_change_42 : decode cX9_change 42 = .ok (.iconst 4, 1) := by decide +kernel
theorem dX9_change_43 : decode cX9_change 43 = .ok (.invokestatic 71, 3) := by decide +kernel
theorem dX9_change_46 : decode cX9_change 46 = .ok (.ifCond .eq 29, 3) := by decide +kernel
theorem dX9_change_49 : decode cX9_change 49 = .ok (.iload_n 3, 1) := by decide +kernel
theorem dX9_change_50 : decode cX9_change 50 = .ok (.iconst 0, 1) := by decide +kernel
theorem dX9_change_51 : decode cX9_change 51 = .ok (.iload 4, 2) := by decide +kernel
theorem dX9_change_53 : decode cX9_change 53 = .ok (.invokestatic 71, 3) := by decide +kernel
theorem dX9_change_56 : decode cX9_change 56 = .ok (.ifCond .eq 19, 3) := by decide +kernel
theorem dX9_change_59 : decode cX9_change 59 = .ok (.aload_n 0, 1) := by decide +kernel
theorem dX9_change_60 : decode cX9_change 60 = .ok (.bipush 35, 2) := by decide +kernel
theorem dX9_change_62 : decode cX9_change 62 = .ok (.iconst 5, 1) := by decide +kernel
theorem dX9_change_63 : decode cX9_change 63 = .ok (.iload_n 1, 1) := by decide +kernel
theorem dX9_change_64 : decode cX9_change 64 = .ok (.imul, 1) := by decide +kernel
theorem dX9_change_65 : decode cX9_change 65 = .ok (.iadd, 1) := by decide +kernel
theorem dX9_change_66 : decode cX9_change 66 = .ok (.iload_n 2, 1) := by decide +kernel
theorem dX9_change_67 : decode cX9_change 67 = .ok (.iadd, 1) := by decide +kernel
theorem dX9_change_68 : decode cX9_change 68 = .ok (.iload_n 3, 1) := by decide +kernel
theorem dX9_change_69 : decode cX9_change 69 = .ok (.invokevirtual 229, 3) := by decide +kernel
theorem dX9_change_72 : decode cX9_change 72 = .ok (.goto 4, 3) := by decide +kernel
theorem dX9_change_75 : decode cX9_change 75 = .ok (.iconst (-1), 1) := by decide +kernel
theorem dX9_change_76 : decode cX9_change 76 = .ok (.ireturn, 1) := by decide +kernel
theorem dX9_remake_0 : decode cX9_remake 0 = .ok (.aload_n 0, 1) := by decide +kernel
theorem dX9_remake_1 : decode cX9_remake 1 = .ok (.iload_n 1, 1) := by decide +kernel
theorem dX9_remake_2 : decode cX9_remake 2 = .ok (.invokevirtual 226, 3) := by decide +kernel
theorem dX9_remake_5 : decode cX9_remake 5 = .ok (.ifCond .eq 26, 3) := by decide +kernel
theorem dX9_remake_8 : decode cX9_remake 8 = .ok (.iload_n 2, 1) := by decide +kernel
theorem dX9_remake_9 : decode cX9_remake 9 = .ok (.iconst 1, 1) := by decide +kernel
theorem dX9_remake_10 : decode cX9_remake 10 = .ok (.iconst 5, 1) := by decide +kernel
theorem dX9_remake_11 : decode cX9_remake 11 = .ok (.invokestatic 71, 3) := by decide +kernel
theorem dX9_remake_14 : decode cX9_remake 14 = .ok (.ifCond .eq 17, 3) := by decide +kernel
theorem dX9_remake_17 : decode cX9_remake 17 = .ok (.aload_n 0, 1) := by decide +kernel
theorem dX9_remake_18 : decode cX9_remake 18 = .ok (.bipush 35, 2) := by decide +kernel
theorem dX9_remake_20 : decode cX9_remake 20 = .ok (.iconst 5, 1) := by decide +kernel
theorem dX9_remake_21 : decode cX9_remake 21 = .ok (.iload_n 1, 1) := by decide +kernel
theorem dX9_remake_22 : decode cX9_remake 22 = .ok (.imul, 1) := by decide +kernel
theorem dX9_remake_23 : decode cX9_remake 23 = .ok (.iadd, 1) := by decide +kernel
theorem dX9_remake_24 : decode cX9_remake 24 = .ok (.iload_n 2, 1) := by decide +kernel
theorem dX9_remake_25 : decode cX9_remake 25 = .ok (.invokevirtual 229, 3) := by decide +kernel
theorem dX9_remake_28 : decode cX9_remake 28 = .ok (.goto 4, 3) := by decide +kernel
theorem dX9_remake_31 : decode cX9_remake 31 = .ok (.iconst (-1), 1) := by decide +kernel
theorem dX9_remake_32 : decode cX9_remake 32 = .ok (.ireturn, 1) := by decide +kernel
theorem dX9_light_0 : decode cX9_light 0 = .ok (.iload_n 1, 1) := by decide +kernel
theorem dX9_light_1 : decode cX9_light 1 = .ok (.iconst 0, 1) := by decide +kernel
theorem dX9_light_2 : decode cX9_light 2 = .ok (.bipush 15, 2) := by decide +kernel
theorem dX9_light_4 : decode cX9_light 4 = .ok (.invokestatic 71, 3) := by decide +kernel
theorem dX9_light_7 : decode cX9_light 7 = .ok (.ifCond .eq 25, 3) := by decide +kernel
theorem dX9_light_10 : decode cX9_light 10 = .ok (.iload_n 2, 1) := by decide +kernel
theorem dX9_light_11 : decode cX9_light 11 = .ok (.iconst 0, 1) := by decide +kernel
theorem dX9_light_12 : decode cX9_light 12 = .ok (.bipush 15, 2) := by decide +kernel
theorem dX9_light_14 : decode cX9_light 14 = .ok (.invokestatic 71, 3) := by decide +kernel
theorem dX9_light_17 : decode cX9_light 17 = .ok (.ifCond .eq 15, 3) := by decide +kernel
theorem dX9_light_20 : decode cX9_light 20 = .ok (.aload_n 0, 1) := by decide +kernel
theorem dX9_light_21 : decode cX9_light 21 = .ok (.bipush 7, 2) := by decide +kernel
theorem dX9_light_23 : decode cX9_light 23 = .ok (.iload_n 1, 1) := by decide +kernel
theorem dX9_light_24 : decode cX9_light 24 = .ok (.iadd, 1) := by decide +kernel
theorem dX9_light_25 : decode cX9_light 25 = .ok (.iload_n 2, 1) := by decide +kernel
theorem dX9_light_26 : decode cX9_light 26 = .ok (.invokevirtual 229, 3) := by decide +kernel
theorem dX9_light_29 : decode cX9_light 29 = .ok (.goto 4, 3) := by decide +kernel
theorem dX9_light_32 : decode cX9_light 32 = .ok (.iconst (-1), 1) := by decide +kernel
theorem dX9_light_33 : decode cX9_light 33 = .ok (.ireturn, 1) := by decide +kernel
theorem dX9_lane_0 : decode cX9_lane 0 = .ok (.iload_n 1, 1) := by decide +kernel
theorem dX9_lane_1 : decode cX9_lane 1 = .ok (.invokestatic 223, 3) := by decide +kernel
theorem dX9_lane_4 : decode cX9_lane 4 = .ok (.ifCond .eq 40, 3) := by decide +kernel
theorem dX9_lane_7 : decode cX9_lane 7 = .ok (.iload_n 2, 1) := by decide +kernel
theorem dX9_lane_8 : decode cX9_lane 8 = .ok (.iconst 0, 1) := by decide +kernel
theorem dX9_lane_9 : decode cX9_lane 9 = .ok (.iconst 1, 1) := by decide +kernel
theorem dX9_lane_10 : decode cX9_lane 10 = .ok (.invokestatic 71, 3) := by decide +kernel
theorem dX9_lane_13 : decode cX9_lane 13 = .ok (.ifCond .eq 31, 3) := by decide +kernel
theorem dX9_lane_16 : decode cX9_lane 16 = .ok (.iload_n 3, 1) := by decide +kernel
theorem dX9_lane_17 : decode cX9_lane 17 = .ok (.invokestatic 220, 3) := by decide +kernel
theorem dX9_lane_20 : decode cX9_lane 20 = .ok (.ifCond .eq 24, 3) := by decide +kernel
theorem dX9_lane_23 : decode cX9_lane 23 = .ok (.aload_n 0, 1) := by decide +kernel
theorem dX9_lane_24 : decode cX9_lane 24 = .ok (.iload_n 2, 1) := by decide +kernel
theorem dX9_lane_25 : decode cX9_lane 25 = .ok (.ifCond .ne 8, 3) := by decide +kernel
theorem dX9_lane_28 : decode cX9_lane 28 = .ok (.bipush 23, 2) := by decide +kernel
theorem dX9_lane_30 : decode cX9_lane 30 = .ok (.goto 5, 3) := by decide +kernel
theorem dX9_lane_33 : decode cX9_lane 33 = .ok (.bipush 29, 2) := by decide +kernel
theorem dX9_lane_35 : decode cX9_lane 35 = .ok (.iload_n 1, 1) := by decide +kernel
theorem dX9_lane_36 : decode cX9_lane 36 = .ok (.iadd, 1) := by decide +kernel
theorem dX9_lane_37 : decode cX9_lane 37 = .ok (.iload_n 3, 1) := by decide +kernel
theorem dX9_lane_38 : decode cX9_lane 38 = .ok (.invokevirtual 229, 3) := by decide +kernel
theorem dX9_lane_41 : decode cX9_lane 41 = .ok (.goto 4, 3) := by decide +kernel
theorem dX9_lane_44 : decode cX9_lane 44 = .ok (.iconst (-1), 1) := by decide +kernel
theorem dX9_lane_45 : decode cX9_lane 45 = .ok (.ireturn, 1) := by decide +kernel
theorem dX9_laneOf_0 : decode cX9_laneOf 0 = .ok (.iload_n 1, 1) := by decide +kernel
theorem dX9_laneOf_1 : decode cX9_laneOf 1 = .ok (.invokestatic 223, 3) := by decide +kernel
theorem dX9_laneOf_4 : decode cX9_laneOf 4 = .ok (.ifCond .eq 33, 3) := by decide +kernel
theorem dX9_laneOf_7 : decode cX9_laneOf 7 = .ok (.iload_n 2, 1) := by decide +kernel
theorem dX9_laneOf_8 : decode cX9_laneOf 8 = .ok (.iconst 0, 1) := by decide +kernel
theorem dX9_laneOf_9 : decode cX9_laneOf 9 = .ok (.iconst 1, 1) := by decide +kernel
theorem dX9_laneOf_10 : decode cX9_laneOf 10 = .ok (.invokestatic 71, 3) := by decide +kernel
theorem dX9_laneOf_13 : decode cX9_laneOf 13 = .ok (.ifCond .eq 24, 3) := by decide +kernel
theorem dX9_laneOf_16 : decode cX9_laneOf 16 = .ok (.aload_n 0, 1) := by decide +kernel
theorem dX9_laneOf_17 : decode cX9_laneOf 17 = .ok (.getfield 9, 3) := by decide +kernel
theorem dX9_laneOf_20 : decode cX9_laneOf 20 = .ok (.iload_n 2, 1) := by decide +kernel
theorem dX9_laneOf_21 : decode cX9_laneOf 21 = .ok (.ifCond .ne 8, 3) := by decide +kernel
theorem dX9_laneOf_24 : decode cX9_laneOf 24 = .ok (.bipush 23, 2) := by decide +kernel
theorem dX9_laneOf_26 : decode cX9_laneOf 26 = .ok (.goto 5, 3) := by decide +kernel
theorem dX9_laneOf_29 : decode cX9_laneOf 29 = .ok (.bipush 29, 2) := by decide +kernel
theorem dX9_laneOf_31 : decode cX9_laneOf 31 = .ok (.iload_n 1, 1) := by decide +kernel
theorem dX9_laneOf_32 : decode cX9_laneOf 32 = .ok (.iadd, 1) := by decide +kernel
theorem dX9_laneOf_33 : decode cX9_laneOf 33 = .ok (.iaload, 1) := by decide +kernel
theorem dX9_laneOf_34 : decode cX9_laneOf 34 = .ok (.goto 4, 3) := by decide +kernel
theorem dX9_laneOf_37 : decode cX9_laneOf 37 = .ok (.iconst (-1), 1) := by decide +kernel
theorem dX9_laneOf_38 : decode cX9_laneOf 38 = .ok (.ireturn, 1) := by decide +kernel
theorem dX9_ends_0 : decode cX9_ends 0 = .ok (.iload_n 1, 1) := by decide +kernel
theorem dX9_ends_1 : decode cX9_ends 1 = .ok (.iconst 1, 1) := by decide +kernel
theorem dX9_ends_2 : decode cX9_ends 2 = .ok (.bipush 16, 2) := by decide +kernel
theorem dX9_ends_4 : decode cX9_ends 4 = .ok (.invokestatic 71, 3) := by decide +kernel
theorem dX9_ends_7 : decode cX9_ends 7 = .ok (.ifCond .ne 7, 3) := by decide +kernel
theorem dX9_ends_10 : decode cX9_ends 10 = .ok (.iconst (-1), 1) := by decide +kernel
theorem dX9_ends_11 : decode cX9_ends 11 = .ok (.goto 24, 3) := by decide +kernel
theorem dX9_ends_14 : decode cX9_ends 14 = .ok (.iload_n 1, 1) := by decide +kernel
theorem dX9_ends_15 : decode cX9_ends 15 = .ok (.aload_n 0, 1) := by decide +kernel
theorem dX9_ends_16 : decode cX9_ends 16 = .ok (.getfield 9, 3) := by decide +kernel
theorem dX9_ends_19 : decode cX9_ends 19 = .ok (.iconst 0, 1) := by decide +kernel
theorem dX9_ends_20 : decode cX9_ends 20 = .ok (.iaload, 1) := by decide +kernel
theorem dX9_ends_21 : decode cX9_ends 21 = .ok (.if_icmp .ge 8, 3) := by decide +kernel
theorem dX9_ends_24 : decode cX9_ends 24 = .ok (.bipush (-4), 2) := by decide +kernel
theorem dX9_ends_26 : decode cX9_ends 26 = .ok (.goto 9, 3) := by decide +kernel
theorem dX9_ends_29 : decode cX9_ends 29 = .ok (.aload_n 0, 1) := by decide +kernel
theorem dX9_ends_30 : decode cX9_ends 30 = .ok (.iconst 1, 1) := by decide +kernel
theorem dX9_ends_31 : decode cX9_ends 31 = .ok (.iload_n 1, 1) := by decide +kernel
theorem dX9_ends_32 : decode cX9_ends 32 = .ok (.invokevirtual 229, 3) := by decide +kernel
theorem dX9_ends_35 : decode cX9_ends 35 = .ok (.ireturn, 1) := by decide +kernel
theorem dX9_anew_0 : decode cX9_anew 0 = .ok (.aload_n 0, 1) := by decide +kernel
theorem dX9_anew_1 : decode cX9_anew 1 = .ok (.getfield 9, 3) := by decide +kernel
theorem dX9_anew_4 : decode cX9_anew 4 = .ok (.iconst 2, 1) := by decide +kernel
theorem dX9_anew_5 : decode cX9_anew 5 = .ok (.iconst 0, 1) := by decide +kernel
theorem dX9_anew_6 : decode cX9_anew 6 = .ok (.iastore, 1) := by decide +kernel
theorem dX9_anew_7 : decode cX9_anew 7 = .ok (.iconst 0, 1) := by decide +kernel
theorem dX9_anew_8 : decode cX9_anew 8 = .ok (.istore_n 1, 1) := by decide +kernel
theorem dX9_anew_9 : decode cX9_anew 9 = .ok (.iload_n 1, 1) := by decide +kernel
theorem dX9_anew_10 : decode cX9_anew 10 = .ok (.aload_n 0, 1) := by decide +kernel
theorem dX9_anew_11 : decode cX9_anew 11 = .ok (.getfield 9, 3) := by decide +kernel
theorem dX9_anew_14 : decode cX9_anew 14 = .ok (.iconst 4, 1) := by decide +kernel
theorem dX9_anew_15 : decode cX9_anew 15 = .ok (.iaload, 1) := by decide +kernel
theorem dX9_anew_16 : decode cX9_anew 16 = .ok (.if_icmp .ge 16, 3) := by decide +kernel
theorem dX9_anew_19 : decode cX9_anew 19 = .ok (.aload_n 0, 1) := by decide +kernel
theorem dX9_anew_20 : decode cX9_anew 20 = .ok (.iload_n 1, 1) := by decide +kernel
theorem dX9_anew_21 : decode cX9_anew 21 = .ok (.iconst 4, 1) := by decide +kernel
theorem dX9_anew_22 : decode cX9_anew 22 = .ok (.iconst 0, 1) := by decide +kernel
theorem dX9_anew_23 : decode cX9_anew 23 = .ok (.invokevirtual 195, 3) := by decide +kernel
theorem dX9_anew_26 : decode cX9_anew 26 = .ok (.iinc 1 1, 3) := by decide +kernel
theorem dX9_anew_29 : decode cX9_anew 29 = .ok (.goto (-20), 3) := by decide +kernel
theorem dX9_anew_32 : decode cX9_anew 32 = .ok (.aload_n 0, 1) := by decide +kernel
theorem dX9_anew_33 : decode cX9_anew 33 = .ok (.iconst 0, 1) := by decide +kernel
theorem dX9_anew_34 : decode cX9_anew 34 = .ok (.iconst 0, 1) := by decide +kernel
theorem dX9_anew_35 : decode cX9_anew 35 = .ok (.invokevirtual 229, 3) := by decide +kernel
theorem dX9_anew_38 : decode cX9_anew 38 = .ok (.ireturn, 1) := by decide +kernel
theorem dX9_those_0 : decode cX9_those 0 = .ok (.iconst 0, 1) := by decide +kernel
theorem dX9_those_1 : decode cX9_those 1 = .ok (.istore_n 2, 1) := by decide +kernel
theorem dX9_those_2 : decode cX9_those 2 = .ok (.iconst 0, 1) := by decide +kernel
theorem dX9_those_3 : decode cX9_those 3 = .ok (.istore_n 3, 1) := by decide +kernel
theorem dX9_those_4 : decode cX9_those 4 = .ok (.iload_n 3, 1) := by decide +kernel
theorem dX9_those_5 : decode cX9_those 5 = .ok (.aload_n 0, 1) := by decide +kernel
theorem dX9_those_6 : decode cX9_those 6 = .ok (.getfield 9, 3) := by decide +kernel
theorem dX9_those_9 : decode cX9_those 9 = .ok (.iconst 4, 1) := by decide +kernel
theorem dX9_those_10 : decode cX9_those 10 = .ok (.iaload, 1) := by decide +kernel
theorem dX9_those_11 : decode cX9_those 11 = .ok (.if_icmp .ge 28, 3) := by decide +kernel
theorem dX9_those_14 : decode cX9_those 14 = .ok (.iload_n 2, 1) := by decide +kernel
theorem dX9_those_15 : decode cX9_those 15 = .ok (.aload_n 0, 1) := by decide +kernel
theorem dX9_those_16 : decode cX9_those 16 = .ok (.iload_n 3, 1) := by decide +kernel
theorem dX9_those_17 : decode cX9_those 17 = .ok (.iload_n 1, 1) := by decide +kernel
theorem dX9_those_18 : decode cX9_those 18 = .ok (.invokevirtual 79, 3) := by decide +kernel
theorem dX9_those_21 : decode cX9_those 21 = .ok (.ifCond .le 9, 3) := by decide +kernel
theorem dX9_those_24 : decode cX9_those 24 = .ok (.iconst 1, 1) := by decide +kernel
theorem dX9_those_25 : decode cX9_those 25 = .ok (.iload_n 3, 1) := by decide +kernel
theorem dX9_those_26 : decode cX9_those 26 = .ok (.ishl, 1) := by decide +kernel
theorem dX9_those_27 : decode cX9_those 27 = .ok (.goto 4, 3) := by decide +kernel
theorem dX9_those_30 : decode cX9_those 30 = .ok (.iconst 0, 1) := by decide +kernel
theorem dX9_those_31 : decode cX9_those 31 = .ok (.ior, 1) := by decide +kernel
theorem dX9_those_32 : decode cX9_those 32 = .ok (.istore_n 2, 1) := by decide +kernel
theorem dX9_those_33 : decode cX9_those 33 = .ok (.iinc 3 1, 3) := by decide +kernel
theorem dX9_those_36 : decode cX9_those 36 = .ok (.goto (-32), 3) := by decide +kernel
theorem dX9_those_39 : decode cX9_those 39 = .ok (.iload_n 2, 1) := by decide +kernel
theorem dX9_those_40 : decode cX9_those 40 = .ok (.ireturn, 1) := by decide +kernel
theorem dX9_state_0 : decode cX9_state 0 = .ok (.iload_n 1, 1) := by decide +kernel
theorem dX9_state_1 : decode cX9_state 1 = .ok (.tableswitch 93 0 6 #[43, 50, 57, 64, 77, 83, 88], 43) := by decide +kernel
theorem dX9_state_44 : decode cX9_state 44 = .ok (.aload_n 0, 1) := by decide +kernel
theorem dX9_state_45 : decode cX9_state 45 = .ok (.getfield 9, 3) := by decide +kernel
theorem dX9_state_48 : decode cX9_state 48 = .ok (.iconst 0, 1) := by decide +kernel
theorem dX9_state_49 : decode cX9_state 49 = .ok (.iaload, 1) := by decide +kernel
theorem dX9_state_50 : decode cX9_state 50 = .ok (.ireturn, 1) := by decide +kernel
theorem dX9_state_51 : decode cX9_state 51 = .ok (.aload_n 0, 1) := by decide +kernel
theorem dX9_state_52 : decode cX9_state 52 = .ok (.getfield 9, 3) := by decide +kernel
theorem dX9_state_55 : decode cX9_state 55 = .ok (.iconst 1, 1) := by decide +kernel
theorem dX9_state_56 : decode cX9_state 56 = .ok (.iaload, 1) := by decide +kernel
theorem dX9_state_57 : decode cX9_state 57 = .ok (.ireturn, 1) := by decide +kernel
theorem dX9_state_58 : decode cX9_state 58 = .ok (.aload_n 0, 1) := by decide +kernel
theorem dX9_state_59 : decode cX9_state 59 = .ok (.getfield 9, 3) := by decide +kernel
theorem dX9_state_62 : decode cX9_state 62 = .ok (.iconst 2, 1) := by decide +kernel
theorem dX9_state_63 : decode cX9_state 63 = .ok (.iaload, 1) := by decide +kernel
theorem dX9_state_64 : decode cX9_state 64 = .ok (.ireturn, 1) := by decide +kernel
theorem dX9_state_65 : decode cX9_state 65 = .ok (.aload_n 0, 1) := by decide +kernel
theorem dX9_state_66 : decode cX9_state 66 = .ok (.invokevirtual 232, 3) := by decide +kernel
theorem dX9_state_69 : decode cX9_state 69 = .ok (.ifCond .eq 7, 3) := by decide +kernel
theorem dX9_state_72 : decode cX9_state 72 = .ok (.iconst 1, 1) := by decide +kernel
theorem dX9_state_73 : decode cX9_state 73 = .ok (.goto 4, 3) := by decide +kernel
theorem dX9_state_76 : decode cX9_state 76 = .ok (.iconst 0, 1) := by decide +kernel
theorem dX9_state_77 : decode cX9_state 77 = .ok (.ireturn, 1) := by decide +kernel
theorem dX9_state_78 : decode cX9_state 78 = .ok (.aload_n 0, 1) := by decide +kernel
theorem dX9_state_79 : decode cX9_state 79 = .ok (.iconst 4, 1) := by decide +kernel
theorem dX9_state_80 : decode cX9_state 80 = .ok (.invokevirtual 235, 3) := by decide +kernel
theorem dX9_state_83 : decode cX9_state 83 = .ok (.ireturn, 1) := by decide +kernel
theorem dX9_state_84 : decode cX9_state 84 = .ok (.aload_n 0, 1) := by decide +kernel
theorem dX9_state_85 : decode cX9_state 85 = .ok (.invokevirtual 83, 3) := by decide +kernel
theorem dX9_state_88 : decode cX9_state 88 = .ok (.ireturn, 1) := by decide +kernel
theorem dX9_state_89 : decode cX9_state 89 = .ok (.aload_n 0, 1) := by decide +kernel
theorem dX9_state_90 : decode cX9_state 90 = .ok (.invokevirtual 217, 3) := by decide +kernel
theorem dX9_state_93 : decode cX9_state 93 = .ok (.ireturn, 1) := by decide +kernel
theorem dX9_state_94 : decode cX9_state 94 = .ok (.iconst (-1), 1) := by decide +kernel
theorem dX9_state_95 : decode cX9_state 95 = .ok (.ireturn, 1) := by decide +kernel
theorem dX9_watch_0 : decode cX9_watch 0 = .ok (.aload_n 0, 1) := by decide +kernel
theorem dX9_watch_1 : decode cX9_watch 1 = .ok (.invokevirtual 232, 3) := by decide +kernel
theorem dX9_watch_4 : decode cX9_watch 4 = .ok (.ifCond .eq 8, 3) := by decide +kernel
theorem dX9_watch_7 : decode cX9_watch 7 = .ok (.bipush (-4), 2) := by decide +kernel
theorem dX9_watch_9 : decode cX9_watch 9 = .ok (.goto 8, 3) := by decide +kernel
theorem dX9_watch_12 : decode cX9_watch 12 = .ok (.aload_n 0, 1) := by decide +kernel
theorem dX9_watch_13 : decode cX9_watch 13 = .ok (.iconst (-1), 1) := by decide +kernel
theorem dX9_watch_14 : decode cX9_watch 14 = .ok (.invokevirtual 238, 3) := by decide +kernel
theorem dX9_watch_17 : decode cX9_watch 17 = .ok (.ireturn, 1) := by decide +kernel
theorem dX9_restOf_0 : decode cX9_restOf 0 = .ok (.iconst 0, 1) := by decide +kernel
theorem dX9_restOf_1 : decode cX9_restOf 1 = .ok (.istore_n 2, 1) := by decide +kernel
theorem dX9_restOf_2 : decode cX9_restOf 2 = .ok (.iconst 0, 1) := by decide +kernel
theorem dX9_restOf_3 : decode cX9_restOf 3 = .ok (.istore_n 3, 1) := by decide +kernel
theorem dX9_restOf_4 : decode cX9_restOf 4 = .ok (.iload_n 3, 1) := by decide +kernel
theorem dX9_restOf_5 : decode cX9_restOf 5 = .ok (.iload_n 1, 1) := by decide +kernel
theorem dX9_restOf_6 : decode cX9_restOf 6 = .ok (.if_icmp .ge 24, 3) := by decide +kernel
theorem dX9_restOf_9 : decode cX9_restOf 9 = .ok (.aload_n 0, 1) := by decide +kernel
theorem dX9_restOf_10 : decode cX9_restOf 10 = .ok (.invokevirtual 232, 3) := by decide +kernel
theorem dX9_restOf_13 : decode cX9_restOf 13 = .ok (.ifCond .ne 17, 3) := by decide +kernel
theorem dX9_restOf_16 : decode cX9_restOf 16 = .ok (.iload_n 2, 1) := by decide +kernel
theorem dX9_restOf_17 : decode cX9_restOf 17 = .ok (.aload_n 0, 1) := by decide +kernel
theorem dX9_restOf_18 : decode cX9_restOf 18 = .ok (.iconst (-1), 1) := by decide +kernel
theorem dX9_restOf_19 : decode cX9_restOf 19 = .ok (.invokevirtual 238, 3) := by decide +kernel
theorem dX9_restOf_22 : decode cX9_restOf 22 = .ok (.iadd, 1) := by decide +kernel
theorem dX9_restOf_23 : decode cX9_restOf 23 = .ok (.istore_n 2, 1) := by decide +kernel
theorem dX9_restOf_24 : decode cX9_restOf 24 = .ok (.iinc 3 1, 3) := by decide +kernel
theorem dX9_restOf_27 : decode cX9_restOf 27 = .ok (.goto (-23), 3) := by decide +kernel
theorem dX9_restOf_30 : decode cX9_restOf 30 = .ok (.iload_n 2, 1) := by decide +kernel
theorem dX9_restOf_31 : decode cX9_restOf 31 = .ok (.ireturn, 1) := by decide +kernel
theorem dX9_on_0 : decode cX9_on 0 = .ok (.iload_n 1, 1) := by decide +kernel
theorem dX9_on_1 : decode cX9_on 1 = .ok (.iconst 0, 1) := by decide +kernel
theorem dX9_on_2 : decode cX9_on 2 = .ok (.bipush 16, 2) := by decide +kernel
theorem dX9_on_4 : decode cX9_on 4 = .ok (.invokestatic 71, 3) := by decide +kernel
theorem dX9_on_7 : decode cX9_on 7 = .ok (.ifCond .ne 5, 3) := by decide +kernel
theorem dX9_on_10 : decode cX9_on 10 = .ok (.iconst (-1), 1) := by decide +kernel
theorem dX9_on_11 : decode cX9_on 11 = .ok (.ireturn, 1) := by decide +kernel
theorem dX9_on_12 : decode cX9_on 12 = .ok (.aload_n 0, 1) := by decide +kernel
theorem dX9_on_13 : decode cX9_on 13 = .ok (.invokevirtual 241, 3) := by decide +kernel
theorem dX9_on_16 : decode cX9_on 16 = .ok (.aload_n 0, 1) := by decide +kernel
theorem dX9_on_17 : decode cX9_on 17 = .ok (.iload_n 1, 1) := by decide +kernel
theorem dX9_on_18 : decode cX9_on 18 = .ok (.invokevirtual 244, 3) := by decide +kernel
theorem dX9_on_21 : decode cX9_on 21 = .ok (.istore_n 2, 1) := by decide +kernel
theorem dX9_on_22 : decode cX9_on 22 = .ok (.aload_n 0, 1) := by decide +kernel
theorem dX9_on_23 : decode cX9_on 23 = .ok (.invokevirtual 247, 3) := by decide +kernel
theorem dX9_on_26 : decode cX9_on 26 = .ok (.iload_n 2, 1) := by decide +kernel
theorem dX9_on_27 : decode cX9_on 27 = .ok (.ireturn, 1) := by decide +kernel
theorem dX9_when_0 : decode cX9_when 0 = .ok (.aload_n 0, 1) := by decide +kernel
theorem dX9_when_1 : decode cX9_when 1 = .ok (.iload_n 1, 1) := by decide +kernel
theorem dX9_when_2 : decode cX9_when 2 = .ok (.invokevirtual 226, 3) := by decide +kernel
theorem dX9_when_5 : decode cX9_when 5 = .ok (.ifCond .ne 5, 3) := by decide +kernel
theorem dX9_when_8 : decode cX9_when 8 = .ok (.iconst (-1), 1) := by decide +kernel
theorem dX9_when_9 : decode cX9_when 9 = .ok (.ireturn, 1) := by decide +kernel
theorem dX9_when_10 : decode cX9_when 10 = .ok (.aload_n 0, 1) := by decide +kernel
theorem dX9_when_11 : decode cX9_when 11 = .ok (.invokevirtual 241, 3) := by decide +kernel
theorem dX9_when_14 : decode cX9_when 14 = .ok (.bipush (-3), 2) := by decide +kernel
theorem dX9_when_16 : decode cX9_when 16 = .ok (.istore_n 2, 1) := by decide +kernel
theorem dX9_when_17 : decode cX9_when 17 = .ok (.aload_n 0, 1) := by decide +kernel
theorem dX9_when_18 : decode cX9_when 18 = .ok (.iload_n 1, 1) := by decide +kernel
theorem dX9_when_19 : decode cX9_when 19 = .ok (.iconst 4, 1) := by decide +kernel
theorem dX9_when_20 : decode cX9_when 20 = .ok (.invokevirtual 79, 3) := by decide +kernel
theorem dX9_when_23 : decode cX9_when 23 = .ok (.ifCond .ne 7, 3) := by decide +kernel
theorem dX9_when_26 : decode cX9_when 26 = .ok (.iconst 1, 1) := by decide +kernel
theorem dX9_when_27 : decode cX9_when 27 = .ok (.goto 4, 3) := by decide +kernel
theorem dX9_when_30 : decode cX9_when 30 = .ok (.iconst 0, 1) := by decide +kernel
theorem dX9_when_31 : decode cX9_when 31 = .ok (.istore_n 3, 1) := by decide +kernel
theorem dX9_when_32 : decode cX9_when 32 = .ok (.iload_n 3, 1) := by decide +kernel
theorem dX9_when_33 : decode cX9_when 33 = .ok (.ifCond .eq 58, 3) := by decide +kernel
theorem dX9_when_36 : decode cX9_when 36 = .ok (.aload_n 0, 1) := by decide +kernel
theorem dX9_when_37 : decode cX9_when 37 = .ok (.invokevirtual 232, 3) := by decide +kernel
theorem dX9_when_40 : decode cX9_when 40 = .ok (.ifCond .ne 51, 3) := by decide +kernel
theorem dX9_when_43 : decode cX9_when 43 = .ok (.aload_n 0, 1) := by decide +kernel
theorem dX9_when_44 : decode cX9_when 44 = .ok (.iconst (-1), 1) := by decide +kernel
theorem dX9_when_45 : decode cX9_when 45 = .ok (.invokevirtual 238, 3) := by decide +kernel
theorem dX9_when_48 : decode cX9_when 48 = .ok (.istore 4, 2) := by decide +kernel
theorem dX9_when_50 : decode cX9_when 50 = .ok (.aload_n 0, 1) := by decide +kernel
theorem dX9_when_51 : decode cX9_when 51 = .ok (.iload_n 1, 1) := by decide +kernel
theorem dX9_when_52 : decode cX9_when 52 = .ok (.iconst 4, 1) := by decide +kernel
theorem dX9_when_53 : decode cX9_when 53 = .ok (.invokevirtual 79, 3) := by decide +kernel
theorem dX9_when_56 : decode cX9_when 56 = .ok (.ifCond .ne 7, 3) := by decide +kernel
theorem dX9_when_59 : decode cX9_when 59 = .ok (.iconst 1, 1) := by decide +kernel
theorem dX9_when_60 : decode cX9_when 60 = .ok (.goto 4, 3) := by decide +kernel
theorem dX9_when_63 : decode cX9_when 63 = .ok (.iconst 0, 1) := by decide +kernel
theorem dX9_when_64 : decode cX9_when 64 = .ok (.istore_n 3, 1) := by decide +kernel
theorem dX9_when_65 : decode cX9_when 65 = .ok (.iload_n 3, 1) := by decide +kernel
theorem dX9_when_66 : decode cX9_when 66 = .ok (.ifCond .ne 8, 3) := by decide +kernel
theorem dX9_when_69 : decode cX9_when 69 = .ok (.iload 4, 2) := by decide +kernel
theorem dX9_when_71 : decode cX9_when 71 = .ok (.ifCond .ge 8, 3) := by decide +kernel
theorem dX9_when_74 : decode cX9_when 74 = .ok (.bipush (-3), 2) := by decide +kernel
theorem dX9_when_76 : decode cX9_when 76 = .ok (.goto 11, 3) := by decide +kernel
theorem dX9_when_79 : decode cX9_when 79 = .ok (.aload_n 0, 1) := by decide +kernel
theorem dX9_when_80 : decode cX9_when 80 = .ok (.getfield 9, 3) := by decide +kernel
theorem dX9_when_83 : decode cX9_when 83 = .ok (.iconst 0, 1) := by decide +kernel
theorem dX9_when_84 : decode cX9_when 84 = .ok (.iaload, 1) := by decide +kernel
theorem dX9_when_85 : decode cX9_when 85 = .ok (.iconst 1, 1) := by decide +kernel
theorem dX9_when_86 : decode cX9_when 86 = .ok (.isub, 1) := by decide +kernel
theorem dX9_when_87 : decode cX9_when 87 = .ok (.istore_n 2, 1) := by decide +kernel
theorem dX9_when_88 : decode cX9_when 88 = .ok (.goto (-56), 3) := by decide +kernel
theorem dX9_when_91 : decode cX9_when 91 = .ok (.aload_n 0, 1) := by decide +kernel
theorem dX9_when_92 : decode cX9_when 92 = .ok (.invokevirtual 247, 3) := by decide +kernel
theorem dX9_when_95 : decode cX9_when 95 = .ok (.iload_n 2, 1) := by decide +kernel
theorem dX9_when_96 : decode cX9_when 96 = .ok (.ireturn, 1) := by decide +kernel
theorem dX9_bestFor_0 : decode cX9_bestFor 0 = .ok (.aload_n 0, 1) := by decide +kernel
theorem dX9_bestFor_1 : decode cX9_bestFor 1 = .ok (.iload_n 1, 1) := by decide +kernel
theorem dX9_bestFor_2 : decode cX9_bestFor 2 = .ok (.invokevirtual 226, 3) := by decide +kernel
theorem dX9_bestFor_5 : decode cX9_bestFor 5 = .ok (.ifCond .ne 5, 3) := by decide +kernel
theorem dX9_bestFor_8 : decode cX9_bestFor 8 = .ok (.iconst (-1), 1) := by decide +kernel
theorem dX9_bestFor_9 : decode cX9_bestFor 9 = .ok (.ireturn, 1) := by decide +kernel
theorem dX9_bestFor_10 : decode cX9_bestFor 10 = .ok (.iconst 0, 1) := by decide +kernel
theorem dX9_bestFor_11 : decode cX9_bestFor 11 = .ok (.istore 4, 2) := by decide +kernel
theorem dX9_bestFor_13 : decode cX9_bestFor 13 = .ok (.iconst (-1), 1) := by decide +kernel
theorem dX9_bestFor_14 : decode cX9_bestFor 14 = .ok (.istore 5, 2) := by decide +kernel
theorem dX9_bestFor_16 : decode cX9_bestFor 16 = .ok (.aload_n 0, 1) := by decide +kernel
theorem dX9_bestFor_17 : decode cX9_bestFor 17 = .ok (.invokevirtual 241, 3) := by decide +kernel
theorem dX9_bestFor_20 : decode cX9_bestFor 20 = .ok (.iconst 0, 1) := by decide +kernel
theorem dX9_bestFor_21 : decode cX9_bestFor 21 = .ok (.istore 6, 2) := by decide +kernel
theorem dX9_bestFor_23 : decode cX9_bestFor 23 = .ok (.iload 6, 2) := by decide +kernel
theorem dX9_bestFor_25 : decode cX9_bestFor 25 = .ok (.iload_n 3, 1) := by decide +kernel
theorem dX9_bestFor_26 : decode cX9_bestFor 26 = .ok (.if_icmp .gt 61, 3) := by decide +kernel
theorem dX9_bestFor_29 : decode cX9_bestFor 29 = .ok (.aload_n 0, 1) := by decide +kernel
theorem dX9_bestFor_30 : decode cX9_bestFor 30 = .ok (.iload_n 1, 1) := by decide +kernel
theorem dX9_bestFor_31 : decode cX9_bestFor 31 = .ok (.iload_n 2, 1) := by decide +kernel
theorem dX9_bestFor_32 : decode cX9_bestFor 32 = .ok (.iload 6, 2) := by decide +kernel
theorem dX9_bestFor_34 : decode cX9_bestFor 34 = .ok (.invokevirtual 195, 3) := by decide +kernel
theorem dX9_bestFor_37 : decode cX9_bestFor 37 = .ok (.aload_n 0, 1) := by decide +kernel
theorem dX9_bestFor_38 : decode cX9_bestFor 38 = .ok (.bipush 16, 2) := by decide +kernel
theorem dX9_bestFor_40 : decode cX9_bestFor 40 = .ok (.invokevirtual 244, 3) := by decide +kernel
theorem dX9_bestFor_43 : decode cX9_bestFor 43 = .ok (.istore 7, 2) := by decide +kernel
theorem dX9_bestFor_45 : decode cX9_bestFor 45 = .ok (.iload 7, 2) := by decide +kernel
theorem dX9_bestFor_47 : decode cX9_bestFor 47 = .ok (.iload 5, 2) := by decide +kernel
theorem dX9_bestFor_49 : decode cX9_bestFor 49 = .ok (.if_icmp .le 8, 3) := by decide +kernel
theorem dX9_bestFor_52 : decode cX9_bestFor 52 = .ok (.iload 6, 2) := by decide +kernel
theorem dX9_bestFor_54 : decode cX9_bestFor 54 = .ok (.goto 5, 3) := by decide +kernel
theorem dX9_bestFor_57 : decode cX9_bestFor 57 = .ok (.iload 4, 2) := by decide +kernel
theorem dX9_bestFor_59 : decode cX9_bestFor 59 = .ok (.istore 4, 2) := by decide +kernel
theorem dX9_bestFor_61 : decode cX9_bestFor 61 = .ok (.iload 7, 2) := by decide +kernel
theorem dX9_bestFor_63 : decode cX9_bestFor 63 = .ok (.iload 5, 2) := by decide +kernel
theorem dX9_bestFor_65 : decode cX9_bestFor 65 = .ok (.if_icmp .le 8, 3) := by decide +kernel
theorem dX9_bestFor_68 : decode cX9_bestFor 68 = .ok (.iload 7, 2) := by decide +kernel
theorem dX9_bestFor_70 : decode cX9_bestFor 70 = .ok (.goto 5, 3) := by decide +kernel
theorem dX9_bestFor_73 : decode cX9_bestFor 73 = .ok (.iload 5, 2) := by decide +kernel
theorem dX9_bestFor_75 : decode cX9_bestFor 75 = .ok (.istore 5, 2) := by decide +kernel
theorem dX9_bestFor_77 : decode cX9_bestFor 77 = .ok (.aload_n 0, 1) := by decide +kernel
theorem dX9_bestFor_78 : decode cX9_bestFor 78 = .ok (.invokevirtual 247, 3) := by decide +kernel
theorem dX9_bestFor_81 : decode cX9_bestFor 81 = .ok (.iinc 6 1, 3) := by decide +kernel
theorem dX9_bestFor_84 : decode cX9_bestFor 84 = .ok (.goto (-61), 3) := by decide +kernel
theorem dX9_bestFor_87 : decode cX9_bestFor 87 = .ok (.iload 4, 2) := by decide +kernel
theorem dX9_bestFor_89 : decode cX9_bestFor 89 = .ok (.ireturn, 1) := by decide +kernel
theorem dX9_trimFor_0 : decode cX9_trimFor 0 = .ok (.aload_n 0, 1) := by decide +kernel
theorem dX9_trimFor_1 : decode cX9_trimFor 1 = .ok (.iload_n 1, 1) := by decide +kernel
theorem dX9_trimFor_2 : decode cX9_trimFor 2 = .ok (.iconst 2, 1) := by decide +kernel
theorem dX9_trimFor_3 : decode cX9_trimFor 3 = .ok (.bipush 9, 2) := by decide +kernel
theorem dX9_trimFor_5 : decode cX9_trimFor 5 = .ok (.invokevirtual 250, 3) := by decide +kernel
theorem dX9_trimFor_8 : decode cX9_trimFor 8 = .ok (.ireturn, 1) := by decide +kernel
theorem dX9_laneFor_0 : decode cX9_laneFor 0 = .ok (.aload_n 0, 1) := by decide +kernel
theorem dX9_laneFor_1 : decode cX9_laneFor 1 = .ok (.iload_n 1, 1) := by decide +kernel
theorem dX9_laneFor_2 : decode cX9_laneFor 2 = .ok (.iconst 3, 1) := by decide +kernel
theorem dX9_laneFor_3 : decode cX9_laneFor 3 = .ok (.iconst 5, 1) := by decide +kernel
theorem dX9_laneFor_4 : decode cX9_laneFor 4 = .ok (.invokevirtual 250, 3) := by decide +kernel
theorem dX9_laneFor_7 : decode cX9_laneFor 7 = .ok (.ireturn, 1) := by decide +kernel
theorem dX9_rock_0 : decode cX9_rock 0 = .ok (.aload_n 0, 1) := by decide +kernel
theorem dX9_rock_1 : decode cX9_rock 1 = .ok (.iload_n 1, 1) := by decide +kernel
theorem dX9_rock_2 : decode cX9_rock 2 = .ok (.invokevirtual 226, 3) := by decide +kernel
theorem dX9_rock_5 : decode cX9_rock 5 = .ok (.ifCond .ne 5, 3) := by decide +kernel
theorem dX9_rock_8 : decode cX9_rock 8 = .ok (.iconst (-1), 1) := by decide +kernel
theorem dX9_rock_9 : decode cX9_rock 9 = .ok (.ireturn, 1) := by decide +kernel
theorem dX9_rock_10 : decode cX9_rock 10 = .ok (.aload_n 0, 1) := by decide +kernel
theorem dX9_rock_11 : decode cX9_rock 11 = .ok (.invokevirtual 241, 3) := by decide +kernel
theorem dX9_rock_14 : decode cX9_rock 14 = .ok (.iconst 0, 1) := by decide +kernel
theorem dX9_rock_15 : decode cX9_rock 15 = .ok (.istore_n 2, 1) := by decide +kernel
theorem dX9_rock_16 : decode cX9_rock 16 = .ok (.aload_n 0, 1) := by decide +kernel
theorem dX9_rock_17 : decode cX9_rock 17 = .ok (.iload_n 1, 1) := by decide +kernel
theorem dX9_rock_18 : decode cX9_rock 18 = .ok (.invokevirtual 108, 3) := by decide +kernel
theorem dX9_rock_21 : decode cX9_rock 21 = .ok (.ifCond .ne 21, 3) := by decide +kernel
theorem dX9_rock_24 : decode cX9_rock 24 = .ok (.aload_n 0, 1) := by decide +kernel
theorem dX9_rock_25 : decode cX9_rock 25 = .ok (.invokevirtual 232, 3) := by decide +kernel
theorem dX9_rock_28 : decode cX9_rock 28 = .ok (.ifCond .ne 14, 3) := by decide +kernel
theorem dX9_rock_31 : decode cX9_rock 31 = .ok (.iload_n 2, 1) := by decide +kernel
theorem dX9_rock_32 : decode cX9_rock 32 = .ok (.aload_n 0, 1) := by decide +kernel
theorem dX9_rock_33 : decode cX9_rock 33 = .ok (.iconst (-1), 1) := by decide +kernel
theorem dX9_rock_34 : decode cX9_rock 34 = .ok (.invokevirtual 238, 3) := by decide +kernel
theorem dX9_rock_37 : decode cX9_rock 37 = .ok (.iadd, 1) := by decide +kernel
theorem dX9_rock_38 : decode cX9_rock 38 = .ok (.istore_n 2, 1) := by decide +kernel
theorem dX9_rock_39 : decode cX9_rock 39 = .ok (.goto (-23), 3) := by decide +kernel
theorem dX9_rock_42 : decode cX9_rock 42 = .ok (.aload_n 0, 1) := by decide +kernel
theorem dX9_rock_43 : decode cX9_rock 43 = .ok (.iload_n 1, 1) := by decide +kernel
theorem dX9_rock_44 : decode cX9_rock 44 = .ok (.invokevirtual 108, 3) := by decide +kernel
theorem dX9_rock_47 : decode cX9_rock 47 = .ok (.ifCond .eq 16, 3) := by decide +kernel
theorem dX9_rock_50 : decode cX9_rock 50 = .ok (.iload_n 2, 1) := by decide +kernel
theorem dX9_rock_51 : decode cX9_rock 51 = .ok (.ifCond .lt 12, 3) := by decide +kernel
theorem dX9_rock_54 : decode cX9_rock 54 = .ok (.aload_n 0, 1) := by decide +kernel
theorem dX9_rock_55 : decode cX9_rock 55 = .ok (.getfield 9, 3) := by decide +kernel
theorem dX9_rock_58 : decode cX9_rock 58 = .ok (.iconst 0, 1) := by decide +kernel
theorem dX9_rock_59 : decode cX9_rock 59 = .ok (.iaload, 1) := by decide +kernel
theorem dX9_rock_60 : decode cX9_rock 60 = .ok (.goto 5, 3) := by decide +kernel
theorem dX9_rock_63 : decode cX9_rock 63 = .ok (.bipush (-3), 2) := by decide +kernel
theorem dX9_rock_65 : decode cX9_rock 65 = .ok (.istore_n 3, 1) := by decide +kernel
theorem dX9_rock_66 : decode cX9_rock 66 = .ok (.aload_n 0, 1) := by decide +kernel
theorem dX9_rock_67 : decode cX9_rock 67 = .ok (.invokevirtual 247, 3) := by decide +kernel
theorem dX9_rock_70 : decode cX9_rock 70 = .ok (.iload_n 3, 1) := by decide +kernel
theorem dX9_rock_71 : decode cX9_rock 71 = .ok (.ireturn, 1) := by decide +kernel
theorem dX9_least_0 : decode cX9_least 0 = .ok (.aload_n 0, 1) := by decide +kernel
theorem dX9_least_1 : decode cX9_least 1 = .ok (.iload_n 1, 1) := by decide +kernel
theorem dX9_least_2 : decode cX9_least 2 = .ok (.invokevirtual 226, 3) := by decide +kernel
theorem dX9_least_5 : decode cX9_least 5 = .ok (.ifCond .ne 5, 3) := by decide +kernel
theorem dX9_least_8 : decode cX9_least 8 = .ok (.iconst (-1), 1) := by decide +kernel
theorem dX9_least_9 : decode cX9_least 9 = .ok (.ireturn, 1) := by decide +kernel
theorem dX9_least_10 : decode cX9_least 10 = .ok (.iconst 0, 1) := by decide +kernel
theorem dX9_least_11 : decode cX9_least 11 = .ok (.istore_n 2, 1) := by decide +kernel
theorem dX9_least_12 : decode cX9_least 12 = .ok (.iload_n 2, 1) := by decide +kernel
theorem dX9_least_13 : decode cX9_least 13 = .ok (.bipush 9, 2) := by decide +kernel
theorem dX9_least_15 : decode cX9_least 15 = .ok (.if_icmp .gt 20, 3) := by decide +kernel
theorem dX9_least_18 : decode cX9_least 18 = .ok (.aload_n 0, 1) := by decide +kernel
theorem dX9_least_19 : decode cX9_least 19 = .ok (.iload_n 1, 1) := by decide +kernel
theorem dX9_least_20 : decode cX9_least 20 = .ok (.iload_n 2, 1) := by decide +kernel
theorem dX9_least_21 : decode cX9_least 21 = .ok (.invokevirtual 98, 3) := by decide +kernel
theorem dX9_least_24 : decode cX9_least 24 = .ok (.ifCond .eq 5, 3) := by decide +kernel
theorem dX9_least_27 : decode cX9_least 27 = .ok (.iload_n 2, 1) := by decide +kernel
theorem dX9_least_28 : decode cX9_least 28 = .ok (.ireturn, 1) := by decide +kernel
theorem dX9_least_29 : decode cX9_least 29 = .ok (.iinc 2 1, 3) := by decide +kernel
theorem dX9_least_32 : decode cX9_least 32 = .ok (.goto (-20), 3) := by decide +kernel
theorem dX9_least_35 : decode cX9_least 35 = .ok (.bipush (-3), 2) := by decide +kernel
theorem dX9_least_37 : decode cX9_least 37 = .ok (.ireturn, 1) := by decide +kernel
theorem dX9_safe_0 : decode cX9_safe 0 = .ok (.iload_n 1, 1) := by decide +kernel
theorem dX9_safe_1 : decode cX9_safe 1 = .ok (.iconst 0, 1) := by decide +kernel
theorem dX9_safe_2 : decode cX9_safe 2 = .ok (.bipush 16, 2) := by decide +kernel
theorem dX9_safe_4 : decode cX9_safe 4 = .ok (.invokestatic 71, 3) := by decide +kernel
theorem dX9_safe_7 : decode cX9_safe 7 = .ok (.ifCond .ne 5, 3) := by decide +kernel
theorem dX9_safe_10 : decode cX9_safe 10 = .ok (.iconst (-1), 1) := by decide +kernel
theorem dX9_safe_11 : decode cX9_safe 11 = .ok (.ireturn, 1) := by decide +kernel
theorem dX9_safe_12 : decode cX9_safe 12 = .ok (.aload_n 0, 1) := by decide +kernel
theorem dX9_safe_13 : decode cX9_safe 13 = .ok (.invokevirtual 241, 3) := by decide +kernel
theorem dX9_safe_16 : decode cX9_safe 16 = .ok (.iconst 0, 1) := by decide +kernel
theorem dX9_safe_17 : decode cX9_safe 17 = .ok (.istore_n 2, 1) := by decide +kernel
theorem dX9_safe_18 : decode cX9_safe 18 = .ok (.iconst 0, 1) := by decide +kernel
theorem dX9_safe_19 : decode cX9_safe 19 = .ok (.istore_n 3, 1) := by decide +kernel
theorem dX9_safe_20 : decode cX9_safe 20 = .ok (.iload_n 3, 1) := by decide +kernel
theorem dX9_safe_21 : decode cX9_safe 21 = .ok (.iload_n 1, 1) := by decide +kernel
theorem dX9_safe_22 : decode cX9_safe 22 = .ok (.if_icmp .ge 24, 3) := by decide +kernel
theorem dX9_safe_25 : decode cX9_safe 25 = .ok (.aload_n 0, 1) := by decide +kernel
theorem dX9_safe_26 : decode cX9_safe 26 = .ok (.invokevirtual 232, 3) := by decide +kernel
theorem dX9_safe_29 : decode cX9_safe 29 = .ok (.ifCond .ne 17, 3) := by decide +kernel
theorem dX9_safe_32 : decode cX9_safe 32 = .ok (.iload_n 2, 1) := by decide +kernel
theorem dX9_safe_33 : decode cX9_safe 33 = .ok (.aload_n 0, 1) := by decide +kernel
theorem dX9_safe_34 : decode cX9_safe 34 = .ok (.iconst (-1), 1) := by decide +kernel
theorem dX9_safe_35 : decode cX9_safe 35 = .ok (.invokevirtual 238, 3) := by decide +kernel
theorem dX9_safe_38 : decode cX9_safe 38 = .ok (.iadd, 1) := by decide +kernel
theorem dX9_safe_39 : decode cX9_safe 39 = .ok (.istore_n 2, 1) := by decide +kernel
theorem dX9_safe_40 : decode cX9_safe 40 = .ok (.iinc 3 1, 3) := by decide +kernel
theorem dX9_safe_43 : decode cX9_safe 43 = .ok (.goto (-23), 3) := by decide +kernel
theorem dX9_safe_46 : decode cX9_safe 46 = .ok (.iconst 0, 1) := by decide +kernel
theorem dX9_safe_47 : decode cX9_safe 47 = .ok (.istore_n 3, 1) := by decide +kernel
theorem dX9_safe_48 : decode cX9_safe 48 = .ok (.iconst 0, 1) := by decide +kernel
theorem dX9_safe_49 : decode cX9_safe 49 = .ok (.istore 4, 2) := by decide +kernel
theorem dX9_safe_51 : decode cX9_safe 51 = .ok (.iload 4, 2) := by decide +kernel
theorem dX9_safe_53 : decode cX9_safe 53 = .ok (.aload_n 0, 1) := by decide +kernel
theorem dX9_safe_54 : decode cX9_safe 54 = .ok (.getfield 9, 3) := by decide +kernel
theorem dX9_safe_57 : decode cX9_safe 57 = .ok (.iconst 4, 1) := by decide +kernel
theorem dX9_safe_58 : decode cX9_safe 58 = .ok (.iaload, 1) := by decide +kernel
theorem dX9_safe_59 : decode cX9_safe 59 = .ok (.if_icmp .ge 33, 3) := by decide +kernel
theorem dX9_safe_62 : decode cX9_safe 62 = .ok (.iload_n 2, 1) := by decide +kernel
theorem dX9_safe_63 : decode cX9_safe 63 = .ok (.ifCond .lt 29, 3) := by decide +kernel
theorem dX9_safe_66 : decode cX9_safe 66 = .ok (.iload_n 3, 1) := by decide +kernel
theorem dX9_safe_67 : decode cX9_safe 67 = .ok (.aload_n 0, 1) := by decide +kernel
theorem dX9_safe_68 : decode cX9_safe 68 = .ok (.iload 4, 2) := by decide +kernel
theorem dX9_safe_70 : decode cX9_safe 70 = .ok (.invokevirtual 108, 3) := by decide +kernel
theorem dX9_safe_73 : decode cX9_safe 73 = .ok (.ifCond .eq 7, 3) := by decide +kernel
theorem dX9_safe_76 : decode cX9_safe 76 = .ok (.iconst 0, 1) := by decide +kernel
theorem dX9_safe_77 : decode cX9_safe 77 = .ok (.goto 7, 3) := by decide +kernel
theorem dX9_safe_80 : decode cX9_safe 80 = .ok (.iconst 1, 1) := by decide +kernel
theorem dX9_safe_81 : decode cX9_safe 81 = .ok (.iload 4, 2) := by decide +kernel
theorem dX9_safe_83 : decode cX9_safe 83 = .ok (.ishl, 1) := by decide +kernel
theorem dX9_safe_84 : decode cX9_safe 84 = .ok (.ior, 1) := by decide +kernel
theorem dX9_safe_85 : decode cX9_safe 85 = .ok (.istore_n 3, 1) := by decide +kernel
theorem dX9_safe_86 : decode cX9_safe 86 = .ok (.iinc 4 1, 3) := by decide +kernel
theorem dX9_safe_89 : decode cX9_safe 89 = .ok (.goto (-38), 3) := by decide +kernel
theorem dX9_safe_92 : decode cX9_safe 92 = .ok (.aload_n 0, 1) := by decide +kernel
theorem dX9_safe_93 : decode cX9_safe 93 = .ok (.invokevirtual 247, 3) := by decide +kernel
theorem dX9_safe_96 : decode cX9_safe 96 = .ok (.iload_n 3, 1) := by decide +kernel
theorem dX9_safe_97 : decode cX9_safe 97 = .ok (.ireturn, 1) := by decide +kernel
theorem dX9_areClose_0 : decode cX9_areClose 0 = .ok (.aload_n 0, 1) := by decide +kernel
theorem dX9_areClose_1 : decode cX9_areClose 1 = .ok (.iload_n 1, 1) := by decide +kernel
theorem dX9_areClose_2 : decode cX9_areClose 2 = .ok (.iconst 3, 1) := by decide +kernel
theorem dX9_areClose_3 : decode cX9_areClose 3 = .ok (.invokevirtual 79, 3) := by decide +kernel
theorem dX9_areClose_6 : decode cX9_areClose 6 = .ok (.aload_n 0, 1) := by decide +kernel
theorem dX9_areClose_7 : decode cX9_areClose 7 = .ok (.iload_n 2, 1) := by decide +kernel
theorem dX9_areClose_8 : decode cX9_areClose 8 = .ok (.iconst 3, 1) := by decide +kernel
theorem dX9_areClose_9 : decode cX9_areClose 9 = .ok (.invokevirtual 79, 3) := by decide +kernel
theorem dX9_areClose_12 : decode cX9_areClose 12 = .ok (.if_icmp .eq 22, 3) := by decide +kernel
theorem dX9_areClose_15 : decode cX9_areClose 15 = .ok (.aload_n 0, 1) := by decide +kernel
theorem dX9_areClose_16 : decode cX9_areClose 16 = .ok (.iload_n 1, 1) := by decide +kernel
theorem dX9_areClose_17 : decode cX9_areClose 17 = .ok (.iconst 1, 1) := by decide +kernel
theorem dX9_areClose_18 : decode cX9_areClose 18 = .ok (.invokevirtual 79, 3) := by decide +kernel
theorem dX9_areClose_21 : decode cX9_areClose 21 = .ok (.aload_n 0, 1) := by decide +kernel
theorem dX9_areClose_22 : decode cX9_areClose 22 = .ok (.iload_n 2, 1) := by decide +kernel
theorem dX9_areClose_23 : decode cX9_areClose 23 = .ok (.iconst 1, 1) := by decide +kernel
theorem dX9_areClose_24 : decode cX9_areClose 24 = .ok (.invokevirtual 79, 3) := by decide +kernel
theorem dX9_areClose_27 : decode cX9_areClose 27 = .ok (.invokestatic 253, 3) := by decide +kernel
theorem dX9_areClose_30 : decode cX9_areClose 30 = .ok (.iconst 4, 1) := by decide +kernel
theorem dX9_areClose_31 : decode cX9_areClose 31 = .ok (.if_icmp .gt 7, 3) := by decide +kernel
theorem dX9_areClose_34 : decode cX9_areClose 34 = .ok (.iconst 1, 1) := by decide +kernel
theorem dX9_areClose_35 : decode cX9_areClose 35 = .ok (.goto 4, 3) := by decide +kernel
theorem dX9_areClose_38 : decode cX9_areClose 38 = .ok (.iconst 0, 1) := by decide +kernel
theorem dX9_areClose_39 : decode cX9_areClose 39 = .ok (.istore_n 3, 1) := by decide +kernel
theorem dX9_areClose_40 : decode cX9_areClose 40 = .ok (.aload_n 0, 1) := by decide +kernel
theorem dX9_areClose_41 : decode cX9_areClose 41 = .ok (.iload_n 1, 1) := by decide +kernel
theorem dX9_areClose_42 : decode cX9_areClose 42 = .ok (.iconst 4, 1) := by decide +kernel
theorem dX9_areClose_43 : decode cX9_areClose 43 = .ok (.invokevirtual 79, 3) := by decide +kernel
theorem dX9_areClose_46 : decode cX9_areClose 46 = .ok (.ifCond .ne 20, 3) := by decide +kernel
theorem dX9_areClose_49 : decode cX9_areClose 49 = .ok (.aload_n 0, 1) := by decide +kernel
theorem dX9_areClose_50 : decode cX9_areClose 50 = .ok (.iload_n 2, 1) := by decide +kernel
theorem dX9_areClose_51 : decode cX9_areClose 51 = .ok (.iconst 4, 1) := by decide +kernel
theorem dX9_areClose_52 : decode cX9_areClose 52 = .ok (.invokevirtual 79, 3) := by decide +kernel
theorem dX9_areClose_55 : decode cX9_areClose 55 = .ok (.ifCond .ne 11, 3) := by decide +kernel
theorem dX9_areClose_58 : decode cX9_areClose 58 = .ok (.iload_n 3, 1) := by decide +kernel
theorem dX9_areClose_59 : decode cX9_areClose 59 = .ok (.ifCond .eq 7, 3) := by decide +kernel
theorem dX9_areClose_62 : decode cX9_areClose 62 = .ok (.iconst 1, 1) := by decide +kernel
theorem dX9_areClose_63 : decode cX9_areClose 63 = .ok (.goto 4, 3) := by decide +kernel
theorem dX9_areClose_66 : decode cX9_areClose 66 = .ok (.iconst 0, 1) := by decide +kernel
theorem dX9_areClose_67 : decode cX9_areClose 67 = .ok (.ireturn, 1) := by decide +kernel
theorem dX9_convoyOf_0 : decode cX9_convoyOf 0 = .ok (.iconst 1, 1) := by decide +kernel
theorem dX9_convoyOf_1 : decode cX9_convoyOf 1 = .ok (.iload_n 1, 1) := by decide +kernel
theorem dX9_convoyOf_2 : decode cX9_convoyOf 2 = .ok (.ishl, 1) := by decide +kernel
theorem dX9_convoyOf_3 : decode cX9_convoyOf 3 = .ok (.istore_n 2, 1) := by decide +kernel
theorem dX9_convoyOf_4 : decode cX9_convoyOf 4 = .ok (.iconst 0, 1) := by decide +kernel
theorem dX9_convoyOf_5 : decode cX9_convoyOf 5 = .ok (.istore_n 3, 1) := by decide +kernel
theorem dX9_convoyOf_6 : decode cX9_convoyOf 6 = .ok (.iload_n 3, 1) := by decide +kernel
theorem dX9_convoyOf_7 : decode cX9_convoyOf 7 = .ok (.aload_n 0, 1) := by decide +kernel
theorem dX9_convoyOf_8 : decode cX9_convoyOf 8 = .ok (.getfield 9, 3) := by decide +kernel
theorem dX9_convoyOf_11 : decode cX9_convoyOf 11 = .ok (.iconst 4, 1) := by decide +kernel
theorem dX9_convoyOf_12 : decode cX9_convoyOf 12 = .ok (.iaload, 1) := by decide +kernel
theorem dX9_convoyOf_13 : decode cX9_convoyOf 13 = .ok (.if_icmp .ge 81, 3) := by decide +kernel
theorem dX9_convoyOf_16 : decode cX9_convoyOf 16 = .ok (.iconst 0, 1) := by decide +kernel
theorem dX9_convoyOf_17 : decode cX9_convoyOf 17 = .ok (.istore 4, 2) := by decide +kernel
theorem dX9_convoyOf_19 : decode cX9_convoyOf 19 = .ok (.iload 4, 2) := by decide +kernel
theorem dX9_convoyOf_21 : decode cX9_convoyOf 21 = .ok (.aload_n 0, 1) := by decide +kernel
theorem dX9_convoyOf_22 : decode cX9_convoyOf 22 = .ok (.getfield 9, 3) := by decide +kernel
theorem dX9_convoyOf_25 : decode cX9_convoyOf 25 = .ok (.iconst 4, 1) := by decide +kernel
theorem dX9_convoyOf_26 : decode cX9_convoyOf 26 = .ok (.iaload, 1) := by decide +kernel
theorem dX9_convoyOf_27 : decode cX9_convoyOf 27 = .ok (.if_icmp .ge 61, 3) := by decide +kernel
theorem dX9_convoyOf_30 : decode cX9_convoyOf 30 = .ok (.iconst 0, 1) := by decide +kernel
theorem dX9_convoyOf_31 : decode cX9_convoyOf 31 = .ok (.istore 5, 2) := by decide +kernel
theorem dX9_convoyOf_33 : decode cX9_convoyOf 33 = .ok (.iload 5, 2) := by decide +kernel
theorem dX9_convoyOf_35 : decode cX9_convoyOf 35 = .ok (.aload_n 0, 1) := by decide +kernel
theorem dX9_convoyOf_36 : decode cX9_convoyOf 36 = .ok (.getfield 9, 3) := by decide +kernel
theorem dX9_convoyOf_39 : decode cX9_convoyOf 39 = .ok (.iconst 4, 1) := by decide +kernel
theorem dX9_convoyOf_40 : decode cX9_convoyOf 40 = .ok (.iaload, 1) := by decide +kernel
theorem dX9_convoyOf_41 : decode cX9_convoyOf 41 = .ok (.if_icmp .ge 41, 3) := by decide +kernel
theorem dX9_convoyOf_44 : decode cX9_convoyOf 44 = .ok (.iload_n 2, 1) := by decide +kernel
theorem dX9_convoyOf_45 : decode cX9_convoyOf 45 = .ok (.iload_n 2, 1) := by decide +kernel
theorem dX9_convoyOf_46 : decode cX9_convoyOf 46 = .ok (.iload 4, 2) := by decide +kernel
theorem dX9_convoyOf_48 : decode cX9_convoyOf 48 = .ok (.ishr, 1) := by decide +kernel
theorem dX9_convoyOf_49 : decode cX9_convoyOf 49 = .ok (.iconst 1, 1) := by decide +kernel
theorem dX9_convoyOf_50 : decode cX9_convoyOf 50 = .ok (.iand, 1) := by decide +kernel
theorem dX9_convoyOf_51 : decode cX9_convoyOf 51 = .ok (.iconst 1, 1) := by decide +kernel
theorem dX9_convoyOf_52 : decode cX9_convoyOf 52 = .ok (.if_icmp .ne 21, 3) := by decide +kernel
theorem dX9_convoyOf_55 : decode cX9_convoyOf 55 = .ok (.aload_n 0, 1) := by decide +kernel
theorem dX9_convoyOf_56 : decode cX9_convoyOf 56 = .ok (.iload 4, 2) := by decide +kernel
theorem dX9_convoyOf_58 : decode cX9_convoyOf 58 = .ok (.iload 5, 2) := by decide +kernel
theorem dX9_convoyOf_60 : decode cX9_convoyOf 60 = .ok (.invokevirtual 256, 3) := by decide +kernel
theorem dX9_convoyOf_63 : decode cX9_convoyOf 63 = .ok (.ifCond .eq 10, 3) := by decide +kernel
theorem dX9_convoyOf_66 : decode cX9_convoyOf 66 = .ok (.iconst 1, 1) := by decide +kernel
theorem dX9_convoyOf_67 : decode cX9_convoyOf 67 = .ok (.iload 5, 2) := by decide +kernel
theorem dX9_convoyOf_69 : decode cX9_convoyOf 69 = .ok (.ishl, 1) := by decide +kernel
theorem dX9_convoyOf_70 : decode cX9_convoyOf 70 = .ok (.goto 4, 3) := by decide +kernel
theorem dX9_convoyOf_73 : decode cX9_convoyOf 73 = .ok (.iconst 0, 1) := by decide +kernel
theorem dX9_convoyOf_74 : decode cX9_convoyOf 74 = .ok (.ior, 1) := by decide +kernel
theorem dX9_convoyOf_75 : decode cX9_convoyOf 75 = .ok (.istore_n 2, 1) := by decide +kernel
theorem dX9_convoyOf_76 : decode cX9_convoyOf 76 = .ok (.iinc 5 1, 3) := by decide +kernel
theorem dX9_convoyOf_79 : decode cX9_convoyOf 79 = .ok (.goto (-46), 3) := by decide +kernel
theorem dX9_convoyOf_82 : decode cX9_convoyOf 82 = .ok (.iinc 4 1, 3) := by decide +kernel
theorem dX9_convoyOf_85 : decode cX9_convoyOf 85 = .ok (.goto (-66), 3) := by decide +kernel
theorem dX9_convoyOf_88 : decode cX9_convoyOf 88 = .ok (.iinc 3 1, 3) := by decide +kernel
theorem dX9_convoyOf_91 : decode cX9_convoyOf 91 = .ok (.goto (-85), 3) := by decide +kernel
theorem dX9_convoyOf_94 : decode cX9_convoyOf 94 = .ok (.aload_n 0, 1) := by decide +kernel
theorem dX9_convoyOf_95 : decode cX9_convoyOf 95 = .ok (.iload_n 1, 1) := by decide +kernel
theorem dX9_convoyOf_96 : decode cX9_convoyOf 96 = .ok (.iconst 4, 1) := by decide +kernel
theorem dX9_convoyOf_97 : decode cX9_convoyOf 97 = .ok (.invokevirtual 79, 3) := by decide +kernel
theorem dX9_convoyOf_100 : decode cX9_convoyOf 100 = .ok (.iconst 1, 1) := by decide +kernel
theorem dX9_convoyOf_101 : decode cX9_convoyOf 101 = .ok (.if_icmp .ne 7, 3) := by decide +kernel
theorem dX9_convoyOf_104 : decode cX9_convoyOf 104 = .ok (.iconst 0, 1) := by decide +kernel
theorem dX9_convoyOf_105 : decode cX9_convoyOf 105 = .ok (.goto 4, 3) := by decide +kernel
theorem dX9_convoyOf_108 : decode cX9_convoyOf 108 = .ok (.iload_n 2, 1) := by decide +kernel
theorem dX9_convoyOf_109 : decode cX9_convoyOf 109 = .ok (.ireturn, 1) := by decide +kernel
theorem dX9_convoys_0 : decode cX9_convoys 0 = .ok (.iload_n 1, 1) := by decide +kernel
theorem dX9_convoys_1 : decode cX9_convoys 1 = .ok (.iconst (-1), 1) := by decide +kernel
theorem dX9_convoys_2 : decode cX9_convoys 2 = .ok (.if_icmp .eq 13, 3) := by decide +kernel
theorem dX9_convoys_5 : decode cX9_convoys 5 = .ok (.aload_n 0, 1) := by decide +kernel
theorem dX9_convoys_6 : decode cX9_convoys 6 = .ok (.iload_n 1, 1) := by decide +kernel
theorem dX9_convoys_7 : decode cX9_convoys 7 = .ok (.invokevirtual 226, 3) := by decide +kernel
theorem dX9_convoys_10 : decode cX9_convoys 10 = .ok (.ifCond .ne 5, 3) := by decide +kernel
theorem dX9_convoys_13 : decode cX9_convoys 13 = .ok (.iconst (-1), 1) := by decide +kernel
theorem dX9_convoys_14 : decode cX9_convoys 14 = .ok (.ireturn, 1) := by decide +kernel
theorem dX9_convoys_15 : decode cX9_convoys 15 = .ok (.iload_n 1, 1) := by decide +kernel
theorem dX9_convoys_16 : decode cX9_convoys 16 = .ok (.ifCond .lt 9, 3) := by decide +kernel
theorem dX9_convoys_19 : decode cX9_convoys 19 = .ok (.aload_n 0, 1) := by decide +kernel
theorem dX9_convoys_20 : decode cX9_convoys 20 = .ok (.iload_n 1, 1) := by decide +kernel
theorem dX9_convoys_21 : decode cX9_convoys 21 = .ok (.invokevirtual 259, 3) := by decide +kernel
theorem dX9_convoys_24 : decode cX9_convoys 24 = .ok (.ireturn, 1) := by decide +kernel
theorem dX9_convoys_25 : decode cX9_convoys 25 = .ok (.iconst 0, 1) := by decide +kernel
theorem dX9_convoys_26 : decode cX9_convoys 26 = .ok (.istore_n 2, 1) := by decide +kernel
theorem dX9_convoys_27 : decode cX9_convoys 27 = .ok (.iconst 0, 1) := by decide +kernel
theorem dX9_convoys_28 : decode cX9_convoys 28 = .ok (.istore_n 3, 1) := by decide +kernel
theorem dX9_convoys_29 : decode cX9_convoys 29 = .ok (.iload_n 3, 1) := by decide +kernel
theorem dX9_convoys_30 : decode cX9_convoys 30 = .ok (.aload_n 0, 1) := by decide +kernel
theorem dX9_convoys_31 : decode cX9_convoys 31 = .ok (.getfield 9, 3) := by decide +kernel
theorem dX9_convoys_34 : decode cX9_convoys 34 = .ok (.iconst 4, 1) := by decide +kernel
theorem dX9_convoys_35 : decode cX9_convoys 35 = .ok (.iaload, 1) := by decide +kernel
theorem dX9_convoys_36 : decode cX9_convoys 36 = .ok (.if_icmp .ge 38, 3) := by decide +kernel
theorem dX9_convoys_39 : decode cX9_convoys 39 = .ok (.aload_n 0, 1) := by decide +kernel
theorem dX9_convoys_40 : decode cX9_convoys 40 = .ok (.iload_n 3, 1) := by decide +kernel
theorem dX9_convoys_41 : decode cX9_convoys 41 = .ok (.invokevirtual 259, 3) := by decide +kernel
theorem dX9_convoys_44 : decode cX9_convoys 44 = .ok (.istore 4, 2) := by decide +kernel
theorem dX9_convoys_46 : decode cX9_convoys 46 = .ok (.iload_n 2, 1) := by decide +kernel
theorem dX9_convoys_47 : decode cX9_convoys 47 = .ok (.iload 4, 2) := by decide +kernel
theorem dX9_convoys_49 : decode cX9_convoys 49 = .ok (.ifCond .eq 16, 3) := by decide +kernel
theorem dX9_convoys_52 : decode cX9_convoys 52 = .ok (.iload 4, 2) := by decide +kernel
theorem dX9_convoys_54 : decode cX9_convoys 54 = .ok (.iconst 1, 1) := by decide +kernel
theorem dX9_convoys_55 : decode cX9_convoys 55 = .ok (.iload_n 3, 1) := by decide +kernel
theorem dX9_convoys_56 : decode cX9_convoys 56 = .ok (.ishl, 1) := by decide +kernel
theorem dX9_convoys_57 : decode cX9_convoys 57 = .ok (.irem, 1) := by decide +kernel
theorem dX9_convoys_58 : decode cX9_convoys 58 = .ok (.ifCond .ne 7, 3) := by decide +kernel
theorem dX9_convoys_61 : decode cX9_convoys 61 = .ok (.iconst 1, 1) := by decide +kernel
theorem dX9_convoys_62 : decode cX9_convoys 62 = .ok (.goto 4, 3) := by decide +kernel
theorem dX9_convoys_65 : decode cX9_convoys 65 = .ok (.iconst 0, 1) := by decide +kernel
theorem dX9_convoys_66 : decode cX9_convoys 66 = .ok (.iadd, 1) := by decide +kernel
theorem dX9_convoys_67 : decode cX9_convoys 67 = .ok (.istore_n 2, 1) := by decide +kernel
theorem dX9_convoys_68 : decode cX9_convoys 68 = .ok (.iinc 3 1, 3) := by decide +kernel
theorem dX9_convoys_71 : decode cX9_convoys 71 = .ok (.goto (-42), 3) := by decide +kernel
theorem dX9_convoys_74 : decode cX9_convoys 74 = .ok (.iload_n 2, 1) := by decide +kernel
theorem dX9_convoys_75 : decode cX9_convoys 75 = .ok (.ireturn, 1) := by decide +kernel
theorem dX9_saves_0 : decode cX9_saves 0 = .ok (.iconst 0, 1) := by decide +kernel
theorem dX9_saves_1 : decode cX9_saves 1 = .ok (.istore_n 2, 1) := by decide +kernel
theorem dX9_saves_2 : decode cX9_saves 2 = .ok (.iload_n 2, 1) := by decide +kernel
theorem dX9_saves_3 : decode cX9_saves 3 = .ok (.bipush 65, 2) := by decide +kernel
theorem dX9_saves_5 : decode cX9_saves 5 = .ok (.if_icmp .ge 26, 3) := by decide +kernel
theorem dX9_saves_8 : decode cX9_saves 8 = .ok (.aload_n 0, 1) := by decide +kernel
theorem dX9_saves_9 : decode cX9_saves 9 = .ok (.getfield 35, 3) := by decide +kernel
theorem dX9_saves_12 : decode cX9_saves 12 = .ok (.bipush 65, 2) := by decide +kernel
theorem dX9_saves_14 : decode cX9_saves 14 = .ok (.iload_n 1, 1) := by decide +kernel
theorem dX9_saves_15 : decode cX9_saves 15 = .ok (.imul, 1) := by decide +kernel
theorem dX9_saves_16 : decode cX9_saves 16 = .ok (.iload_n 2, 1) := by decide +kernel
theorem dX9_saves_17 : decode cX9_saves 17 = .ok (.iadd, 1) := by decide +kernel
theorem dX9_saves_18 : decode cX9_saves 18 = .ok (.aload_n 0, 1) := by decide +kernel
theorem dX9_saves_19 : decode cX9_saves 19 = .ok (.getfield 9, 3) := by decide +kernel
theorem dX9_saves_22 : decode cX9_saves 22 = .ok (.iload_n 2, 1) := by decide +kernel
theorem dX9_saves_23 : decode cX9_saves 23 = .ok (.iaload, 1) := by decide +kernel
theorem dX9_saves_24 : decode cX9_saves 24 = .ok (.iastore, 1) := by decide +kernel
theorem dX9_saves_25 : decode cX9_saves 25 = .ok (.iinc 2 1, 3) := by decide +kernel
theorem dX9_saves_28 : decode cX9_saves 28 = .ok (.goto (-26), 3) := by decide +kernel
theorem dX9_saves_31 : decode cX9_saves 31 = .ok (.return_, 1) := by decide +kernel
theorem dX9_restores_0 : decode cX9_restores 0 = .ok (.iconst 0, 1) := by decide +kernel
theorem dX9_restores_1 : decode cX9_restores 1 = .ok (.istore_n 2, 1) := by decide +kernel
theorem dX9_restores_2 : decode cX9_restores 2 = .ok (.iload_n 2, 1) := by decide +kernel
theorem dX9_restores_3 : decode cX9_restores 3 = .ok (.bipush 65, 2) := by decide +kernel
theorem dX9_restores_5 : decode cX9_restores 5 = .ok (.if_icmp .ge 26, 3) := by decide +kernel
theorem dX9_restores_8 : decode cX9_restores 8 = .ok (.aload_n 0, 1) := by decide +kernel
theorem dX9_restores_9 : decode cX9_restores 9 = .ok (.getfield 9, 3) := by decide +kernel
theorem dX9_restores_12 : decode cX9_restores 12 = .ok (.iload_n 2, 1) := by decide +kernel
theorem dX9_restores_13 : decode cX9_restores 13 = .ok (.aload_n 0, 1) := by decide +kernel
theorem dX9_restores_14 : decode cX9_restores 14 = .ok (.getfield 35, 3) := by decide +kernel
theorem dX9_restores_17 : decode cX9_restores 17 = .ok (.bipush 65, 2) := by decide +kernel
theorem dX9_restores_19 : decode cX9_restores 19 = .ok (.iload_n 1, 1) := by decide +kernel
theorem dX9_restores_20 : decode cX9_restores 20 = .ok (.imul, 1) := by decide +kernel
theorem dX9_restores_21 : decode cX9_restores 21 = .ok (.iload_n 2, 1) := by decide +kernel
theorem dX9_restores_22 : decode cX9_restores 22 = .ok (.iadd, 1) := by decide +kernel
theorem dX9_restores_23 : decode cX9_restores 23 = .ok (.iaload, 1) := by decide +kernel
theorem dX9_restores_24 : decode cX9_restores 24 = .ok (.iastore, 1) := by decide +kernel
theorem dX9_restores_25 : decode cX9_restores 25 = .ok (.iinc 2 1, 3) := by decide +kernel
theorem dX9_restores_28 : decode cX9_restores 28 = .ok (.goto (-26), 3) := by decide +kernel
theorem dX9_restores_31 : decode cX9_restores 31 = .ok (.return_, 1) := by decide +kernel
theorem dX9_daysOf_0 : decode cX9_daysOf 0 = .ok (.aload_n 0, 1) := by decide +kernel
theorem dX9_daysOf_1 : decode cX9_daysOf 1 = .ok (.invokevirtual 232, 3) := by decide +kernel
theorem dX9_daysOf_4 : decode cX9_daysOf 4 = .ok (.ifCond .eq 7, 3) := by decide +kernel
theorem dX9_daysOf_7 : decode cX9_daysOf 7 = .ok (.iconst 0, 1) := by decide +kernel
theorem dX9_daysOf_8 : decode cX9_daysOf 8 = .ok (.goto 16, 3) := by decide +kernel
theorem dX9_daysOf_11 : decode cX9_daysOf 11 = .ok (.aload_n 0, 1) := by decide +kernel
theorem dX9_daysOf_12 : decode cX9_daysOf 12 = .ok (.getfield 9, 3) := by decide +kernel
theorem dX9_daysOf_15 : decode cX9_daysOf 15 = .ok (.iconst 1, 1) := by decide +kernel
theorem dX9_daysOf_16 : decode cX9_daysOf 16 = .ok (.iaload, 1) := by decide +kernel
theorem dX9_daysOf_17 : decode cX9_daysOf 17 = .ok (.aload_n 0, 1) := by decide +kernel
theorem dX9_daysOf_18 : decode cX9_daysOf 18 = .ok (.getfield 9, 3) := by decide +kernel
theorem dX9_daysOf_21 : decode cX9_daysOf 21 = .ok (.iconst 0, 1) := by decide +kernel
theorem dX9_daysOf_22 : decode cX9_daysOf 22 = .ok (.iaload, 1) := by decide +kernel
theorem dX9_daysOf_23 : decode cX9_daysOf 23 = .ok (.isub, 1) := by decide +kernel
theorem dX9_daysOf_24 : decode cX9_daysOf 24 = .ok (.istore_n 2, 1) := by decide +kernel
theorem dX9_daysOf_25 : decode cX9_daysOf 25 = .ok (.iload_n 1, 1) := by decide +kernel
theorem dX9_daysOf_26 : decode cX9_daysOf 26 = .ok (.iload_n 2, 1) := by decide +kernel
theorem dX9_daysOf_27 : decode cX9_daysOf 27 = .ok (.if_icmp .ge 7, 3) := by decide +kernel
theorem dX9_daysOf_30 : decode cX9_daysOf 30 = .ok (.iload_n 1, 1) := by decide +kernel
theorem dX9_daysOf_31 : decode cX9_daysOf 31 = .ok (.goto 4, 3) := by decide +kernel
theorem dX9_daysOf_34 : decode cX9_daysOf 34 = .ok (.iload_n 2, 1) := by decide +kernel
theorem dX9_daysOf_35 : decode cX9_daysOf 35 = .ok (.ireturn, 1) := by decide +kernel
theorem dX9_endsPlan_0 : decode cX9_endsPlan 0 = .ok (.iload_n 2, 1) := by decide +kernel
theorem dX9_endsPlan_1 : decode cX9_endsPlan 1 = .ok (.aload_n 0, 1) := by decide +kernel
theorem dX9_endsPlan_2 : decode cX9_endsPlan 2 = .ok (.getfield 262, 3) := by decide +kernel
theorem dX9_endsPlan_5 : decode cX9_endsPlan 5 = .ok (.if_icmp .le 42, 3) := by decide +kernel
theorem dX9_endsPlan_8 : decode cX9_endsPlan 8 = .ok (.aload_n 0, 1) := by decide +kernel
theorem dX9_endsPlan_9 : decode cX9_endsPlan 9 = .ok (.iconst 0, 1) := by decide +kernel
theorem dX9_endsPlan_10 : decode cX9_endsPlan 10 = .ok (.putfield 265, 3) := by decide +kernel
theorem dX9_endsPlan_13 : decode cX9_endsPlan 13 = .ok (.aload_n 0, 1) := by decide +kernel
theorem dX9_endsPlan_14 : decode cX9_endsPlan 14 = .ok (.iload_n 2, 1) := by decide +kernel
theorem dX9_endsPlan_15 : decode cX9_endsPlan 15 = .ok (.putfield 262, 3) := by decide +kernel
theorem dX9_endsPlan_18 : decode cX9_endsPlan 18 = .ok (.iconst 0, 1) := by decide +kernel
theorem dX9_endsPlan_19 : decode cX9_endsPlan 19 = .ok (.istore 5, 2) := by decide +kernel
theorem dX9_endsPlan_21 : decode cX9_endsPlan 21 = .ok (.iload 5, 2) := by decide +kernel
theorem dX9_endsPlan_23 : decode cX9_endsPlan 23 = .ok (.iload_n 1, 1) := by decide +kernel
theorem dX9_endsPlan_24 : decode cX9_endsPlan 24 = .ok (.if_icmp .ge 23, 3) := by decide +kernel
theorem dX9_endsPlan_27 : decode cX9_endsPlan 27 = .ok (.aload_n 0, 1) := by decide +kernel
theorem dX9_endsPlan_28 : decode cX9_endsPlan 28 = .ok (.getfield 41, 3) := by decide +kernel
theorem dX9_endsPlan_31 : decode cX9_endsPlan 31 = .ok (.iload 5, 2) := by decide +kernel
theorem dX9_endsPlan_33 : decode cX9_endsPlan 33 = .ok (.aload_n 0, 1) := by decide +kernel
theorem dX9_endsPlan_34 : decode cX9_endsPlan 34 = .ok (.getfield 38, 3) := by decide +kernel
theorem dX9_endsPlan_37 : decode cX9_endsPlan 37 = .ok (.iload 5, 2) := by decide +kernel
theorem dX9_endsPlan_39 : decode cX9_endsPlan 39 = .ok (.iaload, 1) := by decide +kernel
theorem dX9_endsPlan_40 : decode cX9_endsPlan 40 = .ok (.iastore, 1) := by decide +kernel
theorem dX9_endsPlan_41 : decode cX9_endsPlan 41 = .ok (.iinc 5 1, 3) := by decide +kernel
theorem dX9_endsPlan_44 : decode cX9_endsPlan 44 = .ok (.goto (-23), 3) := by decide +kernel
theorem dX9_endsPlan_47 : decode cX9_endsPlan 47 = .ok (.aload_n 0, 1) := by decide +kernel
theorem dX9_endsPlan_48 : decode cX9_endsPlan 48 = .ok (.dup, 1) := by decide +kernel
theorem dX9_endsPlan_49 : decode cX9_endsPlan 49 = .ok (.getfield 265, 3) := by decide +kernel
theorem dX9_endsPlan_52 : decode cX9_endsPlan 52 = .ok (.iload_n 2, 1) := by decide +kernel
theorem dX9_endsPlan_53 : decode cX9_endsPlan 53 = .ok (.aload_n 0, 1) := by decide +kernel
theorem dX9_endsPlan_54 : decode cX9_endsPlan 54 = .ok (.getfield 262, 3) := by decide +kernel
theorem dX9_endsPlan_57 : decode cX9_endsPlan 57 = .ok (.if_icmp .ne 7, 3) := by decide +kernel
theorem dX9_endsPlan_60 : decode cX9_endsPlan 60 = .ok (.iconst 1, 1) := by decide +kernel
theorem dX9_endsPlan_61 : decode cX9_endsPlan 61 = .ok (.goto 4, 3) := by decide +kernel
theorem dX9_endsPlan_64 : decode cX9_endsPlan 64 = .ok (.iconst 0, 1) := by decide +kernel
theorem dX9_endsPlan_65 : decode cX9_endsPlan 65 = .ok (.iadd, 1) := by decide +kernel
theorem dX9_endsPlan_66 : decode cX9_endsPlan 66 = .ok (.putfield 265, 3) := by decide +kernel
theorem dX9_endsPlan_69 : decode cX9_endsPlan 69 = .ok (.aload_n 0, 1) := by decide +kernel
theorem dX9_endsPlan_70 : decode cX9_endsPlan 70 = .ok (.iconst 4, 1) := by decide +kernel
theorem dX9_endsPlan_71 : decode cX9_endsPlan 71 = .ok (.invokevirtual 235, 3) := by decide +kernel
theorem dX9_endsPlan_74 : decode cX9_endsPlan 74 = .ok (.istore 5, 2) := by decide +kernel
theorem dX9_endsPlan_76 : decode cX9_endsPlan 76 = .ok (.aload_n 0, 1) := by decide +kernel
theorem dX9_endsPlan_77 : decode cX9_endsPlan 77 = .ok (.iload 4, 2) := by decide +kernel
theorem dX9_endsPlan_79 : decode cX9_endsPlan 79 = .ok (.iload 5, 2) := by decide +kernel
theorem dX9_endsPlan_81 : decode cX9_endsPlan 81 = .ok (.iconst (-1), 1) := by decide +kernel
theorem dX9_endsPlan_82 : decode cX9_endsPlan 82 = .ok (.ixor, 1) := by decide +kernel
theorem dX9_endsPlan_83 : decode cX9_endsPlan 83 = .ok (.iand, 1) := by decide +kernel
theorem dX9_endsPlan_84 : decode cX9_endsPlan 84 = .ok (.ifCond .ne 15, 3) := by decide +kernel
theorem dX9_endsPlan_87 : decode cX9_endsPlan 87 = .ok (.iload_n 3, 1) := by decide +kernel
theorem dX9_endsPlan_88 : decode cX9_endsPlan 88 = .ok (.aload_n 0, 1) := by decide +kernel
theorem dX9_endsPlan_89 : decode cX9_endsPlan 89 = .ok (.getfield 268, 3) := by decide +kernel
theorem dX9_endsPlan_92 : decode cX9_endsPlan 92 = .ok (.if_icmp .ge 7, 3) := by decide +kernel
theorem dX9_endsPlan_95 : decode cX9_endsPlan 95 = .ok (.iload_n 3, 1) := by decide +kernel
theorem dX9_endsPlan_96 : decode cX9_endsPlan 96 = .ok (.goto 7, 3) := by decide +kernel
theorem dX9_endsPlan_99 : decode cX9_endsPlan 99 = .ok (.aload_n 0, 1) := by decide +kernel
theorem dX9_endsPlan_100 : decode cX9_endsPlan 100 = .ok (.getfield 268, 3) := by decide +kernel
theorem dX9_endsPlan_103 : decode cX9_endsPlan 103 = .ok (.putfield 268, 3) := by decide +kernel
theorem dX9_endsPlan_106 : decode cX9_endsPlan 106 = .ok (.aload_n 0, 1) := by decide +kernel
theorem dX9_endsPlan_107 : decode cX9_endsPlan 107 = .ok (.dup, 1) := by decide +kernel
theorem dX9_endsPlan_108 : decode cX9_endsPlan 108 = .ok (.getfield 271, 3) := by decide +kernel
theorem dX9_endsPlan_111 : decode cX9_endsPlan 111 = .ok (.iload 5, 2) := by decide +kernel
theorem dX9_endsPlan_113 : decode cX9_endsPlan 113 = .ok (.ior, 1) := by decide +kernel
theorem dX9_endsPlan_114 : decode cX9_endsPlan 114 = .ok (.putfield 271, 3) := by decide +kernel
theorem dX9_endsPlan_117 : decode cX9_endsPlan 117 = .ok (.return_, 1) := by decide +kernel
theorem dX9_goesPlans_0 : decode cX9_goesPlans 0 = .ok (.iload_n 1, 1) := by decide +kernel
theorem dX9_goesPlans_1 : decode cX9_goesPlans 1 = .ok (.iload_n 2, 1) := by decide +kernel
theorem dX9_goesPlans_2 : decode cX9_goesPlans 2 = .ok (.if_icmp .ne 14, 3) := by decide +kernel
theorem dX9_goesPlans_5 : decode cX9_goesPlans 5 = .ok (.aload_n 0, 1) := by decide +kernel
theorem dX9_goesPlans_6 : decode cX9_goesPlans 6 = .ok (.iload_n 2, 1) := by decide +kernel
theorem dX9_goesPlans_7 : decode cX9_goesPlans 7 = .ok (.iload_n 3, 1) := by decide +kernel
theorem dX9_goesPlans_8 : decode cX9_goesPlans 8 = .ok (.iload 4, 2) := by decide +kernel
theorem dX9_goesPlans_10 : decode cX9_goesPlans 10 = .ok (.iload 5, 2) := by decide +kernel
theorem dX9_goesPlans_12 : decode cX9_goesPlans 12 = .ok (.invokevirtual 274, 3) := by decide +kernel
theorem dX9_goesPlans_15 : decode cX9_goesPlans 15 = .ok (.return_, 1) := by decide +kernel
theorem dX9_goesPlans_16 : decode cX9_goesPlans 16 = .ok (.aload_n 0, 1) := by decide +kernel
theorem dX9_goesPlans_17 : decode cX9_goesPlans 17 = .ok (.iload_n 1, 1) := by decide +kernel
theorem dX9_goesPlans_18 : decode cX9_goesPlans 18 = .ok (.invokevirtual 278, 3) := by decide +kernel
theorem dX9_goesPlans_21 : decode cX9_goesPlans 21 = .ok (.iconst 0, 1) := by decide +kernel
theorem dX9_goesPlans_22 : decode cX9_goesPlans 22 = .ok (.istore 6, 2) := by decide +kernel
theorem dX9_goesPlans_24 : decode cX9_goesPlans 24 = .ok (.iload 6, 2) := by decide +kernel
theorem dX9_goesPlans_26 : decode cX9_goesPlans 26 = .ok (.aload_n 0, 1) := by decide +kernel
theorem dX9_goesPlans_27 : decode cX9_goesPlans 27 = .ok (.getfield 9, 3) := by decide +kernel
theorem dX9_goesPlans_30 : decode cX9_goesPlans 30 = .ok (.iconst 4, 1) := by decide +kernel
theorem dX9_goesPlans_31 : decode cX9_goesPlans 31 = .ok (.iaload, 1) := by decide +kernel
theorem dX9_goesPlans_32 : decode cX9_goesPlans 32 = .ok (.if_icmp .gt 58, 3) := by decide +kernel
theorem dX9_goesPlans_35 : decode cX9_goesPlans 35 = .ok (.aload_n 0, 1) := by decide +kernel
theorem dX9_goesPlans_36 : decode cX9_goesPlans 36 = .ok (.getfield 38, 3) := by decide +kernel
theorem dX9_goesPlans_39 : decode cX9_goesPlans 39 = .ok (.iload_n 1, 1) := by decide +kernel
theorem dX9_goesPlans_40 : decode cX9_goesPlans 40 = .ok (.iload 6, 2) := by decide +kernel
theorem dX9_goesPlans_42 : decode cX9_goesPlans 42 = .ok (.iastore, 1) := by decide +kernel
theorem dX9_goesPlans_43 : decode cX9_goesPlans 43 = .ok (.aload_n 0, 1) := by decide +kernel
theorem dX9_goesPlans_44 : decode cX9_goesPlans 44 = .ok (.iload 6, 2) := by decide +kernel
theorem dX9_goesPlans_46 : decode cX9_goesPlans 46 = .ok (.invokevirtual 238, 3) := by decide +kernel
theorem dX9_goesPlans_49 : decode cX9_goesPlans 49 = .ok (.istore 7, 2) := by decide +kernel
theorem dX9_goesPlans_51 : decode cX9_goesPlans 51 = .ok (.aload_n 0, 1) := by decide +kernel
theorem dX9_goesPlans_52 : decode cX9_goesPlans 52 = .ok (.iload_n 1, 1) := by decide +kernel
theorem dX9_goesPlans_53 : decode cX9_goesPlans 53 = .ok (.iconst 1, 1) := by decide +kernel
theorem dX9_goesPlans_54 : decode cX9_goesPlans 54 = .ok (.iadd, 1) := by decide +kernel
theorem dX9_goesPlans_55 : decode cX9_goesPlans 55 = .ok (.iload_n 2, 1) := by decide +kernel
theorem dX9_goesPlans_56 : decode cX9_goesPlans 56 = .ok (.iload_n 3, 1) := by decide +kernel
theorem dX9_goesPlans_57 : decode cX9_goesPlans 57 = .ok (.iload 7, 2) := by decide +kernel
theorem dX9_goesPlans_59 : decode cX9_goesPlans 59 = .ok (.iadd, 1) := by decide +kernel
theorem dX9_goesPlans_60 : decode cX9_goesPlans 60 = .ok (.iload 6, 2) := by decide +kernel
theorem dX9_goesPlans_62 : decode cX9_goesPlans 62 = .ok (.ifCond .le 10, 3) := by decide +kernel
theorem dX9_goesPlans_65 : decode cX9_goesPlans 65 = .ok (.iload 4, 2) := by decide +kernel
theorem dX9_goesPlans_67 : decode cX9_goesPlans 67 = .ok (.iconst 1, 1) := by decide +kernel
theorem dX9_goesPlans_68 : decode cX9_goesPlans 68 = .ok (.iadd, 1) := by decide +kernel
theorem dX9_goesPlans_69 : decode cX9_goesPlans 69 = .ok (.goto 5, 3) := by decide +kernel
theorem dX9_goesPlans_72 : decode cX9_goesPlans 72 = .ok (.iload 4, 2) := by decide +kernel
theorem dX9_goesPlans_74 : decode cX9_goesPlans 74 = .ok (.iload 5, 2) := by decide +kernel
theorem dX9_goesPlans_76 : decode cX9_goesPlans 76 = .ok (.invokevirtual 281, 3) := by decide +kernel
theorem dX9_goesPlans_79 : decode cX9_goesPlans 79 = .ok (.aload_n 0, 1) := by decide +kernel
theorem dX9_goesPlans_80 : decode cX9_goesPlans 80 = .ok (.iload_n 1, 1) := by decide +kernel
theorem dX9_goesPlans_81 : decode cX9_goesPlans 81 = .ok (.invokevirtual 285, 3) := by decide +kernel
theorem dX9_goesPlans_84 : decode cX9_goesPlans 84 = .ok (.iinc 6 1, 3) := by decide +kernel
theorem dX9_goesPlans_87 : decode cX9_goesPlans 87 = .ok (.goto (-63), 3) := by decide +kernel
theorem dX9_goesPlans_90 : decode cX9_goesPlans 90 = .ok (.return_, 1) := by decide +kernel
theorem dX9_triesAll_0 : decode cX9_triesAll 0 = .ok (.aload_n 0, 1) := by decide +kernel
theorem dX9_triesAll_1 : decode cX9_triesAll 1 = .ok (.iconst (-1), 1) := by decide +kernel
theorem dX9_triesAll_2 : decode cX9_triesAll 2 = .ok (.putfield 262, 3) := by decide +kernel
theorem dX9_triesAll_5 : decode cX9_triesAll 5 = .ok (.aload_n 0, 1) := by decide +kernel
theorem dX9_triesAll_6 : decode cX9_triesAll 6 = .ok (.iconst 0, 1) := by decide +kernel
theorem dX9_triesAll_7 : decode cX9_triesAll 7 = .ok (.putfield 265, 3) := by decide +kernel
