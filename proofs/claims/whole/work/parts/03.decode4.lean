theorem dX12_swap_82 : decode cX12_swap 82 = .ok (.goto 4, 3) := by decide +kernel
theorem dX12_swap_85 : decode cX12_swap 85 = .ok (.iload_n 2, 1) := by decide +kernel
theorem dX12_swap_86 : decode cX12_swap 86 = .ok (.istore_n 2, 1) := by decide +kernel
theorem dX12_swap_87 : decode cX12_swap 87 = .ok (.iload 6, 2) := by decide +kernel
theorem dX12_swap_89 : decode cX12_swap 89 = .ok (.iload_n 3, 1) := by decide +kernel
theorem dX12_swap_90 : decode cX12_swap 90 = .ok (.if_icmp .ge 8, 3) := by decide +kernel
theorem dX12_swap_93 : decode cX12_swap 93 = .ok (.iload 6, 2) := by decide +kernel
theorem dX12_swap_95 : decode cX12_swap 95 = .ok (.goto 4, 3) := by decide +kernel
theorem dX12_swap_98 : decode cX12_swap 98 = .ok (.iload_n 3, 1) := by decide +kernel
theorem dX12_swap_99 : decode cX12_swap 99 = .ok (.istore_n 3, 1) := by decide +kernel
theorem dX12_swap_100 : decode cX12_swap 100 = .ok (.iinc 5 1, 3) := by decide +kernel
theorem dX12_swap_103 : decode cX12_swap 103 = .ok (.goto (-66), 3) := by decide +kernel
theorem dX12_swap_106 : decode cX12_swap 106 = .ok (.iinc 4 1, 3) := by decide +kernel
theorem dX12_swap_109 : decode cX12_swap 109 = .ok (.goto (-87), 3) := by decide +kernel
theorem dX12_swap_112 : decode cX12_swap 112 = .ok (.iload_n 1, 1) := by decide +kernel
theorem dX12_swap_113 : decode cX12_swap 113 = .ok (.ifCond .ne 7, 3) := by decide +kernel
theorem dX12_swap_116 : decode cX12_swap 116 = .ok (.iload_n 2, 1) := by decide +kernel
theorem dX12_swap_117 : decode cX12_swap 117 = .ok (.goto 4, 3) := by decide +kernel
theorem dX12_swap_120 : decode cX12_swap 120 = .ok (.iload_n 3, 1) := by decide +kernel
theorem dX12_swap_121 : decode cX12_swap 121 = .ok (.ireturn, 1) := by decide +kernel
theorem dX12_which_0 : decode cX12_which 0 = .ok (.iload_n 1, 1) := by decide +kernel
theorem dX12_which_1 : decode cX12_which 1 = .ok (.iconst 0, 1) := by decide +kernel
theorem dX12_which_2 : decode cX12_which 2 = .ok (.iconst 1, 1) := by decide +kernel
theorem dX12_which_3 : decode cX12_which 3 = .ok (.invokestatic 93, 3) := by decide +kernel
theorem dX12_which_6 : decode cX12_which 6 = .ok (.ifCond .ne 6, 3) := by decide +kernel
theorem dX12_which_9 : decode cX12_which 9 = .ok (.bipush (-2), 2) := by decide +kernel
theorem dX12_which_11 : decode cX12_which 11 = .ok (.ireturn, 1) := by decide +kernel
theorem dX12_which_12 : decode cX12_which 12 = .ok (.aload_n 0, 1) := by decide +kernel
theorem dX12_which_13 : decode cX12_which 13 = .ok (.getfield 97, 3) := by decide +kernel
theorem dX12_which_16 : decode cX12_which 16 = .ok (.istore_n 2, 1) := by decide +kernel
theorem dX12_which_17 : decode cX12_which 17 = .ok (.iconst (-1), 1) := by decide +kernel
theorem dX12_which_18 : decode cX12_which 18 = .ok (.istore_n 3, 1) := by decide +kernel
theorem dX12_which_19 : decode cX12_which 19 = .ok (.iconst 0, 1) := by decide +kernel
theorem dX12_which_20 : decode cX12_which 20 = .ok (.istore 4, 2) := by decide +kernel
theorem dX12_which_22 : decode cX12_which 22 = .ok (.iconst 0, 1) := by decide +kernel
theorem dX12_which_23 : decode cX12_which 23 = .ok (.istore 5, 2) := by decide +kernel
theorem dX12_which_25 : decode cX12_which 25 = .ok (.iload 5, 2) := by decide +kernel
theorem dX12_which_27 : decode cX12_which 27 = .ok (.iconst 4, 1) := by decide +kernel
theorem dX12_which_28 : decode cX12_which 28 = .ok (.if_icmp .ge 66, 3) := by decide +kernel
theorem dX12_which_31 : decode cX12_which 31 = .ok (.aload_n 0, 1) := by decide +kernel
theorem dX12_which_32 : decode cX12_which 32 = .ok (.iload 5, 2) := by decide +kernel
theorem dX12_which_34 : decode cX12_which 34 = .ok (.putfield 97, 3) := by decide +kernel
theorem dX12_which_37 : decode cX12_which 37 = .ok (.aload_n 0, 1) := by decide +kernel
theorem dX12_which_38 : decode cX12_which 38 = .ok (.invokevirtual 254, 3) := by decide +kernel
theorem dX12_which_41 : decode cX12_which 41 = .ok (.istore 6, 2) := by decide +kernel
theorem dX12_which_43 : decode cX12_which 43 = .ok (.iload_n 3, 1) := by decide +kernel
theorem dX12_which_44 : decode cX12_which 44 = .ok (.iconst (-1), 1) := by decide +kernel
theorem dX12_which_45 : decode cX12_which 45 = .ok (.if_icmp .eq 10, 3) := by decide +kernel
theorem dX12_which_48 : decode cX12_which 48 = .ok (.iload 6, 2) := by decide +kernel
theorem dX12_which_50 : decode cX12_which 50 = .ok (.iload 4, 2) := by decide +kernel
theorem dX12_which_52 : decode cX12_which 52 = .ok (.if_icmp .ge 7, 3) := by decide +kernel
theorem dX12_which_55 : decode cX12_which 55 = .ok (.iconst 1, 1) := by decide +kernel
theorem dX12_which_56 : decode cX12_which 56 = .ok (.goto 4, 3) := by decide +kernel
theorem dX12_which_59 : decode cX12_which 59 = .ok (.iconst 0, 1) := by decide +kernel
theorem dX12_which_60 : decode cX12_which 60 = .ok (.istore 7, 2) := by decide +kernel
theorem dX12_which_62 : decode cX12_which 62 = .ok (.iload 7, 2) := by decide +kernel
theorem dX12_which_64 : decode cX12_which 64 = .ok (.ifCond .eq 8, 3) := by decide +kernel
theorem dX12_which_67 : decode cX12_which 67 = .ok (.iload 5, 2) := by decide +kernel
theorem dX12_which_69 : decode cX12_which 69 = .ok (.goto 4, 3) := by decide +kernel
theorem dX12_which_72 : decode cX12_which 72 = .ok (.iload_n 3, 1) := by decide +kernel
theorem dX12_which_73 : decode cX12_which 73 = .ok (.istore_n 3, 1) := by decide +kernel
theorem dX12_which_74 : decode cX12_which 74 = .ok (.iload 7, 2) := by decide +kernel
theorem dX12_which_76 : decode cX12_which 76 = .ok (.ifCond .eq 8, 3) := by decide +kernel
theorem dX12_which_79 : decode cX12_which 79 = .ok (.iload 6, 2) := by decide +kernel
theorem dX12_which_81 : decode cX12_which 81 = .ok (.goto 5, 3) := by decide +kernel
theorem dX12_which_84 : decode cX12_which 84 = .ok (.iload 4, 2) := by decide +kernel
theorem dX12_which_86 : decode cX12_which 86 = .ok (.istore 4, 2) := by decide +kernel
theorem dX12_which_88 : decode cX12_which 88 = .ok (.iinc 5 1, 3) := by decide +kernel
theorem dX12_which_91 : decode cX12_which 91 = .ok (.goto (-66), 3) := by decide +kernel
theorem dX12_which_94 : decode cX12_which 94 = .ok (.aload_n 0, 1) := by decide +kernel
theorem dX12_which_95 : decode cX12_which 95 = .ok (.iload_n 2, 1) := by decide +kernel
theorem dX12_which_96 : decode cX12_which 96 = .ok (.putfield 97, 3) := by decide +kernel
theorem dX12_which_99 : decode cX12_which 99 = .ok (.iload_n 1, 1) := by decide +kernel
theorem dX12_which_100 : decode cX12_which 100 = .ok (.ifCond .ne 7, 3) := by decide +kernel
theorem dX12_which_103 : decode cX12_which 103 = .ok (.iload_n 3, 1) := by decide +kernel
theorem dX12_which_104 : decode cX12_which 104 = .ok (.goto 5, 3) := by decide +kernel
theorem dX12_which_107 : decode cX12_which 107 = .ok (.iload 4, 2) := by decide +kernel
theorem dX12_which_109 : decode cX12_which 109 = .ok (.ireturn, 1) := by decide +kernel
theorem dX12_sheetWrong_0 : decode cX12_sheetWrong 0 = .ok (.iload_n 1, 1) := by decide +kernel
theorem dX12_sheetWrong_1 : decode cX12_sheetWrong 1 = .ok (.iconst 0, 1) := by decide +kernel
theorem dX12_sheetWrong_2 : decode cX12_sheetWrong 2 = .ok (.iconst 3, 1) := by decide +kernel
theorem dX12_sheetWrong_3 : decode cX12_sheetWrong 3 = .ok (.invokestatic 93, 3) := by decide +kernel
theorem dX12_sheetWrong_6 : decode cX12_sheetWrong 6 = .ok (.ifCond .ne 6, 3) := by decide +kernel
theorem dX12_sheetWrong_9 : decode cX12_sheetWrong 9 = .ok (.bipush (-2), 2) := by decide +kernel
theorem dX12_sheetWrong_11 : decode cX12_sheetWrong 11 = .ok (.ireturn, 1) := by decide +kernel
theorem dX12_sheetWrong_12 : decode cX12_sheetWrong 12 = .ok (.aload_n 0, 1) := by decide +kernel
theorem dX12_sheetWrong_13 : decode cX12_sheetWrong 13 = .ok (.getfield 47, 3) := by decide +kernel
theorem dX12_sheetWrong_16 : decode cX12_sheetWrong 16 = .ok (.iload_n 1, 1) := by decide +kernel
theorem dX12_sheetWrong_17 : decode cX12_sheetWrong 17 = .ok (.iaload, 1) := by decide +kernel
theorem dX12_sheetWrong_18 : decode cX12_sheetWrong 18 = .ok (.iconst (-1), 1) := by decide +kernel
theorem dX12_sheetWrong_19 : decode cX12_sheetWrong 19 = .ok (.if_icmp .ne 6, 3) := by decide +kernel
theorem dX12_sheetWrong_22 : decode cX12_sheetWrong 22 = .ok (.bipush (-11), 2) := by decide +kernel
theorem dX12_sheetWrong_24 : decode cX12_sheetWrong 24 = .ok (.ireturn, 1) := by decide +kernel
theorem dX12_sheetWrong_25 : decode cX12_sheetWrong 25 = .ok (.aload_n 0, 1) := by decide +kernel
theorem dX12_sheetWrong_26 : decode cX12_sheetWrong 26 = .ok (.getfield 50, 3) := by decide +kernel
theorem dX12_sheetWrong_29 : decode cX12_sheetWrong 29 = .ok (.iload_n 1, 1) := by decide +kernel
theorem dX12_sheetWrong_30 : decode cX12_sheetWrong 30 = .ok (.iaload, 1) := by decide +kernel
theorem dX12_sheetWrong_31 : decode cX12_sheetWrong 31 = .ok (.aload_n 0, 1) := by decide +kernel
theorem dX12_sheetWrong_32 : decode cX12_sheetWrong 32 = .ok (.getfield 90, 3) := by decide +kernel
theorem dX12_sheetWrong_35 : decode cX12_sheetWrong 35 = .ok (.if_icmp .ne 7, 3) := by decide +kernel
theorem dX12_sheetWrong_38 : decode cX12_sheetWrong 38 = .ok (.iconst 0, 1) := by decide +kernel
theorem dX12_sheetWrong_39 : decode cX12_sheetWrong 39 = .ok (.goto 5, 3) := by decide +kernel
theorem dX12_sheetWrong_42 : decode cX12_sheetWrong 42 = .ok (.bipush (-2), 2) := by decide +kernel
theorem dX12_sheetWrong_44 : decode cX12_sheetWrong 44 = .ok (.ireturn, 1) := by decide +kernel
theorem dX12_unlike_0 : decode cX12_unlike 0 = .ok (.aload_n 0, 1) := by decide +kernel
theorem dX12_unlike_1 : decode cX12_unlike 1 = .ok (.invokevirtual 229, 3) := by decide +kernel
theorem dX12_unlike_4 : decode cX12_unlike 4 = .ok (.iconst 0, 1) := by decide +kernel
theorem dX12_unlike_5 : decode cX12_unlike 5 = .ok (.istore_n 2, 1) := by decide +kernel
theorem dX12_unlike_6 : decode cX12_unlike 6 = .ok (.iload_n 2, 1) := by decide +kernel
theorem dX12_unlike_7 : decode cX12_unlike 7 = .ok (.aload_n 0, 1) := by decide +kernel
theorem dX12_unlike_8 : decode cX12_unlike 8 = .ok (.getfield 90, 3) := by decide +kernel
theorem dX12_unlike_11 : decode cX12_unlike 11 = .ok (.if_icmp .ge 30, 3) := by decide +kernel
theorem dX12_unlike_14 : decode cX12_unlike 14 = .ok (.aload_n 0, 1) := by decide +kernel
theorem dX12_unlike_15 : decode cX12_unlike 15 = .ok (.getfield 53, 3) := by decide +kernel
theorem dX12_unlike_18 : decode cX12_unlike 18 = .ok (.bipush 40, 2) := by decide +kernel
theorem dX12_unlike_20 : decode cX12_unlike 20 = .ok (.iload_n 1, 1) := by decide +kernel
theorem dX12_unlike_21 : decode cX12_unlike 21 = .ok (.imul, 1) := by decide +kernel
theorem dX12_unlike_22 : decode cX12_unlike 22 = .ok (.iload_n 2, 1) := by decide +kernel
theorem dX12_unlike_23 : decode cX12_unlike 23 = .ok (.iadd, 1) := by decide +kernel
theorem dX12_unlike_24 : decode cX12_unlike 24 = .ok (.iaload, 1) := by decide +kernel
theorem dX12_unlike_25 : decode cX12_unlike 25 = .ok (.aload_n 0, 1) := by decide +kernel
theorem dX12_unlike_26 : decode cX12_unlike 26 = .ok (.iload_n 2, 1) := by decide +kernel
theorem dX12_unlike_27 : decode cX12_unlike 27 = .ok (.invokevirtual 217, 3) := by decide +kernel
theorem dX12_unlike_30 : decode cX12_unlike 30 = .ok (.if_icmp .eq 5, 3) := by decide +kernel
theorem dX12_unlike_33 : decode cX12_unlike 33 = .ok (.iload_n 2, 1) := by decide +kernel
theorem dX12_unlike_34 : decode cX12_unlike 34 = .ok (.ireturn, 1) := by decide +kernel
theorem dX12_unlike_35 : decode cX12_unlike 35 = .ok (.iinc 2 1, 3) := by decide +kernel
theorem dX12_unlike_38 : decode cX12_unlike 38 = .ok (.goto (-32), 3) := by decide +kernel
theorem dX12_unlike_41 : decode cX12_unlike 41 = .ok (.iconst (-1), 1) := by decide +kernel
theorem dX12_unlike_42 : decode cX12_unlike 42 = .ok (.ireturn, 1) := by decide +kernel
theorem dX12_judge_0 : decode cX12_judge 0 = .ok (.aload_n 0, 1) := by decide +kernel
theorem dX12_judge_1 : decode cX12_judge 1 = .ok (.iload_n 1, 1) := by decide +kernel
theorem dX12_judge_2 : decode cX12_judge 2 = .ok (.invokevirtual 276, 3) := by decide +kernel
theorem dX12_judge_5 : decode cX12_judge 5 = .ok (.istore_n 2, 1) := by decide +kernel
theorem dX12_judge_6 : decode cX12_judge 6 = .ok (.iload_n 2, 1) := by decide +kernel
theorem dX12_judge_7 : decode cX12_judge 7 = .ok (.ifCond .ne 11, 3) := by decide +kernel
theorem dX12_judge_10 : decode cX12_judge 10 = .ok (.aload_n 0, 1) := by decide +kernel
theorem dX12_judge_11 : decode cX12_judge 11 = .ok (.iload_n 1, 1) := by decide +kernel
theorem dX12_judge_12 : decode cX12_judge 12 = .ok (.invokevirtual 279, 3) := by decide +kernel
theorem dX12_judge_15 : decode cX12_judge 15 = .ok (.goto 4, 3) := by decide +kernel
theorem dX12_judge_18 : decode cX12_judge 18 = .ok (.iload_n 2, 1) := by decide +kernel
theorem dX12_judge_19 : decode cX12_judge 19 = .ok (.ireturn, 1) := by decide +kernel
theorem dX12_how_0 : decode cX12_how 0 = .ok (.aload_n 0, 1) := by decide +kernel
theorem dX12_how_1 : decode cX12_how 1 = .ok (.iload_n 1, 1) := by decide +kernel
theorem dX12_how_2 : decode cX12_how 2 = .ok (.invokevirtual 276, 3) := by decide +kernel
theorem dX12_how_5 : decode cX12_how 5 = .ok (.istore_n 2, 1) := by decide +kernel
theorem dX12_how_6 : decode cX12_how 6 = .ok (.iload_n 2, 1) := by decide +kernel
theorem dX12_how_7 : decode cX12_how 7 = .ok (.ifCond .eq 5, 3) := by decide +kernel
theorem dX12_how_10 : decode cX12_how 10 = .ok (.iload_n 2, 1) := by decide +kernel
theorem dX12_how_11 : decode cX12_how 11 = .ok (.ireturn, 1) := by decide +kernel
theorem dX12_how_12 : decode cX12_how 12 = .ok (.aload_n 0, 1) := by decide +kernel
theorem dX12_how_13 : decode cX12_how 13 = .ok (.getfield 97, 3) := by decide +kernel
theorem dX12_how_16 : decode cX12_how 16 = .ok (.istore_n 3, 1) := by decide +kernel
theorem dX12_how_17 : decode cX12_how 17 = .ok (.iconst 0, 1) := by decide +kernel
theorem dX12_how_18 : decode cX12_how 18 = .ok (.istore 4, 2) := by decide +kernel
theorem dX12_how_20 : decode cX12_how 20 = .ok (.iconst 0, 1) := by decide +kernel
theorem dX12_how_21 : decode cX12_how 21 = .ok (.istore 5, 2) := by decide +kernel
theorem dX12_how_23 : decode cX12_how 23 = .ok (.iload 5, 2) := by decide +kernel
theorem dX12_how_25 : decode cX12_how 25 = .ok (.iconst 4, 1) := by decide +kernel
theorem dX12_how_26 : decode cX12_how 26 = .ok (.if_icmp .ge 37, 3) := by decide +kernel
theorem dX12_how_29 : decode cX12_how 29 = .ok (.aload_n 0, 1) := by decide +kernel
theorem dX12_how_30 : decode cX12_how 30 = .ok (.iload 5, 2) := by decide +kernel
theorem dX12_how_32 : decode cX12_how 32 = .ok (.putfield 97, 3) := by decide +kernel
theorem dX12_how_35 : decode cX12_how 35 = .ok (.iload 4, 2) := by decide +kernel
theorem dX12_how_37 : decode cX12_how 37 = .ok (.aload_n 0, 1) := by decide +kernel
theorem dX12_how_38 : decode cX12_how 38 = .ok (.iload_n 1, 1) := by decide +kernel
theorem dX12_how_39 : decode cX12_how 39 = .ok (.invokevirtual 279, 3) := by decide +kernel
theorem dX12_how_42 : decode cX12_how 42 = .ok (.iconst (-1), 1) := by decide +kernel
theorem dX12_how_43 : decode cX12_how 43 = .ok (.if_icmp .ne 10, 3) := by decide +kernel
theorem dX12_how_46 : decode cX12_how 46 = .ok (.iconst 1, 1) := by decide +kernel
theorem dX12_how_47 : decode cX12_how 47 = .ok (.iload 5, 2) := by decide +kernel
theorem dX12_how_49 : decode cX12_how 49 = .ok (.ishl, 1) := by decide +kernel
theorem dX12_how_50 : decode cX12_how 50 = .ok (.goto 4, 3) := by decide +kernel
theorem dX12_how_53 : decode cX12_how 53 = .ok (.iconst 0, 1) := by decide +kernel
theorem dX12_how_54 : decode cX12_how 54 = .ok (.ior, 1) := by decide +kernel
theorem dX12_how_55 : decode cX12_how 55 = .ok (.istore 4, 2) := by decide +kernel
theorem dX12_how_57 : decode cX12_how 57 = .ok (.iinc 5 1, 3) := by decide +kernel
theorem dX12_how_60 : decode cX12_how 60 = .ok (.goto (-37), 3) := by decide +kernel
theorem dX12_how_63 : decode cX12_how 63 = .ok (.aload_n 0, 1) := by decide +kernel
theorem dX12_how_64 : decode cX12_how 64 = .ok (.iload_n 3, 1) := by decide +kernel
theorem dX12_how_65 : decode cX12_how 65 = .ok (.putfield 97, 3) := by decide +kernel
theorem dX12_how_68 : decode cX12_how 68 = .ok (.iload 4, 2) := by decide +kernel
theorem dX12_how_70 : decode cX12_how 70 = .ok (.ireturn, 1) := by decide +kernel
theorem dX12_kinds_0 : decode cX12_kinds 0 = .ok (.aload_n 0, 1) := by decide +kernel
theorem dX12_kinds_1 : decode cX12_kinds 1 = .ok (.iload_n 1, 1) := by decide +kernel
theorem dX12_kinds_2 : decode cX12_kinds 2 = .ok (.invokevirtual 276, 3) := by decide +kernel
theorem dX12_kinds_5 : decode cX12_kinds 5 = .ok (.istore 4, 2) := by decide +kernel
theorem dX12_kinds_7 : decode cX12_kinds 7 = .ok (.iload 4, 2) := by decide +kernel
theorem dX12_kinds_9 : decode cX12_kinds 9 = .ok (.ifCond .eq 6, 3) := by decide +kernel
theorem dX12_kinds_12 : decode cX12_kinds 12 = .ok (.iload 4, 2) := by decide +kernel
theorem dX12_kinds_14 : decode cX12_kinds 14 = .ok (.ireturn, 1) := by decide +kernel
theorem dX12_kinds_15 : decode cX12_kinds 15 = .ok (.aload_n 0, 1) := by decide +kernel
theorem dX12_kinds_16 : decode cX12_kinds 16 = .ok (.iload_n 2, 1) := by decide +kernel
theorem dX12_kinds_17 : decode cX12_kinds 17 = .ok (.invokevirtual 185, 3) := by decide +kernel
theorem dX12_kinds_20 : decode cX12_kinds 20 = .ok (.ifCond .ne 6, 3) := by decide +kernel
theorem dX12_kinds_23 : decode cX12_kinds 23 = .ok (.bipush (-5), 2) := by decide +kernel
theorem dX12_kinds_25 : decode cX12_kinds 25 = .ok (.ireturn, 1) := by decide +kernel
theorem dX12_kinds_26 : decode cX12_kinds 26 = .ok (.iload_n 3, 1) := by decide +kernel
theorem dX12_kinds_27 : decode cX12_kinds 27 = .ok (.iconst 0, 1) := by decide +kernel
theorem dX12_kinds_28 : decode cX12_kinds 28 = .ok (.iconst 1, 1) := by decide +kernel
theorem dX12_kinds_29 : decode cX12_kinds 29 = .ok (.invokestatic 93, 3) := by decide +kernel
theorem dX12_kinds_32 : decode cX12_kinds 32 = .ok (.ifCond .ne 6, 3) := by decide +kernel
theorem dX12_kinds_35 : decode cX12_kinds 35 = .ok (.bipush (-7), 2) := by decide +kernel
theorem dX12_kinds_37 : decode cX12_kinds 37 = .ok (.ireturn, 1) := by decide +kernel
theorem dX12_kinds_38 : decode cX12_kinds 38 = .ok (.aload_n 0, 1) := by decide +kernel
theorem dX12_kinds_39 : decode cX12_kinds 39 = .ok (.getfield 17, 3) := by decide +kernel
theorem dX12_kinds_42 : decode cX12_kinds 42 = .ok (.iload_n 2, 1) := by decide +kernel
theorem dX12_kinds_43 : decode cX12_kinds 43 = .ok (.iaload, 1) := by decide +kernel
theorem dX12_kinds_44 : decode cX12_kinds 44 = .ok (.istore 5, 2) := by decide +kernel
theorem dX12_kinds_46 : decode cX12_kinds 46 = .ok (.aload_n 0, 1) := by decide +kernel
theorem dX12_kinds_47 : decode cX12_kinds 47 = .ok (.getfield 20, 3) := by decide +kernel
theorem dX12_kinds_50 : decode cX12_kinds 50 = .ok (.iload_n 2, 1) := by decide +kernel
theorem dX12_kinds_51 : decode cX12_kinds 51 = .ok (.iaload, 1) := by decide +kernel
theorem dX12_kinds_52 : decode cX12_kinds 52 = .ok (.istore 6, 2) := by decide +kernel
theorem dX12_kinds_54 : decode cX12_kinds 54 = .ok (.iconst 0, 1) := by decide +kernel
theorem dX12_kinds_55 : decode cX12_kinds 55 = .ok (.istore 7, 2) := by decide +kernel
theorem dX12_kinds_57 : decode cX12_kinds 57 = .ok (.iconst 0, 1) := by decide +kernel
theorem dX12_kinds_58 : decode cX12_kinds 58 = .ok (.istore 8, 2) := by decide +kernel
theorem dX12_kinds_60 : decode cX12_kinds 60 = .ok (.iload 8, 2) := by decide +kernel
theorem dX12_kinds_62 : decode cX12_kinds 62 = .ok (.iload_n 3, 1) := by decide +kernel
theorem dX12_kinds_63 : decode cX12_kinds 63 = .ok (.ifCond .ne 8, 3) := by decide +kernel
theorem dX12_kinds_66 : decode cX12_kinds 66 = .ok (.bipush 6, 2) := by decide +kernel
theorem dX12_kinds_68 : decode cX12_kinds 68 = .ok (.goto 5, 3) := by decide +kernel
theorem dX12_kinds_71 : decode cX12_kinds 71 = .ok (.bipush 10, 2) := by decide +kernel
theorem dX12_kinds_73 : decode cX12_kinds 73 = .ok (.if_icmp .ge 66, 3) := by decide +kernel
theorem dX12_kinds_76 : decode cX12_kinds 76 = .ok (.aload_n 0, 1) := by decide +kernel
theorem dX12_kinds_77 : decode cX12_kinds 77 = .ok (.getfield 17, 3) := by decide +kernel
theorem dX12_kinds_80 : decode cX12_kinds 80 = .ok (.iload_n 2, 1) := by decide +kernel
theorem dX12_kinds_81 : decode cX12_kinds 81 = .ok (.iload_n 3, 1) := by decide +kernel
theorem dX12_kinds_82 : decode cX12_kinds 82 = .ok (.ifCond .ne 8, 3) := by decide +kernel
theorem dX12_kinds_85 : decode cX12_kinds 85 = .ok (.iload 8, 2) := by decide +kernel
theorem dX12_kinds_87 : decode cX12_kinds 87 = .ok (.goto 5, 3) := by decide +kernel
theorem dX12_kinds_90 : decode cX12_kinds 90 = .ok (.iload 5, 2) := by decide +kernel
theorem dX12_kinds_92 : decode cX12_kinds 92 = .ok (.iastore, 1) := by decide +kernel
theorem dX12_kinds_93 : decode cX12_kinds 93 = .ok (.aload_n 0, 1) := by decide +kernel
theorem dX12_kinds_94 : decode cX12_kinds 94 = .ok (.getfield 20, 3) := by decide +kernel
theorem dX12_kinds_97 : decode cX12_kinds 97 = .ok (.iload_n 2, 1) := by decide +kernel
theorem dX12_kinds_98 : decode cX12_kinds 98 = .ok (.iload_n 3, 1) := by decide +kernel
theorem dX12_kinds_99 : decode cX12_kinds 99 = .ok (.iconst 1, 1) := by decide +kernel
theorem dX12_kinds_100 : decode cX12_kinds 100 = .ok (.if_icmp .ne 8, 3) := by decide +kernel
theorem dX12_kinds_103 : decode cX12_kinds 103 = .ok (.iload 8, 2) := by decide +kernel
theorem dX12_kinds_105 : decode cX12_kinds 105 = .ok (.goto 5, 3) := by decide +kernel
theorem dX12_kinds_108 : decode cX12_kinds 108 = .ok (.iload 6, 2) := by decide +kernel
theorem dX12_kinds_110 : decode cX12_kinds 110 = .ok (.iastore, 1) := by decide +kernel
theorem dX12_kinds_111 : decode cX12_kinds 111 = .ok (.iload 7, 2) := by decide +kernel
theorem dX12_kinds_113 : decode cX12_kinds 113 = .ok (.aload_n 0, 1) := by decide +kernel
theorem dX12_kinds_114 : decode cX12_kinds 114 = .ok (.iload_n 1, 1) := by decide +kernel
theorem dX12_kinds_115 : decode cX12_kinds 115 = .ok (.invokevirtual 279, 3) := by decide +kernel
theorem dX12_kinds_118 : decode cX12_kinds 118 = .ok (.iconst (-1), 1) := by decide +kernel
theorem dX12_kinds_119 : decode cX12_kinds 119 = .ok (.if_icmp .ne 10, 3) := by decide +kernel
theorem dX12_kinds_122 : decode cX12_kinds 122 = .ok (.iconst 1, 1) := by decide +kernel
theorem dX12_kinds_123 : decode cX12_kinds 123 = .ok (.iload 8, 2) := by decide +kernel
theorem dX12_kinds_125 : decode cX12_kinds 125 = .ok (.ishl, 1) := by decide +kernel
theorem dX12_kinds_126 : decode cX12_kinds 126 = .ok (.goto 4, 3) := by decide +kernel
theorem dX12_kinds_129 : decode cX12_kinds 129 = .ok (.iconst 0, 1) := by decide +kernel
theorem dX12_kinds_130 : decode cX12_kinds 130 = .ok (.ior, 1) := by decide +kernel
theorem dX12_kinds_131 : decode cX12_kinds 131 = .ok (.istore 7, 2) := by decide +kernel
theorem dX12_kinds_133 : decode cX12_kinds 133 = .ok (.iinc 8 1, 3) := by decide +kernel
theorem dX12_kinds_136 : decode cX12_kinds 136 = .ok (.goto (-76), 3) := by decide +kernel
theorem dX12_kinds_139 : decode cX12_kinds 139 = .ok (.aload_n 0, 1) := by decide +kernel
theorem dX12_kinds_140 : decode cX12_kinds 140 = .ok (.getfield 17, 3) := by decide +kernel
theorem dX12_kinds_143 : decode cX12_kinds 143 = .ok (.iload_n 2, 1) := by decide +kernel
theorem dX12_kinds_144 : decode cX12_kinds 144 = .ok (.iload 5, 2) := by decide +kernel
theorem dX12_kinds_146 : decode cX12_kinds 146 = .ok (.iastore, 1) := by decide +kernel
theorem dX12_kinds_147 : decode cX12_kinds 147 = .ok (.aload_n 0, 1) := by decide +kernel
theorem dX12_kinds_148 : decode cX12_kinds 148 = .ok (.getfield 20, 3) := by decide +kernel
theorem dX12_kinds_151 : decode cX12_kinds 151 = .ok (.iload_n 2, 1) := by decide +kernel
theorem dX12_kinds_152 : decode cX12_kinds 152 = .ok (.iload 6, 2) := by decide +kernel
theorem dX12_kinds_154 : decode cX12_kinds 154 = .ok (.iastore, 1) := by decide +kernel
theorem dX12_kinds_155 : decode cX12_kinds 155 = .ok (.iload 7, 2) := by decide +kernel
theorem dX12_kinds_157 : decode cX12_kinds 157 = .ok (.ireturn, 1) := by decide +kernel
theorem dX12_heats_0 : decode cX12_heats 0 = .ok (.aload_n 0, 1) := by decide +kernel
theorem dX12_heats_1 : decode cX12_heats 1 = .ok (.iload_n 1, 1) := by decide +kernel
theorem dX12_heats_2 : decode cX12_heats 2 = .ok (.invokevirtual 276, 3) := by decide +kernel
theorem dX12_heats_5 : decode cX12_heats 5 = .ok (.istore 4, 2) := by decide +kernel
theorem dX12_heats_7 : decode cX12_heats 7 = .ok (.iload 4, 2) := by decide +kernel
theorem dX12_heats_9 : decode cX12_heats 9 = .ok (.ifCond .eq 6, 3) := by decide +kernel
theorem dX12_heats_12 : decode cX12_heats 12 = .ok (.iload 4, 2) := by decide +kernel
theorem dX12_heats_14 : decode cX12_heats 14 = .ok (.ireturn, 1) := by decide +kernel
theorem dX12_heats_15 : decode cX12_heats 15 = .ok (.iload_n 2, 1) := by decide +kernel
theorem dX12_heats_16 : decode cX12_heats 16 = .ok (.invokestatic 109, 3) := by decide +kernel
theorem dX12_heats_19 : decode cX12_heats 19 = .ok (.ifCond .ne 6, 3) := by decide +kernel
theorem dX12_heats_22 : decode cX12_heats 22 = .ok (.bipush (-6), 2) := by decide +kernel
theorem dX12_heats_24 : decode cX12_heats 24 = .ok (.ireturn, 1) := by decide +kernel
theorem dX12_heats_25 : decode cX12_heats 25 = .ok (.iload_n 3, 1) := by decide +kernel
theorem dX12_heats_26 : decode cX12_heats 26 = .ok (.iconst 0, 1) := by decide +kernel
theorem dX12_heats_27 : decode cX12_heats 27 = .ok (.iconst 2, 1) := by decide +kernel
theorem dX12_heats_28 : decode cX12_heats 28 = .ok (.invokestatic 93, 3) := by decide +kernel
theorem dX12_heats_31 : decode cX12_heats 31 = .ok (.ifCond .ne 6, 3) := by decide +kernel
theorem dX12_heats_34 : decode cX12_heats 34 = .ok (.bipush (-7), 2) := by decide +kernel
theorem dX12_heats_36 : decode cX12_heats 36 = .ok (.ireturn, 1) := by decide +kernel
theorem dX12_heats_37 : decode cX12_heats 37 = .ok (.aload_n 0, 1) := by decide +kernel
theorem dX12_heats_38 : decode cX12_heats 38 = .ok (.getfield 7, 3) := by decide +kernel
theorem dX12_heats_41 : decode cX12_heats 41 = .ok (.iload_n 2, 1) := by decide +kernel
theorem dX12_heats_42 : decode cX12_heats 42 = .ok (.iaload, 1) := by decide +kernel
theorem dX12_heats_43 : decode cX12_heats 43 = .ok (.istore 5, 2) := by decide +kernel
theorem dX12_heats_45 : decode cX12_heats 45 = .ok (.iconst 0, 1) := by decide +kernel
theorem dX12_heats_46 : decode cX12_heats 46 = .ok (.istore 6, 2) := by decide +kernel
theorem dX12_heats_48 : decode cX12_heats 48 = .ok (.iconst (-1), 1) := by decide +kernel
theorem dX12_heats_49 : decode cX12_heats 49 = .ok (.istore 7, 2) := by decide +kernel
theorem dX12_heats_51 : decode cX12_heats 51 = .ok (.iconst (-1), 1) := by decide +kernel
theorem dX12_heats_52 : decode cX12_heats 52 = .ok (.istore 8, 2) := by decide +kernel
theorem dX12_heats_54 : decode cX12_heats 54 = .ok (.iconst 0, 1) := by decide +kernel
theorem dX12_heats_55 : decode cX12_heats 55 = .ok (.istore 9, 2) := by decide +kernel
theorem dX12_heats_57 : decode cX12_heats 57 = .ok (.iload 9, 2) := by decide +kernel
theorem dX12_heats_59 : decode cX12_heats 59 = .ok (.bipush 100, 2) := by decide +kernel
theorem dX12_heats_61 : decode cX12_heats 61 = .ok (.if_icmp .ge 82, 3) := by decide +kernel
theorem dX12_heats_64 : decode cX12_heats 64 = .ok (.aload_n 0, 1) := by decide +kernel
theorem dX12_heats_65 : decode cX12_heats 65 = .ok (.getfield 7, 3) := by decide +kernel
theorem dX12_heats_68 : decode cX12_heats 68 = .ok (.iload_n 2, 1) := by decide +kernel
theorem dX12_heats_69 : decode cX12_heats 69 = .ok (.iload 9, 2) := by decide +kernel
theorem dX12_heats_71 : decode cX12_heats 71 = .ok (.iastore, 1) := by decide +kernel
theorem dX12_heats_72 : decode cX12_heats 72 = .ok (.aload_n 0, 1) := by decide +kernel
theorem dX12_heats_73 : decode cX12_heats 73 = .ok (.iload_n 1, 1) := by decide +kernel
theorem dX12_heats_74 : decode cX12_heats 74 = .ok (.invokevirtual 279, 3) := by decide +kernel
theorem dX12_heats_77 : decode cX12_heats 77 = .ok (.iconst (-1), 1) := by decide +kernel
theorem dX12_heats_78 : decode cX12_heats 78 = .ok (.if_icmp .ne 7, 3) := by decide +kernel
theorem dX12_heats_81 : decode cX12_heats 81 = .ok (.iconst 1, 1) := by decide +kernel
theorem dX12_heats_82 : decode cX12_heats 82 = .ok (.goto 4, 3) := by decide +kernel
theorem dX12_heats_85 : decode cX12_heats 85 = .ok (.iconst 0, 1) := by decide +kernel
theorem dX12_heats_86 : decode cX12_heats 86 = .ok (.istore 10, 2) := by decide +kernel
theorem dX12_heats_88 : decode cX12_heats 88 = .ok (.iload 6, 2) := by decide +kernel
theorem dX12_heats_90 : decode cX12_heats 90 = .ok (.iload 10, 2) := by decide +kernel
theorem dX12_heats_92 : decode cX12_heats 92 = .ok (.ifCond .eq 7, 3) := by decide +kernel
theorem dX12_heats_95 : decode cX12_heats 95 = .ok (.iconst 1, 1) := by decide +kernel
theorem dX12_heats_96 : decode cX12_heats 96 = .ok (.goto 4, 3) := by decide +kernel
theorem dX12_heats_99 : decode cX12_heats 99 = .ok (.iconst 0, 1) := by decide +kernel
theorem dX12_heats_100 : decode cX12_heats 100 = .ok (.iadd, 1) := by decide +kernel
theorem dX12_heats_101 : decode cX12_heats 101 = .ok (.istore 6, 2) := by decide +kernel
theorem dX12_heats_103 : decode cX12_heats 103 = .ok (.iload 10, 2) := by decide +kernel
theorem dX12_heats_105 : decode cX12_heats 105 = .ok (.ifCond .eq 14, 3) := by decide +kernel
theorem dX12_heats_108 : decode cX12_heats 108 = .ok (.iload 7, 2) := by decide +kernel
theorem dX12_heats_110 : decode cX12_heats 110 = .ok (.iconst (-1), 1) := by decide +kernel
theorem dX12_heats_111 : decode cX12_heats 111 = .ok (.if_icmp .ne 8, 3) := by decide +kernel
theorem dX12_heats_114 : decode cX12_heats 114 = .ok (.iload 9, 2) := by decide +kernel
theorem dX12_heats_116 : decode cX12_heats 116 = .ok (.goto 5, 3) := by decide +kernel
theorem dX12_heats_119 : decode cX12_heats 119 = .ok (.iload 7, 2) := by decide +kernel
theorem dX12_heats_121 : decode cX12_heats 121 = .ok (.istore 7, 2) := by decide +kernel
theorem dX12_heats_123 : decode cX12_heats 123 = .ok (.iload 10, 2) := by decide +kernel
theorem dX12_heats_125 : decode cX12_heats 125 = .ok (.ifCond .eq 8, 3) := by decide +kernel
theorem dX12_heats_128 : decode cX12_heats 128 = .ok (.iload 9, 2) := by decide +kernel
theorem dX12_heats_130 : decode cX12_heats 130 = .ok (.goto 5, 3) := by decide +kernel
theorem dX12_heats_133 : decode cX12_heats 133 = .ok (.iload 8, 2) := by decide +kernel
theorem dX12_heats_135 : decode cX12_heats 135 = .ok (.istore 8, 2) := by decide +kernel
theorem dX12_heats_137 : decode cX12_heats 137 = .ok (.iinc 9 1, 3) := by decide +kernel
theorem dX12_heats_140 : decode cX12_heats 140 = .ok (.goto (-83), 3) := by decide +kernel
theorem dX12_heats_143 : decode cX12_heats 143 = .ok (.aload_n 0, 1) := by decide +kernel
theorem dX12_heats_144 : decode cX12_heats 144 = .ok (.getfield 7, 3) := by decide +kernel
theorem dX12_heats_147 : decode cX12_heats 147 = .ok (.iload_n 2, 1) := by decide +kernel
theorem dX12_heats_148 : decode cX12_heats 148 = .ok (.iload 5, 2) := by decide +kernel
theorem dX12_heats_150 : decode cX12_heats 150 = .ok (.iastore, 1) := by decide +kernel
theorem dX12_heats_151 : decode cX12_heats 151 = .ok (.iload_n 3, 1) := by decide +kernel
theorem dX12_heats_152 : decode cX12_heats 152 = .ok (.ifCond .ne 8, 3) := by decide +kernel
theorem dX12_heats_155 : decode cX12_heats 155 = .ok (.iload 6, 2) := by decide +kernel
theorem dX12_heats_157 : decode cX12_heats 157 = .ok (.goto 15, 3) := by decide +kernel
theorem dX12_heats_160 : decode cX12_heats 160 = .ok (.iload_n 3, 1) := by decide +kernel
theorem dX12_heats_161 : decode cX12_heats 161 = .ok (.iconst 1, 1) := by decide +kernel
theorem dX12_heats_162 : decode cX12_heats 162 = .ok (.if_icmp .ne 8, 3) := by decide +kernel
theorem dX12_heats_165 : decode cX12_heats 165 = .ok (.iload 7, 2) := by decide +kernel
theorem dX12_heats_167 : decode cX12_heats 167 = .ok (.goto 5, 3) := by decide +kernel
theorem dX12_heats_170 : decode cX12_heats 170 = .ok (.iload 8, 2) := by decide +kernel
theorem dX12_heats_172 : decode cX12_heats 172 = .ok (.ireturn, 1) := by decide +kernel
theorem dX12_turned_0 : decode cX12_turned 0 = .ok (.aload_n 0, 1) := by decide +kernel
theorem dX12_turned_1 : decode cX12_turned 1 = .ok (.iload_n 1, 1) := by decide +kernel
theorem dX12_turned_2 : decode cX12_turned 2 = .ok (.invokevirtual 276, 3) := by decide +kernel
theorem dX12_turned_5 : decode cX12_turned 5 = .ok (.ifCond .eq 7, 3) := by decide +kernel
theorem dX12_turned_8 : decode cX12_turned 8 = .ok (.ldc2_w 282, 3) := by decide +kernel
theorem dX12_turned_11 : decode cX12_turned 11 = .ok (.lreturn, 1) := by decide +kernel
theorem dX12_turned_12 : decode cX12_turned 12 = .ok (.lconst 0, 1) := by decide +kernel
theorem dX12_turned_13 : decode cX12_turned 13 = .ok (.lstore_n 2, 1) := by decide +kernel
theorem dX12_turned_14 : decode cX12_turned 14 = .ok (.aload_n 0, 1) := by decide +kernel
theorem dX12_turned_15 : decode cX12_turned 15 = .ok (.invokevirtual 244, 3) := by decide +kernel
theorem dX12_turned_18 : decode cX12_turned 18 = .ok (.iconst 0, 1) := by decide +kernel
theorem dX12_turned_19 : decode cX12_turned 19 = .ok (.istore 4, 2) := by decide +kernel
theorem dX12_turned_21 : decode cX12_turned 21 = .ok (.iload 4, 2) := by decide +kernel
theorem dX12_turned_23 : decode cX12_turned 23 = .ok (.aload_n 0, 1) := by decide +kernel
theorem dX12_turned_24 : decode cX12_turned 24 = .ok (.getfield 13, 3) := by decide +kernel
theorem dX12_turned_27 : decode cX12_turned 27 = .ok (.if_icmp .ge 37, 3) := by decide +kernel
theorem dX12_turned_30 : decode cX12_turned 30 = .ok (.aload_n 0, 1) := by decide +kernel
theorem dX12_turned_31 : decode cX12_turned 31 = .ok (.iconst 0, 1) := by decide +kernel
theorem dX12_turned_32 : decode cX12_turned 32 = .ok (.iload 4, 2) := by decide +kernel
theorem dX12_turned_34 : decode cX12_turned 34 = .ok (.iconst 2, 1) := by decide +kernel
theorem dX12_turned_35 : decode cX12_turned 35 = .ok (.invokevirtual 247, 3) := by decide +kernel
theorem dX12_turned_38 : decode cX12_turned 38 = .ok (.lload_n 2, 1) := by decide +kernel
theorem dX12_turned_39 : decode cX12_turned 39 = .ok (.aload_n 0, 1) := by decide +kernel
theorem dX12_turned_40 : decode cX12_turned 40 = .ok (.iload_n 1, 1) := by decide +kernel
theorem dX12_turned_41 : decode cX12_turned 41 = .ok (.invokevirtual 279, 3) := by decide +kernel
theorem dX12_turned_44 : decode cX12_turned 44 = .ok (.iconst (-1), 1) := by decide +kernel
theorem dX12_turned_45 : decode cX12_turned 45 = .ok (.if_icmp .ne 10, 3) := by decide +kernel
theorem dX12_turned_48 : decode cX12_turned 48 = .ok (.lconst 1, 1) := by decide +kernel
theorem dX12_turned_49 : decode cX12_turned 49 = .ok (.iload 4, 2) := by decide +kernel
theorem dX12_turned_51 : decode cX12_turned 51 = .ok (.lshl, 1) := by decide +kernel
theorem dX12_turned_52 : decode cX12_turned 52 = .ok (.goto 4, 3) := by decide +kernel
theorem dX12_turned_55 : decode cX12_turned 55 = .ok (.lconst 0, 1) := by decide +kernel
theorem dX12_turned_56 : decode cX12_turned 56 = .ok (.lor, 1) := by decide +kernel
theorem dX12_turned_57 : decode cX12_turned 57 = .ok (.lstore_n 2, 1) := by decide +kernel
theorem dX12_turned_58 : decode cX12_turned 58 = .ok (.iinc 4 1, 3) := by decide +kernel
theorem dX12_turned_61 : decode cX12_turned 61 = .ok (.goto (-40), 3) := by decide +kernel
theorem dX12_turned_64 : decode cX12_turned 64 = .ok (.aload_n 0, 1) := by decide +kernel
theorem dX12_turned_65 : decode cX12_turned 65 = .ok (.invokevirtual 257, 3) := by decide +kernel
theorem dX12_turned_68 : decode cX12_turned 68 = .ok (.lload_n 2, 1) := by decide +kernel
theorem dX12_turned_69 : decode cX12_turned 69 = .ok (.lreturn, 1) := by decide +kernel
theorem dX12_laws_0 : decode cX12_laws 0 = .ok (.aload_n 0, 1) := by decide +kernel
theorem dX12_laws_1 : decode cX12_laws 1 = .ok (.iload_n 1, 1) := by decide +kernel
theorem dX12_laws_2 : decode cX12_laws 2 = .ok (.invokevirtual 276, 3) := by decide +kernel
theorem dX12_laws_5 : decode cX12_laws 5 = .ok (.istore_n 2, 1) := by decide +kernel
theorem dX12_laws_6 : decode cX12_laws 6 = .ok (.iload_n 2, 1) := by decide +kernel
theorem dX12_laws_7 : decode cX12_laws 7 = .ok (.ifCond .eq 5, 3) := by decide +kernel
theorem dX12_laws_10 : decode cX12_laws 10 = .ok (.iload_n 2, 1) := by decide +kernel
theorem dX12_laws_11 : decode cX12_laws 11 = .ok (.ireturn, 1) := by decide +kernel
theorem dX12_laws_12 : decode cX12_laws 12 = .ok (.aload_n 0, 1) := by decide +kernel
theorem dX12_laws_13 : decode cX12_laws 13 = .ok (.getfield 106, 3) := by decide +kernel
theorem dX12_laws_16 : decode cX12_laws 16 = .ok (.istore_n 3, 1) := by decide +kernel
theorem dX12_laws_17 : decode cX12_laws 17 = .ok (.iconst 0, 1) := by decide +kernel
theorem dX12_laws_18 : decode cX12_laws 18 = .ok (.istore 4, 2) := by decide +kernel
theorem dX12_laws_20 : decode cX12_laws 20 = .ok (.iconst 0, 1) := by decide +kernel
theorem dX12_laws_21 : decode cX12_laws 21 = .ok (.istore 5, 2) := by decide +kernel
theorem dX12_laws_23 : decode cX12_laws 23 = .ok (.iload 5, 2) := by decide +kernel
theorem dX12_laws_25 : decode cX12_laws 25 = .ok (.aload_n 0, 1) := by decide +kernel
theorem dX12_laws_26 : decode cX12_laws 26 = .ok (.getfield 103, 3) := by decide +kernel
theorem dX12_laws_29 : decode cX12_laws 29 = .ok (.if_icmp .ge 37, 3) := by decide +kernel
theorem dX12_laws_32 : decode cX12_laws 32 = .ok (.aload_n 0, 1) := by decide +kernel
theorem dX12_laws_33 : decode cX12_laws 33 = .ok (.iload 5, 2) := by decide +kernel
theorem dX12_laws_35 : decode cX12_laws 35 = .ok (.putfield 106, 3) := by decide +kernel
theorem dX12_laws_38 : decode cX12_laws 38 = .ok (.iload 4, 2) := by decide +kernel
theorem dX12_laws_40 : decode cX12_laws 40 = .ok (.aload_n 0, 1) := by decide +kernel
theorem dX12_laws_41 : decode cX12_laws 41 = .ok (.iload_n 1, 1) := by decide +kernel
theorem dX12_laws_42 : decode cX12_laws 42 = .ok (.invokevirtual 279, 3) := by decide +kernel
theorem dX12_laws_45 : decode cX12_laws 45 = .ok (.iconst (-1), 1) := by decide +kernel
theorem dX12_laws_46 : decode cX12_laws 46 = .ok (.if_icmp .ne 10, 3) := by decide +kernel
theorem dX12_laws_49 : decode cX12_laws 49 = .ok (.iconst 1, 1) := by decide +kernel
theorem dX12_laws_50 : decode cX12_laws 50 = .ok (.iload 5, 2) := by decide +kernel
theorem dX12_laws_52 : decode cX12_laws 52 = .ok (.ishl, 1) := by decide +kernel
theorem dX12_laws_53 : decode cX12_laws 53 = .ok (.goto 4, 3) := by decide +kernel
theorem dX12_laws_56 : decode cX12_laws 56 = .ok (.iconst 0, 1) := by decide +kernel
theorem dX12_laws_57 : decode cX12_laws 57 = .ok (.ior, 1) := by decide +kernel
theorem dX12_laws_58 : decode cX12_laws 58 = .ok (.istore 4, 2) := by decide +kernel
theorem dX12_laws_60 : decode cX12_laws 60 = .ok (.iinc 5 1, 3) := by decide +kernel
theorem dX12_laws_63 : decode cX12_laws 63 = .ok (.goto (-40), 3) := by decide +kernel
theorem dX12_laws_66 : decode cX12_laws 66 = .ok (.aload_n 0, 1) := by decide +kernel
theorem dX12_laws_67 : decode cX12_laws 67 = .ok (.iload_n 3, 1) := by decide +kernel
theorem dX12_laws_68 : decode cX12_laws 68 = .ok (.putfield 106, 3) := by decide +kernel
theorem dX12_laws_71 : decode cX12_laws 71 = .ok (.iload 4, 2) := by decide +kernel
theorem dX12_laws_73 : decode cX12_laws 73 = .ok (.ireturn, 1) := by decide +kernel
theorem dX12_film_0 : decode cX12_film 0 = .ok (.iload_n 1, 1) := by decide +kernel
theorem dX12_film_1 : decode cX12_film 1 = .ok (.iconst 0, 1) := by decide +kernel
theorem dX12_film_2 : decode cX12_film 2 = .ok (.iconst 3, 1) := by decide +kernel
theorem dX12_film_3 : decode cX12_film 3 = .ok (.invokestatic 93, 3) := by decide +kernel
theorem dX12_film_6 : decode cX12_film 6 = .ok (.ifCond .eq 15, 3) := by decide +kernel
theorem dX12_film_9 : decode cX12_film 9 = .ok (.iload_n 2, 1) := by decide +kernel
theorem dX12_film_10 : decode cX12_film 10 = .ok (.iconst 0, 1) := by decide +kernel
theorem dX12_film_11 : decode cX12_film 11 = .ok (.aload_n 0, 1) := by decide +kernel
theorem dX12_film_12 : decode cX12_film 12 = .ok (.getfield 13, 3) := by decide +kernel
theorem dX12_film_15 : decode cX12_film 15 = .ok (.invokestatic 93, 3) := by decide +kernel
theorem dX12_film_18 : decode cX12_film 18 = .ok (.ifCond .ne 6, 3) := by decide +kernel
theorem dX12_film_21 : decode cX12_film 21 = .ok (.bipush (-2), 2) := by decide +kernel
theorem dX12_film_23 : decode cX12_film 23 = .ok (.ireturn, 1) := by decide +kernel
theorem dX12_film_24 : decode cX12_film 24 = .ok (.aload_n 0, 1) := by decide +kernel
theorem dX12_film_25 : decode cX12_film 25 = .ok (.invokevirtual 229, 3) := by decide +kernel
theorem dX12_film_28 : decode cX12_film 28 = .ok (.aload_n 0, 1) := by decide +kernel
theorem dX12_film_29 : decode cX12_film 29 = .ok (.getfield 47, 3) := by decide +kernel
theorem dX12_film_32 : decode cX12_film 32 = .ok (.iload_n 1, 1) := by decide +kernel
theorem dX12_film_33 : decode cX12_film 33 = .ok (.iconst 1, 1) := by decide +kernel
theorem dX12_film_34 : decode cX12_film 34 = .ok (.iastore, 1) := by decide +kernel
theorem dX12_film_35 : decode cX12_film 35 = .ok (.aload_n 0, 1) := by decide +kernel
theorem dX12_film_36 : decode cX12_film 36 = .ok (.getfield 50, 3) := by decide +kernel
theorem dX12_film_39 : decode cX12_film 39 = .ok (.iload_n 1, 1) := by decide +kernel
theorem dX12_film_40 : decode cX12_film 40 = .ok (.aload_n 0, 1) := by decide +kernel
theorem dX12_film_41 : decode cX12_film 41 = .ok (.getfield 90, 3) := by decide +kernel
theorem dX12_film_44 : decode cX12_film 44 = .ok (.iastore, 1) := by decide +kernel
theorem dX12_film_45 : decode cX12_film 45 = .ok (.iconst 0, 1) := by decide +kernel
theorem dX12_film_46 : decode cX12_film 46 = .ok (.istore_n 3, 1) := by decide +kernel
theorem dX12_film_47 : decode cX12_film 47 = .ok (.iload_n 3, 1) := by decide +kernel
theorem dX12_film_48 : decode cX12_film 48 = .ok (.bipush 40, 2) := by decide +kernel
theorem dX12_film_50 : decode cX12_film 50 = .ok (.if_icmp .ge 49, 3) := by decide +kernel
theorem dX12_film_53 : decode cX12_film 53 = .ok (.aload_n 0, 1) := by decide +kernel
theorem dX12_film_54 : decode cX12_film 54 = .ok (.getfield 53, 3) := by decide +kernel
theorem dX12_film_57 : decode cX12_film 57 = .ok (.bipush 40, 2) := by decide +kernel
theorem dX12_film_59 : decode cX12_film 59 = .ok (.iload_n 1, 1) := by decide +kernel
theorem dX12_film_60 : decode cX12_film 60 = .ok (.imul, 1) := by decide +kernel
theorem dX12_film_61 : decode cX12_film 61 = .ok (.iload_n 3, 1) := by decide +kernel
theorem dX12_film_62 : decode cX12_film 62 = .ok (.iadd, 1) := by decide +kernel
theorem dX12_film_63 : decode cX12_film 63 = .ok (.iload_n 3, 1) := by decide +kernel
theorem dX12_film_64 : decode cX12_film 64 = .ok (.aload_n 0, 1) := by decide +kernel
theorem dX12_film_65 : decode cX12_film 65 = .ok (.getfield 90, 3) := by decide +kernel
theorem dX12_film_68 : decode cX12_film 68 = .ok (.if_icmp .ge 23, 3) := by decide +kernel
theorem dX12_film_71 : decode cX12_film 71 = .ok (.aload_n 0, 1) := by decide +kernel
theorem dX12_film_72 : decode cX12_film 72 = .ok (.getfield 71, 3) := by decide +kernel
theorem dX12_film_75 : decode cX12_film 75 = .ok (.bipush 41, 2) := by decide +kernel
theorem dX12_film_77 : decode cX12_film 77 = .ok (.iload_n 3, 1) := by decide +kernel
theorem dX12_film_78 : decode cX12_film 78 = .ok (.iconst 0, 1) := by decide +kernel
theorem dX12_film_79 : decode cX12_film 79 = .ok (.bipush 7, 2) := by decide +kernel
theorem dX12_film_81 : decode cX12_film 81 = .ok (.invokestatic 182, 3) := by decide +kernel
theorem dX12_film_84 : decode cX12_film 84 = .ok (.imul, 1) := by decide +kernel
theorem dX12_film_85 : decode cX12_film 85 = .ok (.iload_n 2, 1) := by decide +kernel
theorem dX12_film_86 : decode cX12_film 86 = .ok (.iadd, 1) := by decide +kernel
theorem dX12_film_87 : decode cX12_film 87 = .ok (.iaload, 1) := by decide +kernel
theorem dX12_film_88 : decode cX12_film 88 = .ok (.goto 4, 3) := by decide +kernel
theorem dX12_film_91 : decode cX12_film 91 = .ok (.iconst 0, 1) := by decide +kernel
theorem dX12_film_92 : decode cX12_film 92 = .ok (.iastore, 1) := by decide +kernel
theorem dX12_film_93 : decode cX12_film 93 = .ok (.iinc 3 1, 3) := by decide +kernel
theorem dX12_film_96 : decode cX12_film 96 = .ok (.goto (-49), 3) := by decide +kernel
theorem dX12_film_99 : decode cX12_film 99 = .ok (.aload_n 0, 1) := by decide +kernel
theorem dX12_film_100 : decode cX12_film 100 = .ok (.getfield 90, 3) := by decide +kernel
theorem dX12_film_103 : decode cX12_film 103 = .ok (.ireturn, 1) := by decide +kernel
theorem dX12_bakesBy_0 : decode cX12_bakesBy 0 = .ok (.iload_n 1, 1) := by decide +kernel
theorem dX12_bakesBy_1 : decode cX12_bakesBy 1 = .ok (.i2l, 1) := by decide +kernel
theorem dX12_bakesBy_2 : decode cX12_bakesBy 2 = .ok (.lconst 1, 1) := by decide +kernel
theorem dX12_bakesBy_3 : decode cX12_bakesBy 3 = .ok (.ladd, 1) := by decide +kernel
theorem dX12_bakesBy_4 : decode cX12_bakesBy 4 = .ok (.lstore_n 2, 1) := by decide +kernel
theorem dX12_bakesBy_5 : decode cX12_bakesBy 5 = .ok (.aload_n 0, 1) := by decide +kernel
theorem dX12_bakesBy_6 : decode cX12_bakesBy 6 = .ok (.invokevirtual 266, 3) := by decide +kernel
theorem dX12_bakesBy_9 : decode cX12_bakesBy 9 = .ok (.iconst 0, 1) := by decide +kernel
theorem dX12_bakesBy_10 : decode cX12_bakesBy 10 = .ok (.istore 4, 2) := by decide +kernel
theorem dX12_bakesBy_12 : decode cX12_bakesBy 12 = .ok (.iload 4, 2) := by decide +kernel
theorem dX12_bakesBy_14 : decode cX12_bakesBy 14 = .ok (.bipush 16, 2) := by decide +kernel
theorem dX12_bakesBy_16 : decode cX12_bakesBy 16 = .ok (.if_icmp .ge 32, 3) := by decide +kernel
theorem dX12_bakesBy_19 : decode cX12_bakesBy 19 = .ok (.lload_n 2, 1) := by decide +kernel
theorem dX12_bakesBy_20 : decode cX12_bakesBy 20 = .ok (.ldc2_w 284, 3) := by decide +kernel
theorem dX12_bakesBy_23 : decode cX12_bakesBy 23 = .ok (.lmul, 1) := by decide +kernel
theorem dX12_bakesBy_24 : decode cX12_bakesBy 24 = .ok (.ldc2_w 286, 3) := by decide +kernel
theorem dX12_bakesBy_27 : decode cX12_bakesBy 27 = .ok (.lrem, 1) := by decide +kernel
theorem dX12_bakesBy_28 : decode cX12_bakesBy 28 = .ok (.lstore_n 2, 1) := by decide +kernel
theorem dX12_bakesBy_29 : decode cX12_bakesBy 29 = .ok (.aload_n 0, 1) := by decide +kernel
theorem dX12_bakesBy_30 : decode cX12_bakesBy 30 = .ok (.getfield 7, 3) := by decide +kernel
theorem dX12_bakesBy_33 : decode cX12_bakesBy 33 = .ok (.iload 4, 2) := by decide +kernel
theorem dX12_bakesBy_35 : decode cX12_bakesBy 35 = .ok (.lload_n 2, 1) := by decide +kernel
theorem dX12_bakesBy_36 : decode cX12_bakesBy 36 = .ok (.ldc2_w 288, 3) := by decide +kernel
theorem dX12_bakesBy_39 : decode cX12_bakesBy 39 = .ok (.lrem, 1) := by decide +kernel
theorem dX12_bakesBy_40 : decode cX12_bakesBy 40 = .ok (.l2i, 1) := by decide +kernel
theorem dX12_bakesBy_41 : decode cX12_bakesBy 41 = .ok (.iastore, 1) := by decide +kernel
theorem dX12_bakesBy_42 : decode cX12_bakesBy 42 = .ok (.iinc 4 1, 3) := by decide +kernel
theorem dX12_bakesBy_45 : decode cX12_bakesBy 45 = .ok (.goto (-33), 3) := by decide +kernel
theorem dX12_bakesBy_48 : decode cX12_bakesBy 48 = .ok (.aload_n 0, 1) := by decide +kernel
theorem dX12_bakesBy_49 : decode cX12_bakesBy 49 = .ok (.invokevirtual 229, 3) := by decide +kernel
theorem dX12_bakesBy_52 : decode cX12_bakesBy 52 = .ok (.aload_n 0, 1) := by decide +kernel
theorem dX12_bakesBy_53 : decode cX12_bakesBy 53 = .ok (.invokevirtual 269, 3) := by decide +kernel
theorem dX12_bakesBy_56 : decode cX12_bakesBy 56 = .ok (.return_, 1) := by decide +kernel
theorem dX12_drawn_0 : decode cX12_drawn 0 = .ok (.iload_n 1, 1) := by decide +kernel
theorem dX12_drawn_1 : decode cX12_drawn 1 = .ok (.iconst 0, 1) := by decide +kernel
theorem dX12_drawn_2 : decode cX12_drawn 2 = .ok (.ldc_w 290, 3) := by decide +kernel
theorem dX12_drawn_5 : decode cX12_drawn 5 = .ok (.invokestatic 93, 3) := by decide +kernel
theorem dX12_drawn_8 : decode cX12_drawn 8 = .ok (.ifCond .eq 12, 3) := by decide +kernel
theorem dX12_drawn_11 : decode cX12_drawn 11 = .ok (.iload_n 2, 1) := by decide +kernel
theorem dX12_drawn_12 : decode cX12_drawn 12 = .ok (.iconst 0, 1) := by decide +kernel
theorem dX12_drawn_13 : decode cX12_drawn 13 = .ok (.iconst 1, 1) := by decide +kernel
theorem dX12_drawn_14 : decode cX12_drawn 14 = .ok (.invokestatic 93, 3) := by decide +kernel
theorem dX12_drawn_17 : decode cX12_drawn 17 = .ok (.ifCond .ne 6, 3) := by decide +kernel
theorem dX12_drawn_20 : decode cX12_drawn 20 = .ok (.bipush (-2), 2) := by decide +kernel
theorem dX12_drawn_22 : decode cX12_drawn 22 = .ok (.ireturn, 1) := by decide +kernel
theorem dX12_drawn_23 : decode cX12_drawn 23 = .ok (.aload_n 0, 1) := by decide +kernel
theorem dX12_drawn_24 : decode cX12_drawn 24 = .ok (.iload_n 1, 1) := by decide +kernel
theorem dX12_drawn_25 : decode cX12_drawn 25 = .ok (.invokevirtual 291, 3) := by decide +kernel
theorem dX12_drawn_28 : decode cX12_drawn 28 = .ok (.iload_n 2, 1) := by decide +kernel
theorem dX12_drawn_29 : decode cX12_drawn 29 = .ok (.ifCond .ne 10, 3) := by decide +kernel
theorem dX12_drawn_32 : decode cX12_drawn 32 = .ok (.aload_n 0, 1) := by decide +kernel
theorem dX12_drawn_33 : decode cX12_drawn 33 = .ok (.invokevirtual 232, 3) := by decide +kernel
theorem dX12_drawn_36 : decode cX12_drawn 36 = .ok (.goto 7, 3) := by decide +kernel
theorem dX12_drawn_39 : decode cX12_drawn 39 = .ok (.aload_n 0, 1) := by decide +kernel
theorem dX12_drawn_40 : decode cX12_drawn 40 = .ok (.invokevirtual 235, 3) := by decide +kernel
theorem dX12_drawn_43 : decode cX12_drawn 43 = .ok (.ireturn, 1) := by decide +kernel
theorem dX12_lowest_0 : decode cX12_lowest 0 = .ok (.lload_n 0, 1) := by decide +kernel
theorem dX12_lowest_1 : decode cX12_lowest 1 = .ok (.lconst 0, 1) := by decide +kernel
theorem dX12_lowest_2 : decode cX12_lowest 2 = .ok (.lcmp, 1) := by decide +kernel
theorem dX12_lowest_3 : decode cX12_lowest 3 = .ok (.ifCond .ne 7, 3) := by decide +kernel
theorem dX12_lowest_6 : decode cX12_lowest 6 = .ok (.iload 4, 2) := by decide +kernel
theorem dX12_lowest_8 : decode cX12_lowest 8 = .ok (.i2l, 1) := by decide +kernel
theorem dX12_lowest_9 : decode cX12_lowest 9 = .ok (.lreturn, 1) := by decide +kernel
theorem dX12_lowest_10 : decode cX12_lowest 10 = .ok (.lload_n 0, 1) := by decide +kernel
theorem dX12_lowest_11 : decode cX12_lowest 11 = .ok (.lstore 5, 2) := by decide +kernel
theorem dX12_lowest_13 : decode cX12_lowest 13 = .ok (.lload_n 2, 1) := by decide +kernel
theorem dX12_lowest_14 : decode cX12_lowest 14 = .ok (.lstore 7, 2) := by decide +kernel
theorem dX12_lowest_16 : decode cX12_lowest 16 = .ok (.lload 7, 2) := by decide +kernel
theorem dX12_lowest_18 : decode cX12_lowest 18 = .ok (.lconst 0, 1) := by decide +kernel
theorem dX12_lowest_19 : decode cX12_lowest 19 = .ok (.lcmp, 1) := by decide +kernel
theorem dX12_lowest_20 : decode cX12_lowest 20 = .ok (.ifCond .eq 21, 3) := by decide +kernel
theorem dX12_lowest_23 : decode cX12_lowest 23 = .ok (.lload 5, 2) := by decide +kernel
theorem dX12_lowest_25 : decode cX12_lowest 25 = .ok (.lload 7, 2) := by decide +kernel
theorem dX12_lowest_27 : decode cX12_lowest 27 = .ok (.lrem, 1) := by decide +kernel
theorem dX12_lowest_28 : decode cX12_lowest 28 = .ok (.lstore 9, 2) := by decide +kernel
theorem dX12_lowest_30 : decode cX12_lowest 30 = .ok (.lload 7, 2) := by decide +kernel
theorem dX12_lowest_32 : decode cX12_lowest 32 = .ok (.lstore 5, 2) := by decide +kernel
theorem dX12_lowest_34 : decode cX12_lowest 34 = .ok (.lload 9, 2) := by decide +kernel
theorem dX12_lowest_36 : decode cX12_lowest 36 = .ok (.lstore 7, 2) := by decide +kernel
theorem dX12_lowest_38 : decode cX12_lowest 38 = .ok (.goto (-22), 3) := by decide +kernel
theorem dX12_lowest_41 : decode cX12_lowest 41 = .ok (.iload 4, 2) := by decide +kernel
theorem dX12_lowest_43 : decode cX12_lowest 43 = .ok (.ifCond .ne 7, 3) := by decide +kernel
theorem dX12_lowest_46 : decode cX12_lowest 46 = .ok (.lload_n 0, 1) := by decide +kernel
theorem dX12_lowest_47 : decode cX12_lowest 47 = .ok (.goto 4, 3) := by decide +kernel
theorem dX12_lowest_50 : decode cX12_lowest 50 = .ok (.lload_n 2, 1) := by decide +kernel
theorem dX12_lowest_51 : decode cX12_lowest 51 = .ok (.lload 5, 2) := by decide +kernel
theorem dX12_lowest_53 : decode cX12_lowest 53 = .ok (.ldiv, 1) := by decide +kernel
theorem dX12_lowest_54 : decode cX12_lowest 54 = .ok (.lreturn, 1) := by decide +kernel
theorem dX12_odds_0 : decode cX12_odds 0 = .ok (.iload_n 1, 1) := by decide +kernel
theorem dX12_odds_1 : decode cX12_odds 1 = .ok (.iconst 0, 1) := by decide +kernel
theorem dX12_odds_2 : decode cX12_odds 2 = .ok (.ldc_w 290, 3) := by decide +kernel
theorem dX12_odds_5 : decode cX12_odds 5 = .ok (.invokestatic 93, 3) := by decide +kernel
theorem dX12_odds_8 : decode cX12_odds 8 = .ok (.ifCond .eq 34, 3) := by decide +kernel
theorem dX12_odds_11 : decode cX12_odds 11 = .ok (.iload_n 2, 1) := by decide +kernel
theorem dX12_odds_12 : decode cX12_odds 12 = .ok (.iconst 1, 1) := by decide +kernel
theorem dX12_odds_13 : decode cX12_odds 13 = .ok (.bipush 20, 2) := by decide +kernel
theorem dX12_odds_15 : decode cX12_odds 15 = .ok (.invokestatic 93, 3) := by decide +kernel
theorem dX12_odds_18 : decode cX12_odds 18 = .ok (.ifCond .eq 24, 3) := by decide +kernel
theorem dX12_odds_21 : decode cX12_odds 21 = .ok (.iload_n 3, 1) := by decide +kernel
theorem dX12_odds_22 : decode cX12_odds 22 = .ok (.iconst 0, 1) := by decide +kernel
theorem dX12_odds_23 : decode cX12_odds 23 = .ok (.sipush 999, 3) := by decide +kernel
theorem dX12_odds_26 : decode cX12_odds 26 = .ok (.invokestatic 93, 3) := by decide +kernel
theorem dX12_odds_29 : decode cX12_odds 29 = .ok (.ifCond .eq 13, 3) := by decide +kernel
theorem dX12_odds_32 : decode cX12_odds 32 = .ok (.iload 4, 2) := by decide +kernel
theorem dX12_odds_34 : decode cX12_odds 34 = .ok (.iconst 0, 1) := by decide +kernel
theorem dX12_odds_35 : decode cX12_odds 35 = .ok (.iconst 1, 1) := by decide +kernel
theorem dX12_odds_36 : decode cX12_odds 36 = .ok (.invokestatic 93, 3) := by decide +kernel
theorem dX12_odds_39 : decode cX12_odds 39 = .ok (.ifCond .ne 7, 3) := by decide +kernel
theorem dX12_odds_42 : decode cX12_odds 42 = .ok (.ldc2_w 282, 3) := by decide +kernel
theorem dX12_odds_45 : decode cX12_odds 45 = .ok (.lreturn, 1) := by decide +kernel
theorem dX12_odds_46 : decode cX12_odds 46 = .ok (.lconst 0, 1) := by decide +kernel
theorem dX12_odds_47 : decode cX12_odds 47 = .ok (.lstore 5, 2) := by decide +kernel
theorem dX12_odds_49 : decode cX12_odds 49 = .ok (.iconst 0, 1) := by decide +kernel
theorem dX12_odds_50 : decode cX12_odds 50 = .ok (.istore 7, 2) := by decide +kernel
theorem dX12_odds_52 : decode cX12_odds 52 = .ok (.iload 7, 2) := by decide +kernel
theorem dX12_odds_54 : decode cX12_odds 54 = .ok (.iload_n 2, 1) := by decide +kernel
theorem dX12_odds_55 : decode cX12_odds 55 = .ok (.if_icmp .ge 35, 3) := by decide +kernel
theorem dX12_odds_58 : decode cX12_odds 58 = .ok (.aload_n 0, 1) := by decide +kernel
theorem dX12_odds_59 : decode cX12_odds 59 = .ok (.iload_n 1, 1) := by decide +kernel
theorem dX12_odds_60 : decode cX12_odds 60 = .ok (.iload 7, 2) := by decide +kernel
theorem dX12_odds_62 : decode cX12_odds 62 = .ok (.iadd, 1) := by decide +kernel
theorem dX12_odds_63 : decode cX12_odds 63 = .ok (.invokevirtual 291, 3) := by decide +kernel
theorem dX12_odds_66 : decode cX12_odds 66 = .ok (.lload 5, 2) := by decide +kernel
theorem dX12_odds_68 : decode cX12_odds 68 = .ok (.aload_n 0, 1) := by decide +kernel
theorem dX12_odds_69 : decode cX12_odds 69 = .ok (.invokevirtual 235, 3) := by decide +kernel
theorem dX12_odds_72 : decode cX12_odds 72 = .ok (.iload_n 3, 1) := by decide +kernel
theorem dX12_odds_73 : decode cX12_odds 73 = .ok (.if_icmp .gt 7, 3) := by decide +kernel
theorem dX12_odds_76 : decode cX12_odds 76 = .ok (.lconst 1, 1) := by decide +kernel
theorem dX12_odds_77 : decode cX12_odds 77 = .ok (.goto 4, 3) := by decide +kernel
theorem dX12_odds_80 : decode cX12_odds 80 = .ok (.lconst 0, 1) := by decide +kernel
theorem dX12_odds_81 : decode cX12_odds 81 = .ok (.ladd, 1) := by decide +kernel
theorem dX12_odds_82 : decode cX12_odds 82 = .ok (.lstore 5, 2) := by decide +kernel
theorem dX12_odds_84 : decode cX12_odds 84 = .ok (.iinc 7 1, 3) := by decide +kernel
theorem dX12_odds_87 : decode cX12_odds 87 = .ok (.goto (-35), 3) := by decide +kernel
theorem dX12_odds_90 : decode cX12_odds 90 = .ok (.lload 5, 2) := by decide +kernel
theorem dX12_odds_92 : decode cX12_odds 92 = .ok (.iload_n 2, 1) := by decide +kernel
theorem dX12_odds_93 : decode cX12_odds 93 = .ok (.i2l, 1) := by decide +kernel
theorem dX12_odds_94 : decode cX12_odds 94 = .ok (.iload 4, 2) := by decide +kernel
theorem dX12_odds_96 : decode cX12_odds 96 = .ok (.invokestatic 294, 3) := by decide +kernel
theorem dX12_odds_99 : decode cX12_odds 99 = .ok (.lreturn, 1) := by decide +kernel
theorem dX12_image_0 : decode cX12_image 0 = .ok (.aload_n 0, 1) := by decide +kernel
theorem dX12_image_1 : decode cX12_image 1 = .ok (.iconst 1, 1) := by decide +kernel
theorem dX12_image_2 : decode cX12_image 2 = .ok (.putfield 298, 3) := by decide +kernel
theorem dX12_image_5 : decode cX12_image 5 = .ok (.aload_n 0, 1) := by decide +kernel
theorem dX12_image_6 : decode cX12_image 6 = .ok (.aload_n 0, 1) := by decide +kernel
theorem dX12_image_7 : decode cX12_image 7 = .ok (.getfield 90, 3) := by decide +kernel
theorem dX12_image_10 : decode cX12_image 10 = .ok (.putfield 302, 3) := by decide +kernel
theorem dX12_image_13 : decode cX12_image 13 = .ok (.aload_n 0, 1) := by decide +kernel
theorem dX12_image_14 : decode cX12_image 14 = .ok (.aload_n 0, 1) := by decide +kernel
theorem dX12_image_15 : decode cX12_image 15 = .ok (.getfield 100, 3) := by decide +kernel
theorem dX12_image_18 : decode cX12_image 18 = .ok (.putfield 305, 3) := by decide +kernel
theorem dX12_image_21 : decode cX12_image 21 = .ok (.aload_n 0, 1) := by decide +kernel
theorem dX12_image_22 : decode cX12_image 22 = .ok (.aload_n 0, 1) := by decide +kernel
theorem dX12_image_23 : decode cX12_image 23 = .ok (.getfield 13, 3) := by decide +kernel
theorem dX12_image_26 : decode cX12_image 26 = .ok (.putfield 308, 3) := by decide +kernel
theorem dX12_image_29 : decode cX12_image 29 = .ok (.aload_n 0, 1) := by decide +kernel
theorem dX12_image_30 : decode cX12_image 30 = .ok (.aload_n 0, 1) := by decide +kernel
theorem dX12_image_31 : decode cX12_image 31 = .ok (.getfield 97, 3) := by decide +kernel
theorem dX12_image_34 : decode cX12_image 34 = .ok (.putfield 311, 3) := by decide +kernel
theorem dX12_image_37 : decode cX12_image 37 = .ok (.aload_n 0, 1) := by decide +kernel
theorem dX12_image_38 : decode cX12_image 38 = .ok (.aload_n 0, 1) := by decide +kernel
theorem dX12_image_39 : decode cX12_image 39 = .ok (.getfield 106, 3) := by decide +kernel
theorem dX12_image_42 : decode cX12_image 42 = .ok (.putfield 314, 3) := by decide +kernel
theorem dX12_image_45 : decode cX12_image 45 = .ok (.iconst 0, 1) := by decide +kernel
theorem dX12_image_46 : decode cX12_image 46 = .ok (.istore_n 1, 1) := by decide +kernel
theorem dX12_image_47 : decode cX12_image 47 = .ok (.iload_n 1, 1) := by decide +kernel
theorem dX12_image_48 : decode cX12_image 48 = .ok (.bipush 16, 2) := by decide +kernel
theorem dX12_image_50 : decode cX12_image 50 = .ok (.if_icmp .ge 21, 3) := by decide +kernel
theorem dX12_image_53 : decode cX12_image 53 = .ok (.aload_n 0, 1) := by decide +kernel
theorem dX12_image_54 : decode cX12_image 54 = .ok (.getfield 44, 3) := by decide +kernel
theorem dX12_image_57 : decode cX12_image 57 = .ok (.iload_n 1, 1) := by decide +kernel
theorem dX12_image_58 : decode cX12_image 58 = .ok (.aload_n 0, 1) := by decide +kernel
theorem dX12_image_59 : decode cX12_image 59 = .ok (.getfield 7, 3) := by decide +kernel
theorem dX12_image_62 : decode cX12_image 62 = .ok (.iload_n 1, 1) := by decide +kernel
theorem dX12_image_63 : decode cX12_image 63 = .ok (.iaload, 1) := by decide +kernel
theorem dX12_image_64 : decode cX12_image 64 = .ok (.iastore, 1) := by decide +kernel
theorem dX12_image_65 : decode cX12_image 65 = .ok (.iinc 1 1, 3) := by decide +kernel
theorem dX12_image_68 : decode cX12_image 68 = .ok (.goto (-21), 3) := by decide +kernel
theorem dX12_image_71 : decode cX12_image 71 = .ok (.iconst 0, 1) := by decide +kernel
theorem dX12_image_72 : decode cX12_image 72 = .ok (.istore_n 1, 1) := by decide +kernel
theorem dX12_image_73 : decode cX12_image 73 = .ok (.iload_n 1, 1) := by decide +kernel
theorem dX12_image_74 : decode cX12_image 74 = .ok (.bipush 8, 2) := by decide +kernel
theorem dX12_image_76 : decode cX12_image 76 = .ok (.if_icmp .ge 24, 3) := by decide +kernel
theorem dX12_image_79 : decode cX12_image 79 = .ok (.aload_n 0, 1) := by decide +kernel
theorem dX12_image_80 : decode cX12_image 80 = .ok (.getfield 44, 3) := by decide +kernel
theorem dX12_image_83 : decode cX12_image 83 = .ok (.bipush 16, 2) := by decide +kernel
theorem dX12_image_85 : decode cX12_image 85 = .ok (.iload_n 1, 1) := by decide +kernel
theorem dX12_image_86 : decode cX12_image 86 = .ok (.iadd, 1) := by decide +kernel
theorem dX12_image_87 : decode cX12_image 87 = .ok (.aload_n 0, 1) := by decide +kernel
theorem dX12_image_88 : decode cX12_image 88 = .ok (.getfield 26, 3) := by decide +kernel
theorem dX12_image_91 : decode cX12_image 91 = .ok (.iload_n 1, 1) := by decide +kernel
theorem dX12_image_92 : decode cX12_image 92 = .ok (.iaload, 1) := by decide +kernel
theorem dX12_image_93 : decode cX12_image 93 = .ok (.iastore, 1) := by decide +kernel
theorem dX12_image_94 : decode cX12_image 94 = .ok (.iinc 1 1, 3) := by decide +kernel
theorem dX12_image_97 : decode cX12_image 97 = .ok (.goto (-24), 3) := by decide +kernel
theorem dX12_image_100 : decode cX12_image 100 = .ok (.iconst 0, 1) := by decide +kernel
theorem dX12_image_101 : decode cX12_image 101 = .ok (.istore_n 1, 1) := by decide +kernel
theorem dX12_image_102 : decode cX12_image 102 = .ok (.iload_n 1, 1) := by decide +kernel
theorem dX12_image_103 : decode cX12_image 103 = .ok (.bipush 6, 2) := by decide +kernel
theorem dX12_image_105 : decode cX12_image 105 = .ok (.if_icmp .ge 39, 3) := by decide +kernel
theorem dX12_image_108 : decode cX12_image 108 = .ok (.aload_n 0, 1) := by decide +kernel
theorem dX12_image_109 : decode cX12_image 109 = .ok (.getfield 44, 3) := by decide +kernel
theorem dX12_image_112 : decode cX12_image 112 = .ok (.bipush 24, 2) := by decide +kernel
theorem dX12_image_114 : decode cX12_image 114 = .ok (.iload_n 1, 1) := by decide +kernel
theorem dX12_image_115 : decode cX12_image 115 = .ok (.iadd, 1) := by decide +kernel
theorem dX12_image_116 : decode cX12_image 116 = .ok (.aload_n 0, 1) := by decide +kernel
theorem dX12_image_117 : decode cX12_image 117 = .ok (.getfield 29, 3) := by decide +kernel
theorem dX12_image_120 : decode cX12_image 120 = .ok (.iload_n 1, 1) := by decide +kernel
theorem dX12_image_121 : decode cX12_image 121 = .ok (.iaload, 1) := by decide +kernel
theorem dX12_image_122 : decode cX12_image 122 = .ok (.iastore, 1) := by decide +kernel
theorem dX12_image_123 : decode cX12_image 123 = .ok (.aload_n 0, 1) := by decide +kernel
theorem dX12_image_124 : decode cX12_image 124 = .ok (.getfield 44, 3) := by decide +kernel
theorem dX12_image_127 : decode cX12_image 127 = .ok (.bipush 30, 2) := by decide +kernel
theorem dX12_image_129 : decode cX12_image 129 = .ok (.iload_n 1, 1) := by decide +kernel
theorem dX12_image_130 : decode cX12_image 130 = .ok (.iadd, 1) := by decide +kernel
theorem dX12_image_131 : decode cX12_image 131 = .ok (.aload_n 0, 1) := by decide +kernel
theorem dX12_image_132 : decode cX12_image 132 = .ok (.getfield 32, 3) := by decide +kernel
theorem dX12_image_135 : decode cX12_image 135 = .ok (.iload_n 1, 1) := by decide +kernel
theorem dX12_image_136 : decode cX12_image 136 = .ok (.iaload, 1) := by decide +kernel
theorem dX12_image_137 : decode cX12_image 137 = .ok (.iastore, 1) := by decide +kernel
theorem dX12_image_138 : decode cX12_image 138 = .ok (.iinc 1 1, 3) := by decide +kernel
theorem dX12_image_141 : decode cX12_image 141 = .ok (.goto (-39), 3) := by decide +kernel
theorem dX12_image_144 : decode cX12_image 144 = .ok (.aload_n 0, 1) := by decide +kernel
theorem dX12_image_145 : decode cX12_image 145 = .ok (.getfield 90, 3) := by decide +kernel
theorem dX12_image_148 : decode cX12_image 148 = .ok (.ireturn, 1) := by decide +kernel
theorem dX12_back_0 : decode cX12_back 0 = .ok (.aload_n 0, 1) := by decide +kernel
theorem dX12_back_1 : decode cX12_back 1 = .ok (.getfield 298, 3) := by decide +kernel
theorem dX12_back_4 : decode cX12_back 4 = .ok (.ifCond .ne 6, 3) := by decide +kernel
theorem dX12_back_7 : decode cX12_back 7 = .ok (.bipush (-3), 2) := by decide +kernel
theorem dX12_back_9 : decode cX12_back 9 = .ok (.ireturn, 1) := by decide +kernel
theorem dX12_back_10 : decode cX12_back 10 = .ok (.aload_n 0, 1) := by decide +kernel
theorem dX12_back_11 : decode cX12_back 11 = .ok (.aload_n 0, 1) := by decide +kernel
theorem dX12_back_12 : decode cX12_back 12 = .ok (.getfield 302, 3) := by decide +kernel
theorem dX12_back_15 : decode cX12_back 15 = .ok (.putfield 90, 3) := by decide +kernel
theorem dX12_back_18 : decode cX12_back 18 = .ok (.aload_n 0, 1) := by decide +kernel
theorem dX12_back_19 : decode cX12_back 19 = .ok (.aload_n 0, 1) := by decide +kernel
theorem dX12_back_20 : decode cX12_back 20 = .ok (.getfield 305, 3) := by decide +kernel
theorem dX12_back_23 : decode cX12_back 23 = .ok (.putfield 100, 3) := by decide +kernel
theorem dX12_back_26 : decode cX12_back 26 = .ok (.aload_n 0, 1) := by decide +kernel
theorem dX12_back_27 : decode cX12_back 27 = .ok (.aload_n 0, 1) := by decide +kernel
theorem dX12_back_28 : decode cX12_back 28 = .ok (.getfield 308, 3) := by decide +kernel
theorem dX12_back_31 : decode cX12_back 31 = .ok (.putfield 13, 3) := by decide +kernel
theorem dX12_back_34 : decode cX12_back 34 = .ok (.aload_n 0, 1) := by decide +kernel
theorem dX12_back_35 : decode cX12_back 35 = .ok (.aload_n 0, 1) := by decide +kernel
theorem dX12_back_36 : decode cX12_back 36 = .ok (.getfield 311, 3) := by decide +kernel
theorem dX12_back_39 : decode cX12_back 39 = .ok (.putfield 97, 3) := by decide +kernel
theorem dX12_back_42 : decode cX12_back 42 = .ok (.aload_n 0, 1) := by decide +kernel
theorem dX12_back_43 : decode cX12_back 43 = .ok (.aload_n 0, 1) := by decide +kernel
theorem dX12_back_44 : decode cX12_back 44 = .ok (.getfield 314, 3) := by decide +kernel
theorem dX12_back_47 : decode cX12_back 47 = .ok (.putfield 106, 3) := by decide +kernel
theorem dX12_back_50 : decode cX12_back 50 = .ok (.iconst 0, 1) := by decide +kernel
theorem dX12_back_51 : decode cX12_back 51 = .ok (.istore_n 1, 1) := by decide +kernel
theorem dX12_back_52 : decode cX12_back 52 = .ok (.iload_n 1, 1) := by decide +kernel
theorem dX12_back_53 : decode cX12_back 53 = .ok (.bipush 16, 2) := by decide +kernel
theorem dX12_back_55 : decode cX12_back 55 = .ok (.if_icmp .ge 21, 3) := by decide +kernel
theorem dX12_back_58 : decode cX12_back 58 = .ok (.aload_n 0, 1) := by decide +kernel
theorem dX12_back_59 : decode cX12_back 59 = .ok (.getfield 7, 3) := by decide +kernel
theorem dX12_back_62 : decode cX12_back 62 = .ok (.iload_n 1, 1) := by decide +kernel
theorem dX12_back_63 : decode cX12_back 63 = .ok (.aload_n 0, 1) := by decide +kernel
theorem dX12_back_64 : decode cX12_back 64 = .ok (.getfield 44, 3) := by decide +kernel
theorem dX12_back_67 : decode cX12_back 67 = .ok (.iload_n 1, 1) := by decide +kernel
theorem dX12_back_68 : decode cX12_back 68 = .ok (.iaload, 1) := by decide +kernel
theorem dX12_back_69 : decode cX12_back 69 = .ok (.iastore, 1) := by decide +kernel
theorem dX12_back_70 : decode cX12_back 70 = .ok (.iinc 1 1, 3) := by decide +kernel
theorem dX12_back_73 : decode cX12_back 73 = .ok (.goto (-21), 3) := by decide +kernel
theorem dX12_back_76 : decode cX12_back 76 = .ok (.iconst 0, 1) := by decide +kernel
theorem dX12_back_77 : decode cX12_back 77 = .ok (.istore_n 1, 1) := by decide +kernel
theorem dX12_back_78 : decode cX12_back 78 = .ok (.iload_n 1, 1) := by decide +kernel
theorem dX12_back_79 : decode cX12_back 79 = .ok (.bipush 8, 2) := by decide +kernel
theorem dX12_back_81 : decode cX12_back 81 = .ok (.if_icmp .ge 24, 3) := by decide +kernel
theorem dX12_back_84 : decode cX12_back 84 = .ok (.aload_n 0, 1) := by decide +kernel
theorem dX12_back_85 : decode cX12_back 85 = .ok (.getfield 26, 3) := by decide +kernel
theorem dX12_back_88 : decode cX12_back 88 = .ok (.iload_n 1, 1) := by decide +kernel
theorem dX12_back_89 : decode cX12_back 89 = .ok (.aload_n 0, 1) := by decide +kernel
theorem dX12_back_90 : decode cX12_back 90 = .ok (.getfield 44, 3) := by decide +kernel
theorem dX12_back_93 : decode cX12_back 93 = .ok (.bipush 16, 2) := by decide +kernel
theorem dX12_back_95 : decode cX12_back 95 = .ok (.iload_n 1, 1) := by decide +kernel
theorem dX12_back_96 : decode cX12_back 96 = .ok (.iadd, 1) := by decide +kernel
theorem dX12_back_97 : decode cX12_back 97 = .ok (.iaload, 1) := by decide +kernel
theorem dX12_back_98 : decode cX12_back 98 = .ok (.iastore, 1) := by decide +kernel
theorem dX12_back_99 : decode cX12_back 99 = .ok (.iinc 1 1, 3) := by decide +kernel
theorem dX12_back_102 : decode cX12_back 102 = .ok (.goto (-24), 3) := by decide +kernel
theorem dX12_back_105 : decode cX12_back 105 = .ok (.iconst 0, 1) := by decide +kernel
theorem dX12_back_106 : decode cX12_back 106 = .ok (.istore_n 1, 1) := by decide +kernel
theorem dX12_back_107 : decode cX12_back 107 = .ok (.iload_n 1, 1) := by decide +kernel
theorem dX12_back_108 : decode cX12_back 108 = .ok (.bipush 6, 2) := by decide +kernel
theorem dX12_back_110 : decode cX12_back 110 = .ok (.if_icmp .ge 39, 3) := by decide +kernel
theorem dX12_back_113 : decode cX12_back 113 = .ok (.aload_n 0, 1) := by decide +kernel
theorem dX12_back_114 : decode cX12_back 114 = .ok (.getfield 29, 3) := by decide +kernel
theorem dX12_back_117 : decode cX12_back 117 = .ok (.iload_n 1, 1) := by decide +kernel
theorem dX12_back_118 : decode cX12_back 118 = .ok (.aload_n 0, 1) := by decide +kernel
theorem dX12_back_119 : decode cX12_back 119 = .ok (.getfield 44, 3) := by decide +kernel
theorem dX12_back_122 : decode cX12_back 122 = .ok (.bipush 24, 2) := by decide +kernel
theorem dX12_back_124 : decode cX12_back 124 = .ok (.iload_n 1, 1) := by decide +kernel
theorem dX12_back_125 : decode cX12_back 125 = .ok (.iadd, 1) := by decide +kernel
theorem dX12_back_126 : decode cX12_back 126 = .ok (.iaload, 1) := by decide +kernel
theorem dX12_back_127 : decode cX12_back 127 = .ok (.iastore, 1) := by decide +kernel
theorem dX12_back_128 : decode cX12_back 128 = .ok (.aload_n 0, 1) := by decide +kernel
theorem dX12_back_129 : decode cX12_back 129 = .ok (.getfield 32, 3) := by decide +kernel
theorem dX12_back_132 : decode cX12_back 132 = .ok (.iload_n 1, 1) := by decide +kernel
theorem dX12_back_133 : decode cX12_back 133 = .ok (.aload_n 0, 1) := by decide +kernel
theorem dX12_back_134 : decode cX12_back 134 = .ok (.getfield 44, 3) := by decide +kernel
theorem dX12_back_137 : decode cX12_back 137 = .ok (.bipush 30, 2) := by decide +kernel
theorem dX12_back_139 : decode cX12_back 139 = .ok (.iload_n 1, 1) := by decide +kernel
theorem dX12_back_140 : decode cX12_back 140 = .ok (.iadd, 1) := by decide +kernel
theorem dX12_back_141 : decode cX12_back 141 = .ok (.iaload, 1) := by decide +kernel
theorem dX12_back_142 : decode cX12_back 142 = .ok (.iastore, 1) := by decide +kernel
theorem dX12_back_143 : decode cX12_back 143 = .ok (.iinc 1 1, 3) := by decide +kernel
theorem dX12_back_146 : decode cX12_back 146 = .ok (.goto (-39), 3) := by decide +kernel
theorem dX12_back_149 : decode cX12_back 149 = .ok (.aload_n 0, 1) := by decide +kernel
theorem dX12_back_150 : decode cX12_back 150 = .ok (.getfield 90, 3) := by decide +kernel
theorem dX12_back_153 : decode cX12_back 153 = .ok (.ireturn, 1) := by decide +kernel
theorem dX12_sheet_0 : decode cX12_sheet 0 = .ok (.iload_n 1, 1) := by decide +kernel
theorem dX12_sheet_1 : decode cX12_sheet 1 = .ok (.iconst 0, 1) := by decide +kernel
theorem dX12_sheet_2 : decode cX12_sheet 2 = .ok (.iconst 3, 1) := by decide +kernel
theorem dX12_sheet_3 : decode cX12_sheet 3 = .ok (.invokestatic 93, 3) := by decide +kernel
theorem dX12_sheet_6 : decode cX12_sheet 6 = .ok (.ifCond .eq 23, 3) := by decide +kernel
theorem dX12_sheet_9 : decode cX12_sheet 9 = .ok (.iload_n 2, 1) := by decide +kernel
theorem dX12_sheet_10 : decode cX12_sheet 10 = .ok (.iconst (-1), 1) := by decide +kernel
theorem dX12_sheet_11 : decode cX12_sheet 11 = .ok (.iconst 2, 1) := by decide +kernel
theorem dX12_sheet_12 : decode cX12_sheet 12 = .ok (.invokestatic 93, 3) := by decide +kernel
theorem dX12_sheet_15 : decode cX12_sheet 15 = .ok (.ifCond .eq 14, 3) := by decide +kernel
theorem dX12_sheet_18 : decode cX12_sheet 18 = .ok (.iload_n 2, 1) := by decide +kernel
theorem dX12_sheet_19 : decode cX12_sheet 19 = .ok (.iconst (-1), 1) := by decide +kernel
theorem dX12_sheet_20 : decode cX12_sheet 20 = .ok (.if_icmp .eq 12, 3) := by decide +kernel
theorem dX12_sheet_23 : decode cX12_sheet 23 = .ok (.iload_n 3, 1) := by decide +kernel
theorem dX12_sheet_24 : decode cX12_sheet 24 = .ok (.bipush 40, 2) := by decide +kernel
theorem dX12_sheet_26 : decode cX12_sheet 26 = .ok (.if_icmp .le 6, 3) := by decide +kernel
theorem dX12_sheet_29 : decode cX12_sheet 29 = .ok (.bipush (-2), 2) := by decide +kernel
theorem dX12_sheet_31 : decode cX12_sheet 31 = .ok (.ireturn, 1) := by decide +kernel
theorem dX12_sheet_32 : decode cX12_sheet 32 = .ok (.iload_n 2, 1) := by decide +kernel
theorem dX12_sheet_33 : decode cX12_sheet 33 = .ok (.iconst (-1), 1) := by decide +kernel
theorem dX12_sheet_34 : decode cX12_sheet 34 = .ok (.if_icmp .eq 10, 3) := by decide +kernel
theorem dX12_sheet_37 : decode cX12_sheet 37 = .ok (.iload_n 3, 1) := by decide +kernel
theorem dX12_sheet_38 : decode cX12_sheet 38 = .ok (.ifCond .ge 6, 3) := by decide +kernel
theorem dX12_sheet_41 : decode cX12_sheet 41 = .ok (.bipush (-14), 2) := by decide +kernel
theorem dX12_sheet_43 : decode cX12_sheet 43 = .ok (.ireturn, 1) := by decide +kernel
theorem dX12_sheet_44 : decode cX12_sheet 44 = .ok (.aload_n 0, 1) := by decide +kernel
theorem dX12_sheet_45 : decode cX12_sheet 45 = .ok (.getfield 47, 3) := by decide +kernel
theorem dX12_sheet_48 : decode cX12_sheet 48 = .ok (.iload_n 1, 1) := by decide +kernel
theorem dX12_sheet_49 : decode cX12_sheet 49 = .ok (.iload_n 2, 1) := by decide +kernel
theorem dX12_sheet_50 : decode cX12_sheet 50 = .ok (.iastore, 1) := by decide +kernel
theorem dX12_sheet_51 : decode cX12_sheet 51 = .ok (.aload_n 0, 1) := by decide +kernel
theorem dX12_sheet_52 : decode cX12_sheet 52 = .ok (.getfield 50, 3) := by decide +kernel
theorem dX12_sheet_55 : decode cX12_sheet 55 = .ok (.iload_n 1, 1) := by decide +kernel
theorem dX12_sheet_56 : decode cX12_sheet 56 = .ok (.iload_n 2, 1) := by decide +kernel
theorem dX12_sheet_57 : decode cX12_sheet 57 = .ok (.iconst (-1), 1) := by decide +kernel
theorem dX12_sheet_58 : decode cX12_sheet 58 = .ok (.if_icmp .ne 7, 3) := by decide +kernel
theorem dX12_sheet_61 : decode cX12_sheet 61 = .ok (.iconst 0, 1) := by decide +kernel
theorem dX12_sheet_62 : decode cX12_sheet 62 = .ok (.goto 4, 3) := by decide +kernel
theorem dX12_sheet_65 : decode cX12_sheet 65 = .ok (.iload_n 3, 1) := by decide +kernel
theorem dX12_sheet_66 : decode cX12_sheet 66 = .ok (.iastore, 1) := by decide +kernel
theorem dX12_sheet_67 : decode cX12_sheet 67 = .ok (.iconst 0, 1) := by decide +kernel
theorem dX12_sheet_68 : decode cX12_sheet 68 = .ok (.istore 4, 2) := by decide +kernel
theorem dX12_sheet_70 : decode cX12_sheet 70 = .ok (.iload 4, 2) := by decide +kernel
theorem dX12_sheet_72 : decode cX12_sheet 72 = .ok (.bipush 40, 2) := by decide +kernel
theorem dX12_sheet_74 : decode cX12_sheet 74 = .ok (.if_icmp .ge 22, 3) := by decide +kernel
theorem dX12_sheet_77 : decode cX12_sheet 77 = .ok (.aload_n 0, 1) := by decide +kernel
theorem dX12_sheet_78 : decode cX12_sheet 78 = .ok (.getfield 53, 3) := by decide +kernel
theorem dX12_sheet_81 : decode cX12_sheet 81 = .ok (.bipush 40, 2) := by decide +kernel
theorem dX12_sheet_83 : decode cX12_sheet 83 = .ok (.iload_n 1, 1) := by decide +kernel
theorem dX12_sheet_84 : decode cX12_sheet 84 = .ok (.imul, 1) := by decide +kernel
theorem dX12_sheet_85 : decode cX12_sheet 85 = .ok (.iload 4, 2) := by decide +kernel
theorem dX12_sheet_87 : decode cX12_sheet 87 = .ok (.iadd, 1) := by decide +kernel
theorem dX12_sheet_88 : decode cX12_sheet 88 = .ok (.iconst 0, 1) := by decide +kernel
theorem dX12_sheet_89 : decode cX12_sheet 89 = .ok (.iastore, 1) := by decide +kernel
theorem dX12_sheet_90 : decode cX12_sheet 90 = .ok (.iinc 4 1, 3) := by decide +kernel
theorem dX12_sheet_93 : decode cX12_sheet 93 = .ok (.goto (-23), 3) := by decide +kernel
theorem dX12_sheet_96 : decode cX12_sheet 96 = .ok (.iconst 1, 1) := by decide +kernel
theorem dX12_sheet_97 : decode cX12_sheet 97 = .ok (.ireturn, 1) := by decide +kernel
theorem dX12_cell_0 : decode cX12_cell 0 = .ok (.iload_n 1, 1) := by decide +kernel
theorem dX12_cell_1 : decode cX12_cell 1 = .ok (.iconst 0, 1) := by decide +kernel
theorem dX12_cell_2 : decode cX12_cell 2 = .ok (.iconst 3, 1) := by decide +kernel
theorem dX12_cell_3 : decode cX12_cell 3 = .ok (.invokestatic 93, 3) := by decide +kernel
theorem dX12_cell_6 : decode cX12_cell 6 = .ok (.ifCond .ne 6, 3) := by decide +kernel
theorem dX12_cell_9 : decode cX12_cell 9 = .ok (.bipush (-2), 2) := by decide +kernel
theorem dX12_cell_11 : decode cX12_cell 11 = .ok (.ireturn, 1) := by decide +kernel
theorem dX12_cell_12 : decode cX12_cell 12 = .ok (.aload_n 0, 1) := by decide +kernel
theorem dX12_cell_13 : decode cX12_cell 13 = .ok (.getfield 47, 3) := by decide +kernel
theorem dX12_cell_16 : decode cX12_cell 16 = .ok (.iload_n 1, 1) := by decide +kernel
theorem dX12_cell_17 : decode cX12_cell 17 = .ok (.iaload, 1) := by decide +kernel
theorem dX12_cell_18 : decode cX12_cell 18 = .ok (.iconst (-1), 1) := by decide +kernel
theorem dX12_cell_19 : decode cX12_cell 19 = .ok (.if_icmp .ne 6, 3) := by decide +kernel
theorem dX12_cell_22 : decode cX12_cell 22 = .ok (.bipush (-11), 2) := by decide +kernel
theorem dX12_cell_24 : decode cX12_cell 24 = .ok (.ireturn, 1) := by decide +kernel
theorem dX12_cell_25 : decode cX12_cell 25 = .ok (.iload_n 2, 1) := by decide +kernel
theorem dX12_cell_26 : decode cX12_cell 26 = .ok (.iconst 0, 1) := by decide +kernel
theorem dX12_cell_27 : decode cX12_cell 27 = .ok (.aload_n 0, 1) := by decide +kernel
theorem dX12_cell_28 : decode cX12_cell 28 = .ok (.getfield 50, 3) := by decide +kernel
theorem dX12_cell_31 : decode cX12_cell 31 = .ok (.iload_n 1, 1) := by decide +kernel
theorem dX12_cell_32 : decode cX12_cell 32 = .ok (.iaload, 1) := by decide +kernel
theorem dX12_cell_33 : decode cX12_cell 33 = .ok (.iconst 1, 1) := by decide +kernel
theorem dX12_cell_34 : decode cX12_cell 34 = .ok (.isub, 1) := by decide +kernel
theorem dX12_cell_35 : decode cX12_cell 35 = .ok (.invokestatic 93, 3) := by decide +kernel
theorem dX12_cell_38 : decode cX12_cell 38 = .ok (.ifCond .ne 6, 3) := by decide +kernel
theorem dX12_cell_41 : decode cX12_cell 41 = .ok (.bipush (-12), 2) := by decide +kernel
theorem dX12_cell_43 : decode cX12_cell 43 = .ok (.ireturn, 1) := by decide +kernel
theorem dX12_cell_44 : decode cX12_cell 44 = .ok (.aload_n 0, 1) := by decide +kernel
theorem dX12_cell_45 : decode cX12_cell 45 = .ok (.getfield 53, 3) := by decide +kernel
theorem dX12_cell_48 : decode cX12_cell 48 = .ok (.bipush 40, 2) := by decide +kernel
theorem dX12_cell_50 : decode cX12_cell 50 = .ok (.iload_n 1, 1) := by decide +kernel
theorem dX12_cell_51 : decode cX12_cell 51 = .ok (.imul, 1) := by decide +kernel
theorem dX12_cell_52 : decode cX12_cell 52 = .ok (.iload_n 2, 1) := by decide +kernel
theorem dX12_cell_53 : decode cX12_cell 53 = .ok (.iadd, 1) := by decide +kernel
theorem dX12_cell_54 : decode cX12_cell 54 = .ok (.aload_n 0, 1) := by decide +kernel
theorem dX12_cell_55 : decode cX12_cell 55 = .ok (.getfield 47, 3) := by decide +kernel
theorem dX12_cell_58 : decode cX12_cell 58 = .ok (.iload_n 1, 1) := by decide +kernel
theorem dX12_cell_59 : decode cX12_cell 59 = .ok (.iaload, 1) := by decide +kernel
theorem dX12_cell_60 : decode cX12_cell 60 = .ok (.ifCond .ne 8, 3) := by decide +kernel
theorem dX12_cell_63 : decode cX12_cell 63 = .ok (.iload_n 3, 1) := by decide +kernel
theorem dX12_cell_64 : decode cX12_cell 64 = .ok (.i2b, 1) := by decide +kernel
theorem dX12_cell_65 : decode cX12_cell 65 = .ok (.goto 19, 3) := by decide +kernel
theorem dX12_cell_68 : decode cX12_cell 68 = .ok (.aload_n 0, 1) := by decide +kernel
theorem dX12_cell_69 : decode cX12_cell 69 = .ok (.getfield 47, 3) := by decide +kernel
theorem dX12_cell_72 : decode cX12_cell 72 = .ok (.iload_n 1, 1) := by decide +kernel
theorem dX12_cell_73 : decode cX12_cell 73 = .ok (.iaload, 1) := by decide +kernel
theorem dX12_cell_74 : decode cX12_cell 74 = .ok (.iconst 1, 1) := by decide +kernel
theorem dX12_cell_75 : decode cX12_cell 75 = .ok (.if_icmp .ne 8, 3) := by decide +kernel
theorem dX12_cell_78 : decode cX12_cell 78 = .ok (.iload_n 3, 1) := by decide +kernel
theorem dX12_cell_79 : decode cX12_cell 79 = .ok (.i2s, 1) := by decide +kernel
theorem dX12_cell_80 : decode cX12_cell 80 = .ok (.goto 4, 3) := by decide +kernel
theorem dX12_cell_83 : decode cX12_cell 83 = .ok (.iload_n 3, 1) := by decide +kernel
theorem dX12_cell_84 : decode cX12_cell 84 = .ok (.iastore, 1) := by decide +kernel
theorem dX12_cell_85 : decode cX12_cell 85 = .ok (.iconst 1, 1) := by decide +kernel
theorem dX12_cell_86 : decode cX12_cell 86 = .ok (.ireturn, 1) := by decide +kernel
theorem dX12_copy_0 : decode cX12_copy 0 = .ok (.iload_n 1, 1) := by decide +kernel
theorem dX12_copy_1 : decode cX12_copy 1 = .ok (.iconst 0, 1) := by decide +kernel
theorem dX12_copy_2 : decode cX12_copy 2 = .ok (.iconst 3, 1) := by decide +kernel
theorem dX12_copy_3 : decode cX12_copy 3 = .ok (.invokestatic 93, 3) := by decide +kernel
theorem dX12_copy_6 : decode cX12_copy 6 = .ok (.ifCond .eq 12, 3) := by decide +kernel
theorem dX12_copy_9 : decode cX12_copy 9 = .ok (.iload_n 3, 1) := by decide +kernel
theorem dX12_copy_10 : decode cX12_copy 10 = .ok (.iconst 0, 1) := by decide +kernel
theorem dX12_copy_11 : decode cX12_copy 11 = .ok (.iconst 3, 1) := by decide +kernel
theorem dX12_copy_12 : decode cX12_copy 12 = .ok (.invokestatic 93, 3) := by decide +kernel
theorem dX12_copy_15 : decode cX12_copy 15 = .ok (.ifCond .ne 6, 3) := by decide +kernel
theorem dX12_copy_18 : decode cX12_copy 18 = .ok (.bipush (-2), 2) := by decide +kernel
theorem dX12_copy_20 : decode cX12_copy 20 = .ok (.ireturn, 1) := by decide +kernel
theorem dX12_copy_21 : decode cX12_copy 21 = .ok (.aload_n 0, 1) := by decide +kernel
theorem dX12_copy_22 : decode cX12_copy 22 = .ok (.getfield 47, 3) := by decide +kernel
theorem dX12_copy_25 : decode cX12_copy 25 = .ok (.iload_n 1, 1) := by decide +kernel
theorem dX12_copy_26 : decode cX12_copy 26 = .ok (.iaload, 1) := by decide +kernel
theorem dX12_copy_27 : decode cX12_copy 27 = .ok (.iconst (-1), 1) := by decide +kernel
theorem dX12_copy_28 : decode cX12_copy 28 = .ok (.if_icmp .eq 13, 3) := by decide +kernel
theorem dX12_copy_31 : decode cX12_copy 31 = .ok (.aload_n 0, 1) := by decide +kernel
theorem dX12_copy_32 : decode cX12_copy 32 = .ok (.getfield 47, 3) := by decide +kernel
theorem dX12_copy_35 : decode cX12_copy 35 = .ok (.iload_n 3, 1) := by decide +kernel
theorem dX12_copy_36 : decode cX12_copy 36 = .ok (.iaload, 1) := by decide +kernel
theorem dX12_copy_37 : decode cX12_copy 37 = .ok (.iconst (-1), 1) := by decide +kernel
theorem dX12_copy_38 : decode cX12_copy 38 = .ok (.if_icmp .ne 6, 3) := by decide +kernel
theorem dX12_copy_41 : decode cX12_copy 41 = .ok (.bipush (-11), 2) := by decide +kernel
theorem dX12_copy_43 : decode cX12_copy 43 = .ok (.ireturn, 1) := by decide +kernel
theorem dX12_copy_44 : decode cX12_copy 44 = .ok (.aload_n 0, 1) := by decide +kernel
theorem dX12_copy_45 : decode cX12_copy 45 = .ok (.getfield 47, 3) := by decide +kernel
theorem dX12_copy_48 : decode cX12_copy 48 = .ok (.iload_n 1, 1) := by decide +kernel
theorem dX12_copy_49 : decode cX12_copy 49 = .ok (.iaload, 1) := by decide +kernel
theorem dX12_copy_50 : decode cX12_copy 50 = .ok (.aload_n 0, 1) := by decide +kernel
theorem dX12_copy_51 : decode cX12_copy 51 = .ok (.getfield 47, 3) := by decide +kernel
theorem dX12_copy_54 : decode cX12_copy 54 = .ok (.iload_n 3, 1) := by decide +kernel
theorem dX12_copy_55 : decode cX12_copy 55 = .ok (.iaload, 1) := by decide +kernel
theorem dX12_copy_56 : decode cX12_copy 56 = .ok (.if_icmp .eq 6, 3) := by decide +kernel
theorem dX12_copy_59 : decode cX12_copy 59 = .ok (.bipush (-13), 2) := by decide +kernel
theorem dX12_copy_61 : decode cX12_copy 61 = .ok (.ireturn, 1) := by decide +kernel
theorem dX12_copy_62 : decode cX12_copy 62 = .ok (.iload 5, 2) := by decide +kernel
theorem dX12_copy_64 : decode cX12_copy 64 = .ok (.ifCond .lt 60, 3) := by decide +kernel
theorem dX12_copy_67 : decode cX12_copy 67 = .ok (.iload_n 2, 1) := by decide +kernel
theorem dX12_copy_68 : decode cX12_copy 68 = .ok (.ifCond .lt 56, 3) := by decide +kernel
theorem dX12_copy_71 : decode cX12_copy 71 = .ok (.iload 4, 2) := by decide +kernel
theorem dX12_copy_73 : decode cX12_copy 73 = .ok (.ifCond .lt 51, 3) := by decide +kernel
theorem dX12_copy_76 : decode cX12_copy 76 = .ok (.iload_n 2, 1) := by decide +kernel
theorem dX12_copy_77 : decode cX12_copy 77 = .ok (.aload_n 0, 1) := by decide +kernel
theorem dX12_copy_78 : decode cX12_copy 78 = .ok (.getfield 50, 3) := by decide +kernel
theorem dX12_copy_81 : decode cX12_copy 81 = .ok (.iload_n 1, 1) := by decide +kernel
theorem dX12_copy_82 : decode cX12_copy 82 = .ok (.iaload, 1) := by decide +kernel
theorem dX12_copy_83 : decode cX12_copy 83 = .ok (.if_icmp .gt 41, 3) := by decide +kernel
theorem dX12_copy_86 : decode cX12_copy 86 = .ok (.iload 4, 2) := by decide +kernel
theorem dX12_copy_88 : decode cX12_copy 88 = .ok (.aload_n 0, 1) := by decide +kernel
theorem dX12_copy_89 : decode cX12_copy 89 = .ok (.getfield 50, 3) := by decide +kernel
theorem dX12_copy_92 : decode cX12_copy 92 = .ok (.iload_n 3, 1) := by decide +kernel
theorem dX12_copy_93 : decode cX12_copy 93 = .ok (.iaload, 1) := by decide +kernel
theorem dX12_copy_94 : decode cX12_copy 94 = .ok (.if_icmp .gt 30, 3) := by decide +kernel
theorem dX12_copy_97 : decode cX12_copy 97 = .ok (.iload 5, 2) := by decide +kernel
theorem dX12_copy_99 : decode cX12_copy 99 = .ok (.aload_n 0, 1) := by decide +kernel
theorem dX12_copy_100 : decode cX12_copy 100 = .ok (.getfield 50, 3) := by decide +kernel
theorem dX12_copy_103 : decode cX12_copy 103 = .ok (.iload_n 1, 1) := by decide +kernel
theorem dX12_copy_104 : decode cX12_copy 104 = .ok (.iaload, 1) := by decide +kernel
theorem dX12_copy_105 : decode cX12_copy 105 = .ok (.iload_n 2, 1) := by decide +kernel
theorem dX12_copy_106 : decode cX12_copy 106 = .ok (.isub, 1) := by decide +kernel
theorem dX12_copy_107 : decode cX12_copy 107 = .ok (.if_icmp .gt 17, 3) := by decide +kernel
theorem dX12_copy_110 : decode cX12_copy 110 = .ok (.iload 5, 2) := by decide +kernel
theorem dX12_copy_112 : decode cX12_copy 112 = .ok (.aload_n 0, 1) := by decide +kernel
theorem dX12_copy_113 : decode cX12_copy 113 = .ok (.getfield 50, 3) := by decide +kernel
theorem dX12_copy_116 : decode cX12_copy 116 = .ok (.iload_n 3, 1) := by decide +kernel
theorem dX12_copy_117 : decode cX12_copy 117 = .ok (.iaload, 1) := by decide +kernel
theorem dX12_copy_118 : decode cX12_copy 118 = .ok (.iload 4, 2) := by decide +kernel
theorem dX12_copy_120 : decode cX12_copy 120 = .ok (.isub, 1) := by decide +kernel
theorem dX12_copy_121 : decode cX12_copy 121 = .ok (.if_icmp .le 6, 3) := by decide +kernel
theorem dX12_copy_124 : decode cX12_copy 124 = .ok (.bipush (-12), 2) := by decide +kernel
theorem dX12_copy_126 : decode cX12_copy 126 = .ok (.ireturn, 1) := by decide +kernel
theorem dX12_copy_127 : decode cX12_copy 127 = .ok (.bipush 40, 2) := by decide +kernel
theorem dX12_copy_129 : decode cX12_copy 129 = .ok (.iload_n 1, 1) := by decide +kernel
theorem dX12_copy_130 : decode cX12_copy 130 = .ok (.imul, 1) := by decide +kernel
theorem dX12_copy_131 : decode cX12_copy 131 = .ok (.iload_n 2, 1) := by decide +kernel
theorem dX12_copy_132 : decode cX12_copy 132 = .ok (.iadd, 1) := by decide +kernel
theorem dX12_copy_133 : decode cX12_copy 133 = .ok (.istore 6, 2) := by decide +kernel
theorem dX12_copy_135 : decode cX12_copy 135 = .ok (.bipush 40, 2) := by decide +kernel
theorem dX12_copy_137 : decode cX12_copy 137 = .ok (.iload_n 3, 1) := by decide +kernel
theorem dX12_copy_138 : decode cX12_copy 138 = .ok (.imul, 1) := by decide +kernel
theorem dX12_copy_139 : decode cX12_copy 139 = .ok (.iload 4, 2) := by decide +kernel
theorem dX12_copy_141 : decode cX12_copy 141 = .ok (.iadd, 1) := by decide +kernel
theorem dX12_copy_142 : decode cX12_copy 142 = .ok (.istore 7, 2) := by decide +kernel
theorem dX12_copy_144 : decode cX12_copy 144 = .ok (.iconst 0, 1) := by decide +kernel
theorem dX12_copy_145 : decode cX12_copy 145 = .ok (.istore 8, 2) := by decide +kernel
theorem dX12_copy_147 : decode cX12_copy 147 = .ok (.iload 8, 2) := by decide +kernel
theorem dX12_copy_149 : decode cX12_copy 149 = .ok (.iload 5, 2) := by decide +kernel
theorem dX12_copy_151 : decode cX12_copy 151 = .ok (.if_icmp .ge 50, 3) := by decide +kernel
theorem dX12_copy_154 : decode cX12_copy 154 = .ok (.iload 6, 2) := by decide +kernel
theorem dX12_copy_156 : decode cX12_copy 156 = .ok (.iload 7, 2) := by decide +kernel
theorem dX12_copy_158 : decode cX12_copy 158 = .ok (.if_icmp .ge 13, 3) := by decide +kernel
theorem dX12_copy_161 : decode cX12_copy 161 = .ok (.iload 5, 2) := by decide +kernel
theorem dX12_copy_163 : decode cX12_copy 163 = .ok (.iconst 1, 1) := by decide +kernel
theorem dX12_copy_164 : decode cX12_copy 164 = .ok (.isub, 1) := by decide +kernel
theorem dX12_copy_165 : decode cX12_copy 165 = .ok (.iload 8, 2) := by decide +kernel
theorem dX12_copy_167 : decode cX12_copy 167 = .ok (.isub, 1) := by decide +kernel
theorem dX12_copy_168 : decode cX12_copy 168 = .ok (.goto 5, 3) := by decide +kernel
theorem dX12_copy_171 : decode cX12_copy 171 = .ok (.iload 8, 2) := by decide +kernel
theorem dX12_copy_173 : decode cX12_copy 173 = .ok (.istore 9, 2) := by decide +kernel
theorem dX12_copy_175 : decode cX12_copy 175 = .ok (.aload_n 0, 1) := by decide +kernel
theorem dX12_copy_176 : decode cX12_copy 176 = .ok (.getfield 53, 3) := by decide +kernel
theorem dX12_copy_179 : decode cX12_copy 179 = .ok (.iload 7, 2) := by decide +kernel
theorem dX12_copy_181 : decode cX12_copy 181 = .ok (.iload 9, 2) := by decide +kernel
theorem dX12_copy_183 : decode cX12_copy 183 = .ok (.iadd, 1) := by decide +kernel
theorem dX12_copy_184 : decode cX12_copy 184 = .ok (.aload_n 0, 1) := by decide +kernel
theorem dX12_copy_185 : decode cX12_copy 185 = .ok (.getfield 53, 3) := by decide +kernel
theorem dX12_copy_188 : decode cX12_copy 188 = .ok (.iload 6, 2) := by decide +kernel
theorem dX12_copy_190 : decode cX12_copy 190 = .ok (.iload 9, 2) := by decide +kernel
theorem dX12_copy_192 : decode cX12_copy 192 = .ok (.iadd, 1) := by decide +kernel
theorem dX12_copy_193 : decode cX12_copy 193 = .ok (.iaload, 1) := by decide +kernel
theorem dX12_copy_194 : decode cX12_copy 194 = .ok (.iastore, 1) := by decide +kernel
theorem dX12_copy_195 : decode cX12_copy 195 = .ok (.iinc 8 1, 3) := by decide +kernel
theorem dX12_copy_198 : decode cX12_copy 198 = .ok (.goto (-51), 3) := by decide +kernel
theorem dX12_copy_201 : decode cX12_copy 201 = .ok (.iload 5, 2) := by decide +kernel
theorem dX12_copy_203 : decode cX12_copy 203 = .ok (.ireturn, 1) := by decide +kernel
theorem dX12_cakesBy_0 : decode cX12_cakesBy 0 = .ok (.iload_n 1, 1) := by decide +kernel
theorem dX12_cakesBy_1 : decode cX12_cakesBy 1 = .ok (.iconst 0, 1) := by decide +kernel
theorem dX12_cakesBy_2 : decode cX12_cakesBy 2 = .ok (.iconst 3, 1) := by decide +kernel
theorem dX12_cakesBy_3 : decode cX12_cakesBy 3 = .ok (.invokestatic 93, 3) := by decide +kernel
theorem dX12_cakesBy_6 : decode cX12_cakesBy 6 = .ok (.ifCond .eq 23, 3) := by decide +kernel
theorem dX12_cakesBy_9 : decode cX12_cakesBy 9 = .ok (.iload_n 2, 1) := by decide +kernel
theorem dX12_cakesBy_10 : decode cX12_cakesBy 10 = .ok (.iconst 0, 1) := by decide +kernel
theorem dX12_cakesBy_11 : decode cX12_cakesBy 11 = .ok (.iconst 2, 1) := by decide +kernel
theorem dX12_cakesBy_12 : decode cX12_cakesBy 12 = .ok (.invokestatic 93, 3) := by decide +kernel
theorem dX12_cakesBy_15 : decode cX12_cakesBy 15 = .ok (.ifCond .eq 14, 3) := by decide +kernel
theorem dX12_cakesBy_18 : decode cX12_cakesBy 18 = .ok (.iload 4, 2) := by decide +kernel
theorem dX12_cakesBy_20 : decode cX12_cakesBy 20 = .ok (.iconst 0, 1) := by decide +kernel
theorem dX12_cakesBy_21 : decode cX12_cakesBy 21 = .ok (.bipush 8, 2) := by decide +kernel
theorem dX12_cakesBy_23 : decode cX12_cakesBy 23 = .ok (.invokestatic 93, 3) := by decide +kernel
theorem dX12_cakesBy_26 : decode cX12_cakesBy 26 = .ok (.ifCond .ne 6, 3) := by decide +kernel
theorem dX12_cakesBy_29 : decode cX12_cakesBy 29 = .ok (.bipush (-2), 2) := by decide +kernel
theorem dX12_cakesBy_31 : decode cX12_cakesBy 31 = .ok (.ireturn, 1) := by decide +kernel
theorem dX12_cakesBy_32 : decode cX12_cakesBy 32 = .ok (.aload_n 0, 1) := by decide +kernel
theorem dX12_cakesBy_33 : decode cX12_cakesBy 33 = .ok (.getfield 47, 3) := by decide +kernel
theorem dX12_cakesBy_36 : decode cX12_cakesBy 36 = .ok (.iload_n 1, 1) := by decide +kernel
theorem dX12_cakesBy_37 : decode cX12_cakesBy 37 = .ok (.iaload, 1) := by decide +kernel
theorem dX12_cakesBy_38 : decode cX12_cakesBy 38 = .ok (.iconst (-1), 1) := by decide +kernel
theorem dX12_cakesBy_39 : decode cX12_cakesBy 39 = .ok (.if_icmp .ne 6, 3) := by decide +kernel
theorem dX12_cakesBy_42 : decode cX12_cakesBy 42 = .ok (.bipush (-11), 2) := by decide +kernel
theorem dX12_cakesBy_44 : decode cX12_cakesBy 44 = .ok (.ireturn, 1) := by decide +kernel
theorem dX12_cakesBy_45 : decode cX12_cakesBy 45 = .ok (.aload_n 0, 1) := by decide +kernel
theorem dX12_cakesBy_46 : decode cX12_cakesBy 46 = .ok (.getfield 47, 3) := by decide +kernel
theorem dX12_cakesBy_49 : decode cX12_cakesBy 49 = .ok (.iload_n 1, 1) := by decide +kernel
theorem dX12_cakesBy_50 : decode cX12_cakesBy 50 = .ok (.iaload, 1) := by decide +kernel
theorem dX12_cakesBy_51 : decode cX12_cakesBy 51 = .ok (.iload_n 2, 1) := by decide +kernel
theorem dX12_cakesBy_52 : decode cX12_cakesBy 52 = .ok (.if_icmp .eq 6, 3) := by decide +kernel
theorem dX12_cakesBy_55 : decode cX12_cakesBy 55 = .ok (.bipush (-13), 2) := by decide +kernel
theorem dX12_cakesBy_57 : decode cX12_cakesBy 57 = .ok (.ireturn, 1) := by decide +kernel
theorem dX12_cakesBy_58 : decode cX12_cakesBy 58 = .ok (.iconst 0, 1) := by decide +kernel
theorem dX12_cakesBy_59 : decode cX12_cakesBy 59 = .ok (.istore 5, 2) := by decide +kernel
theorem dX12_cakesBy_61 : decode cX12_cakesBy 61 = .ok (.iconst 0, 1) := by decide +kernel
theorem dX12_cakesBy_62 : decode cX12_cakesBy 62 = .ok (.istore 6, 2) := by decide +kernel
theorem dX12_cakesBy_64 : decode cX12_cakesBy 64 = .ok (.iload 6, 2) := by decide +kernel
theorem dX12_cakesBy_66 : decode cX12_cakesBy 66 = .ok (.iload 4, 2) := by decide +kernel
theorem dX12_cakesBy_68 : decode cX12_cakesBy 68 = .ok (.if_icmp .ge 94, 3) := by decide +kernel
theorem dX12_cakesBy_71 : decode cX12_cakesBy 71 = .ok (.iload_n 3, 1) := by decide +kernel
theorem dX12_cakesBy_72 : decode cX12_cakesBy 72 = .ok (.iconst 3, 1) := by decide +kernel
theorem dX12_cakesBy_73 : decode cX12_cakesBy 73 = .ok (.iload 6, 2) := by decide +kernel
theorem dX12_cakesBy_75 : decode cX12_cakesBy 75 = .ok (.imul, 1) := by decide +kernel
theorem dX12_cakesBy_76 : decode cX12_cakesBy 76 = .ok (.iadd, 1) := by decide +kernel
theorem dX12_cakesBy_77 : decode cX12_cakesBy 77 = .ok (.istore 7, 2) := by decide +kernel
theorem dX12_cakesBy_79 : decode cX12_cakesBy 79 = .ok (.iload_n 3, 1) := by decide +kernel
theorem dX12_cakesBy_80 : decode cX12_cakesBy 80 = .ok (.ifCond .lt 22, 3) := by decide +kernel
theorem dX12_cakesBy_83 : decode cX12_cakesBy 83 = .ok (.iload 7, 2) := by decide +kernel
theorem dX12_cakesBy_85 : decode cX12_cakesBy 85 = .ok (.iload_n 3, 1) := by decide +kernel
theorem dX12_cakesBy_86 : decode cX12_cakesBy 86 = .ok (.if_icmp .lt 16, 3) := by decide +kernel
theorem dX12_cakesBy_89 : decode cX12_cakesBy 89 = .ok (.iload 7, 2) := by decide +kernel
theorem dX12_cakesBy_91 : decode cX12_cakesBy 91 = .ok (.aload_n 0, 1) := by decide +kernel
theorem dX12_cakesBy_92 : decode cX12_cakesBy 92 = .ok (.getfield 50, 3) := by decide +kernel
theorem dX12_cakesBy_95 : decode cX12_cakesBy 95 = .ok (.iload_n 1, 1) := by decide +kernel
theorem dX12_cakesBy_96 : decode cX12_cakesBy 96 = .ok (.iaload, 1) := by decide +kernel
theorem dX12_cakesBy_97 : decode cX12_cakesBy 97 = .ok (.iconst 3, 1) := by decide +kernel
theorem dX12_cakesBy_98 : decode cX12_cakesBy 98 = .ok (.isub, 1) := by decide +kernel
theorem dX12_cakesBy_99 : decode cX12_cakesBy 99 = .ok (.if_icmp .le 6, 3) := by decide +kernel
theorem dX12_cakesBy_102 : decode cX12_cakesBy 102 = .ok (.bipush (-12), 2) := by decide +kernel
theorem dX12_cakesBy_104 : decode cX12_cakesBy 104 = .ok (.ireturn, 1) := by decide +kernel
theorem dX12_cakesBy_105 : decode cX12_cakesBy 105 = .ok (.bipush 40, 2) := by decide +kernel
theorem dX12_cakesBy_107 : decode cX12_cakesBy 107 = .ok (.iload_n 1, 1) := by decide +kernel
theorem dX12_cakesBy_108 : decode cX12_cakesBy 108 = .ok (.imul, 1) := by decide +kernel
theorem dX12_cakesBy_109 : decode cX12_cakesBy 109 = .ok (.iload 7, 2) := by decide +kernel
theorem dX12_cakesBy_111 : decode cX12_cakesBy 111 = .ok (.iadd, 1) := by decide +kernel
theorem dX12_cakesBy_112 : decode cX12_cakesBy 112 = .ok (.istore 8, 2) := by decide +kernel
theorem dX12_cakesBy_114 : decode cX12_cakesBy 114 = .ok (.iload 5, 2) := by decide +kernel
theorem dX12_cakesBy_116 : decode cX12_cakesBy 116 = .ok (.aload_n 0, 1) := by decide +kernel
theorem dX12_cakesBy_117 : decode cX12_cakesBy 117 = .ok (.aload_n 0, 1) := by decide +kernel
theorem dX12_cakesBy_118 : decode cX12_cakesBy 118 = .ok (.getfield 53, 3) := by decide +kernel
theorem dX12_cakesBy_121 : decode cX12_cakesBy 121 = .ok (.iload 8, 2) := by decide +kernel
theorem dX12_cakesBy_123 : decode cX12_cakesBy 123 = .ok (.iaload, 1) := by decide +kernel
theorem dX12_cakesBy_124 : decode cX12_cakesBy 124 = .ok (.aload_n 0, 1) := by decide +kernel
theorem dX12_cakesBy_125 : decode cX12_cakesBy 125 = .ok (.getfield 53, 3) := by decide +kernel
theorem dX12_cakesBy_128 : decode cX12_cakesBy 128 = .ok (.iload 8, 2) := by decide +kernel
theorem dX12_cakesBy_130 : decode cX12_cakesBy 130 = .ok (.iconst 1, 1) := by decide +kernel
theorem dX12_cakesBy_131 : decode cX12_cakesBy 131 = .ok (.iadd, 1) := by decide +kernel
theorem dX12_cakesBy_132 : decode cX12_cakesBy 132 = .ok (.iaload, 1) := by decide +kernel
theorem dX12_cakesBy_133 : decode cX12_cakesBy 133 = .ok (.aload_n 0, 1) := by decide +kernel
theorem dX12_cakesBy_134 : decode cX12_cakesBy 134 = .ok (.getfield 53, 3) := by decide +kernel
theorem dX12_cakesBy_137 : decode cX12_cakesBy 137 = .ok (.iload 8, 2) := by decide +kernel
theorem dX12_cakesBy_139 : decode cX12_cakesBy 139 = .ok (.iconst 2, 1) := by decide +kernel
theorem dX12_cakesBy_140 : decode cX12_cakesBy 140 = .ok (.iadd, 1) := by decide +kernel
theorem dX12_cakesBy_141 : decode cX12_cakesBy 141 = .ok (.iaload, 1) := by decide +kernel
theorem dX12_cakesBy_142 : decode cX12_cakesBy 142 = .ok (.invokevirtual 317, 3) := by decide +kernel
theorem dX12_cakesBy_145 : decode cX12_cakesBy 145 = .ok (.ifCond .lt 7, 3) := by decide +kernel
theorem dX12_cakesBy_148 : decode cX12_cakesBy 148 = .ok (.iconst 1, 1) := by decide +kernel
theorem dX12_cakesBy_149 : decode cX12_cakesBy 149 = .ok (.goto 4, 3) := by decide +kernel
theorem dX12_cakesBy_152 : decode cX12_cakesBy 152 = .ok (.iconst 0, 1) := by decide +kernel
theorem dX12_cakesBy_153 : decode cX12_cakesBy 153 = .ok (.iadd, 1) := by decide +kernel
theorem dX12_cakesBy_154 : decode cX12_cakesBy 154 = .ok (.istore 5, 2) := by decide +kernel
theorem dX12_cakesBy_156 : decode cX12_cakesBy 156 = .ok (.iinc 6 1, 3) := by decide +kernel
theorem dX12_cakesBy_159 : decode cX12_cakesBy 159 = .ok (.goto (-95), 3) := by decide +kernel
theorem dX12_cakesBy_162 : decode cX12_cakesBy 162 = .ok (.iload 5, 2) := by decide +kernel
theorem dX12_cakesBy_164 : decode cX12_cakesBy 164 = .ok (.ireturn, 1) := by decide +kernel
theorem dX12_isUnder_0 : decode cX12_isUnder 0 = .ok (.iload_n 1, 1) := by decide +kernel
theorem dX12_isUnder_1 : decode cX12_isUnder 1 = .ok (.ifCond .eq 28, 3) := by decide +kernel
theorem dX12_isUnder_4 : decode cX12_isUnder 4 = .ok (.iload_n 0, 1) := by decide +kernel
theorem dX12_isUnder_5 : decode cX12_isUnder 5 = .ok (.iload_n 1, 1) := by decide +kernel
theorem dX12_isUnder_6 : decode cX12_isUnder 6 = .ok (.if_icmp .eq 23, 3) := by decide +kernel
theorem dX12_isUnder_9 : decode cX12_isUnder 9 = .ok (.iload_n 1, 1) := by decide +kernel
theorem dX12_isUnder_10 : decode cX12_isUnder 10 = .ok (.iconst 1, 1) := by decide +kernel
theorem dX12_isUnder_11 : decode cX12_isUnder 11 = .ok (.if_icmp .ne 8, 3) := by decide +kernel
theorem dX12_isUnder_14 : decode cX12_isUnder 14 = .ok (.iload_n 0, 1) := by decide +kernel
theorem dX12_isUnder_15 : decode cX12_isUnder 15 = .ok (.iconst 3, 1) := by decide +kernel
theorem dX12_isUnder_16 : decode cX12_isUnder 16 = .ok (.if_icmp .eq 13, 3) := by decide +kernel
theorem dX12_isUnder_19 : decode cX12_isUnder 19 = .ok (.iload_n 1, 1) := by decide +kernel
theorem dX12_isUnder_20 : decode cX12_isUnder 20 = .ok (.iconst 2, 1) := by decide +kernel
theorem dX12_isUnder_21 : decode cX12_isUnder 21 = .ok (.if_icmp .ne 12, 3) := by decide +kernel
theorem dX12_isUnder_24 : decode cX12_isUnder 24 = .ok (.iload_n 0, 1) := by decide +kernel
theorem dX12_isUnder_25 : decode cX12_isUnder 25 = .ok (.iconst 4, 1) := by decide +kernel
theorem dX12_isUnder_26 : decode cX12_isUnder 26 = .ok (.if_icmp .ne 7, 3) := by decide +kernel
theorem dX12_isUnder_29 : decode cX12_isUnder 29 = .ok (.iconst 1, 1) := by decide +kernel
theorem dX12_isUnder_30 : decode cX12_isUnder 30 = .ok (.goto 4, 3) := by decide +kernel
theorem dX12_isUnder_33 : decode cX12_isUnder 33 = .ok (.iconst 0, 1) := by decide +kernel
theorem dX12_isUnder_34 : decode cX12_isUnder 34 = .ok (.ireturn, 1) := by decide +kernel
theorem dX12_taken_0 : decode cX12_taken 0 = .ok (.iload_n 2, 1) := by decide +kernel
theorem dX12_taken_1 : decode cX12_taken 1 = .ok (.iconst 0, 1) := by decide +kernel
theorem dX12_taken_2 : decode cX12_taken 2 = .ok (.bipush 6, 2) := by decide +kernel
theorem dX12_taken_4 : decode cX12_taken 4 = .ok (.invokestatic 93, 3) := by decide +kernel
theorem dX12_taken_7 : decode cX12_taken 7 = .ok (.ifCond .ne 6, 3) := by decide +kernel
theorem dX12_taken_10 : decode cX12_taken 10 = .ok (.bipush (-2), 2) := by decide +kernel
theorem dX12_taken_12 : decode cX12_taken 12 = .ok (.ireturn, 1) := by decide +kernel
theorem dX12_taken_13 : decode cX12_taken 13 = .ok (.iload_n 1, 1) := by decide +kernel
theorem dX12_taken_14 : decode cX12_taken 14 = .ok (.iconst 0, 1) := by decide +kernel
theorem dX12_taken_15 : decode cX12_taken 15 = .ok (.bipush 31, 2) := by decide +kernel
theorem dX12_taken_17 : decode cX12_taken 17 = .ok (.invokestatic 93, 3) := by decide +kernel
theorem dX12_taken_20 : decode cX12_taken 20 = .ok (.ifCond .ne 6, 3) := by decide +kernel
theorem dX12_taken_23 : decode cX12_taken 23 = .ok (.bipush (-12), 2) := by decide +kernel
theorem dX12_taken_25 : decode cX12_taken 25 = .ok (.ireturn, 1) := by decide +kernel
theorem dX12_taken_26 : decode cX12_taken 26 = .ok (.iload_n 1, 1) := by decide +kernel
theorem dX12_taken_27 : decode cX12_taken 27 = .ok (.bipush 16, 2) := by decide +kernel
theorem dX12_taken_29 : decode cX12_taken 29 = .ok (.if_icmp .lt 24, 3) := by decide +kernel
theorem dX12_taken_32 : decode cX12_taken 32 = .ok (.iload_n 2, 1) := by decide +kernel
theorem dX12_taken_33 : decode cX12_taken 33 = .ok (.bipush 6, 2) := by decide +kernel
theorem dX12_taken_35 : decode cX12_taken 35 = .ok (.if_icmp .ne 15, 3) := by decide +kernel
theorem dX12_taken_38 : decode cX12_taken 38 = .ok (.aload_n 0, 1) := by decide +kernel
theorem dX12_taken_39 : decode cX12_taken 39 = .ok (.getfield 7, 3) := by decide +kernel
theorem dX12_taken_42 : decode cX12_taken 42 = .ok (.iload_n 1, 1) := by decide +kernel
theorem dX12_taken_43 : decode cX12_taken 43 = .ok (.bipush 16, 2) := by decide +kernel
theorem dX12_taken_45 : decode cX12_taken 45 = .ok (.isub, 1) := by decide +kernel
theorem dX12_taken_46 : decode cX12_taken 46 = .ok (.iaload, 1) := by decide +kernel
theorem dX12_taken_47 : decode cX12_taken 47 = .ok (.goto 5, 3) := by decide +kernel
theorem dX12_taken_50 : decode cX12_taken 50 = .ok (.bipush (-13), 2) := by decide +kernel
theorem dX12_taken_52 : decode cX12_taken 52 = .ok (.ireturn, 1) := by decide +kernel
theorem dX12_taken_53 : decode cX12_taken 53 = .ok (.aload_n 0, 1) := by decide +kernel
theorem dX12_taken_54 : decode cX12_taken 54 = .ok (.iload_n 1, 1) := by decide +kernel
theorem dX12_taken_55 : decode cX12_taken 55 = .ok (.invokevirtual 192, 3) := by decide +kernel
theorem dX12_taken_58 : decode cX12_taken 58 = .ok (.istore_n 3, 1) := by decide +kernel
theorem dX12_taken_59 : decode cX12_taken 59 = .ok (.iload_n 3, 1) := by decide +kernel
theorem dX12_taken_60 : decode cX12_taken 60 = .ok (.iconst (-1), 1) := by decide +kernel
theorem dX12_taken_61 : decode cX12_taken 61 = .ok (.if_icmp .ne 8, 3) := by decide +kernel
theorem dX12_taken_64 : decode cX12_taken 64 = .ok (.bipush (-11), 2) := by decide +kernel
theorem dX12_taken_66 : decode cX12_taken 66 = .ok (.goto 28, 3) := by decide +kernel
theorem dX12_taken_69 : decode cX12_taken 69 = .ok (.iload_n 2, 1) := by decide +kernel
theorem dX12_taken_70 : decode cX12_taken 70 = .ok (.bipush 6, 2) := by decide +kernel
theorem dX12_taken_72 : decode cX12_taken 72 = .ok (.if_icmp .ge 20, 3) := by decide +kernel
theorem dX12_taken_75 : decode cX12_taken 75 = .ok (.aload_n 0, 1) := by decide +kernel
theorem dX12_taken_76 : decode cX12_taken 76 = .ok (.getfield 17, 3) := by decide +kernel
theorem dX12_taken_79 : decode cX12_taken 79 = .ok (.iload_n 3, 1) := by decide +kernel
theorem dX12_taken_80 : decode cX12_taken 80 = .ok (.iaload, 1) := by decide +kernel
theorem dX12_taken_81 : decode cX12_taken 81 = .ok (.iload_n 2, 1) := by decide +kernel
theorem dX12_taken_82 : decode cX12_taken 82 = .ok (.invokestatic 320, 3) := by decide +kernel
theorem dX12_taken_85 : decode cX12_taken 85 = .ok (.ifCond .eq 7, 3) := by decide +kernel
theorem dX12_taken_88 : decode cX12_taken 88 = .ok (.iload_n 3, 1) := by decide +kernel
theorem dX12_taken_89 : decode cX12_taken 89 = .ok (.goto 5, 3) := by decide +kernel
theorem dX12_taken_92 : decode cX12_taken 92 = .ok (.bipush (-13), 2) := by decide +kernel
theorem dX12_taken_94 : decode cX12_taken 94 = .ok (.ireturn, 1) := by decide +kernel
theorem dJ9_max_7cf53_0 : decode cJ9_max_7cf53 0 = .ok (.iload_n 0, 1) := by decide +kernel
theorem dJ9_max_7cf53_1 : decode cJ9_max_7cf53 1 = .ok (.iload_n 1, 1) := by decide +kernel
theorem dJ9_max_7cf53_2 : decode cJ9_max_7cf53 2 = .ok (.if_icmp .lt 7, 3) := by decide +kernel
theorem dJ9_max_7cf53_5 : decode cJ9_max_7cf53 5 = .ok (.iload_n 0, 1) := by decide +kernel
theorem dJ9_max_7cf53_6 : decode cJ9_max_7cf53 6 = .ok (.goto 4, 3) := by decide +kernel
theorem dJ9_max_7cf53_9 : decode cJ9_max_7cf53 9 = .ok (.iload_n 1, 1) := by decide +kernel
theorem dJ9_max_7cf53_10 : decode cJ9_max_7cf53 10 = .ok (.ireturn, 1) := by decide +kernel
theorem dJ9_min_7cf53_0 : decode cJ9_min_7cf53 0 = .ok (.iload_n 0, 1) := by decide +kernel
theorem dJ9_min_7cf53_1 : decode cJ9_min_7cf53 1 = .ok (.iload_n 1, 1) := by decide +kernel
theorem dJ9_min_7cf53_2 : decode cJ9_min_7cf53 2 = .ok (.if_icmp .gt 7, 3) := by decide +kernel
theorem dJ9_min_7cf53_5 : decode cJ9_min_7cf53 5 = .ok (.iload_n 0, 1) := by decide +kernel
theorem dJ9_min_7cf53_6 : decode cJ9_min_7cf53 6 = .ok (.goto 4, 3) := by decide +kernel
theorem dJ9_min_7cf53_9 : decode cJ9_min_7cf53 9 = .ok (.iload_n 1, 1) := by decide +kernel
theorem dJ9_min_7cf53_10 : decode cJ9_min_7cf53 10 = .ok (.ireturn, 1) := by decide +kernel
theorem dJ0_length_8abf5_0 : decode cJ0_length_8abf5 0 = .ok (.aload_n 0, 1) := by decide +kernel
theorem dJ0_length_8abf5_1 : decode cJ0_length_8abf5 1 = .ok (.getfield 9, 3) := by decide +kernel
theorem dJ0_length_8abf5_4 : decode cJ0_length_8abf5 4 = .ok (.arraylength, 1) := by decide +kernel
theorem dJ0_length_8abf5_5 : decode cJ0_length_8abf5 5 = .ok (.aload_n 0, 1) := by decide +kernel
theorem dJ0_length_8abf5_6 : decode cJ0_length_8abf5 6 = .ok (.invokevirtual 335, 3) := by decide +kernel
theorem dJ0_length_8abf5_9 : decode cJ0_length_8abf5 9 = .ok (.ishr, 1) := by decide +kernel
theorem dJ0_length_8abf5_10 : decode cJ0_length_8abf5 10 = .ok (.ireturn, 1) := by decide +kernel
theorem dJ0_charAt_5068e_0 : decode cJ0_charAt_5068e 0 = .ok (.aload_n 0, 1) := by decide +kernel
theorem dJ0_charAt_5068e_1 : decode cJ0_charAt_5068e 1 = .ok (.invokevirtual 492, 3) := by decide +kernel
theorem dJ0_charAt_5068e_4 : decode cJ0_charAt_5068e 4 = .ok (.ifCond .eq 12, 3) := by decide +kernel
theorem dJ0_charAt_5068e_7 : decode cJ0_charAt_5068e 7 = .ok (.aload_n 0, 1) := by decide +kernel
theorem dJ0_charAt_5068e_8 : decode cJ0_charAt_5068e 8 = .ok (.getfield 9, 3) := by decide +kernel
theorem dJ0_charAt_5068e_11 : decode cJ0_charAt_5068e 11 = .ok (.iload_n 1, 1) := by decide +kernel
theorem dJ0_charAt_5068e_12 : decode cJ0_charAt_5068e 12 = .ok (.invokestatic 495, 3) := by decide +kernel
theorem dJ0_charAt_5068e_15 : decode cJ0_charAt_5068e 15 = .ok (.ireturn, 1) := by decide +kernel
theorem dJ0_charAt_5068e_16 : decode cJ0_charAt_5068e 16 = .ok (.aload_n 0, 1) := by decide +kernel
theorem dJ0_charAt_5068e_17 : decode cJ0_charAt_5068e 17 = .ok (.getfield 9, 3) := by decide +kernel
theorem dJ0_charAt_5068e_20 : decode cJ0_charAt_5068e 20 = .ok (.iload_n 1, 1) := by decide +kernel
theorem dJ0_charAt_5068e_21 : decode cJ0_charAt_5068e 21 = .ok (.invokestatic 498, 3) := by decide +kernel
theorem dJ0_charAt_5068e_24 : decode cJ0_charAt_5068e 24 = .ok (.ireturn, 1) := by decide +kernel
theorem dJ0_coder_7d493_0 : decode cJ0_coder_7d493 0 = .ok (.getstatic 38, 3) := by decide +kernel
theorem dJ0_coder_7d493_3 : decode cJ0_coder_7d493 3 = .ok (.ifCond .eq 10, 3) := by decide +kernel
theorem dJ0_coder_7d493_6 : decode cJ0_coder_7d493 6 = .ok (.aload_n 0, 1) := by decide +kernel
theorem dJ0_coder_7d493_7 : decode cJ0_coder_7d493 7 = .ok (.getfield 15, 3) := by decide +kernel
theorem dJ0_coder_7d493_10 : decode cJ0_coder_7d493 10 = .ok (.goto 4, 3) := by decide +kernel
theorem dJ0_coder_7d493_13 : decode cJ0_coder_7d493 13 = .ok (.iconst 1, 1) := by decide +kernel
theorem dJ0_coder_7d493_14 : decode cJ0_coder_7d493 14 = .ok (.ireturn, 1) := by decide +kernel
theorem dJ0_isLatin1_aae02_0 : decode cJ0_isLatin1_aae02 0 = .ok (.getstatic 38, 3) := by decide +kernel
theorem dJ0_isLatin1_aae02_3 : decode cJ0_isLatin1_aae02 3 = .ok (.ifCond .eq 14, 3) := by decide +kernel
theorem dJ0_isLatin1_aae02_6 : decode cJ0_isLatin1_aae02 6 = .ok (.aload_n 0, 1) := by decide +kernel
theorem dJ0_isLatin1_aae02_7 : decode cJ0_isLatin1_aae02 7 = .ok (.getfield 15, 3) := by decide +kernel
theorem dJ0_isLatin1_aae02_10 : decode cJ0_isLatin1_aae02 10 = .ok (.ifCond .ne 7, 3) := by decide +kernel
theorem dJ0_isLatin1_aae02_13 : decode cJ0_isLatin1_aae02 13 = .ok (.iconst 1, 1) := by decide +kernel
theorem dJ0_isLatin1_aae02_14 : decode cJ0_isLatin1_aae02 14 = .ok (.goto 4, 3) := by decide +kernel
theorem dJ0_isLatin1_aae02_17 : decode cJ0_isLatin1_aae02 17 = .ok (.iconst 0, 1) := by decide +kernel
theorem dJ0_isLatin1_aae02_18 : decode cJ0_isLatin1_aae02 18 = .ok (.ireturn, 1) := by decide +kernel
theorem dJ0_checkIndex_df160_0 : decode cJ0_checkIndex_df160 0 = .ok (.iload_n 0, 1) := by decide +kernel
theorem dJ0_checkIndex_df160_1 : decode cJ0_checkIndex_df160 1 = .ok (.iload_n 1, 1) := by decide +kernel
theorem dJ0_checkIndex_df160_2 : decode cJ0_checkIndex_df160 2 = .ok (.getstatic 1053, 3) := by decide +kernel
theorem dJ0_checkIndex_df160_5 : decode cJ0_checkIndex_df160 5 = .ok (.invokestatic 1059, 3) := by decide +kernel
theorem dJ0_checkIndex_df160_8 : decode cJ0_checkIndex_df160 8 = .ok (.pop, 1) := by decide +kernel
theorem dJ0_checkIndex_df160_9 : decode cJ0_checkIndex_df160 9 = .ok (.return_, 1) := by decide +kernel
theorem dJ1_charAt_3b067_0 : decode cJ1_charAt_3b067 0 = .ok (.iload_n 1, 1) := by decide +kernel
theorem dJ1_charAt_3b067_1 : decode cJ1_charAt_3b067 1 = .ok (.aload_n 0, 1) := by decide +kernel
theorem dJ1_charAt_3b067_2 : decode cJ1_charAt_3b067 2 = .ok (.arraylength, 1) := by decide +kernel
theorem dJ1_charAt_3b067_3 : decode cJ1_charAt_3b067 3 = .ok (.invokestatic 9, 3) := by decide +kernel
theorem dJ1_charAt_3b067_6 : decode cJ1_charAt_3b067 6 = .ok (.aload_n 0, 1) := by decide +kernel
theorem dJ1_charAt_3b067_7 : decode cJ1_charAt_3b067 7 = .ok (.iload_n 1, 1) := by decide +kernel
theorem dJ1_charAt_3b067_8 : decode cJ1_charAt_3b067 8 = .ok (.baload, 1) := by decide +kernel
theorem dJ1_charAt_3b067_9 : decode cJ1_charAt_3b067 9 = .ok (.sipush 255, 3) := by decide +kernel
theorem dJ1_charAt_3b067_12 : decode cJ1_charAt_3b067 12 = .ok (.iand, 1) := by decide +kernel
theorem dJ1_charAt_3b067_13 : decode cJ1_charAt_3b067 13 = .ok (.i2c, 1) := by decide +kernel
theorem dJ1_charAt_3b067_14 : decode cJ1_charAt_3b067 14 = .ok (.ireturn, 1) := by decide +kernel
theorem dJ2_getChar_3b067_0 : decode cJ2_getChar_3b067 0 = .ok (.getstatic 44, 3) := by decide +kernel
theorem dJ2_getChar_3b067_3 : decode cJ2_getChar_3b067 3 = .ok (.ifCond .ne 25, 3) := by decide +kernel
theorem dJ2_getChar_3b067_6 : decode cJ2_getChar_3b067 6 = .ok (.iload_n 1, 1) := by decide +kernel
theorem dJ2_getChar_3b067_7 : decode cJ2_getChar_3b067 7 = .ok (.ifCond .lt 11, 3) := by decide +kernel
theorem dJ2_getChar_3b067_10 : decode cJ2_getChar_3b067 10 = .ok (.iload_n 1, 1) := by decide +kernel
theorem dJ2_getChar_3b067_11 : decode cJ2_getChar_3b067 11 = .ok (.aload_n 0, 1) := by decide +kernel
theorem dJ2_getChar_3b067_12 : decode cJ2_getChar_3b067 12 = .ok (.invokestatic 48, 3) := by decide +kernel
theorem dJ2_getChar_3b067_15 : decode cJ2_getChar_3b067 15 = .ok (.if_icmp .lt 13, 3) := by decide +kernel
theorem dJ2_getChar_3b067_18 : decode cJ2_getChar_3b067 18 = .ok (.new 52, 3) := by decide +kernel
theorem dJ2_getChar_3b067_21 : decode cJ2_getChar_3b067 21 = .ok (.dup, 1) := by decide +kernel
theorem dJ2_getChar_3b067_22 : decode cJ2_getChar_3b067 22 = .ok (.ldc 54, 2) := by decide +kernel
theorem dJ2_getChar_3b067_24 : decode cJ2_getChar_3b067 24 = .ok (.invokespecial 56, 3) := by decide +kernel
theorem dJ2_getChar_3b067_27 : decode cJ2_getChar_3b067 27 = .ok (.athrow, 1) := by decide +kernel
theorem dJ2_getChar_3b067_28 : decode cJ2_getChar_3b067 28 = .ok (.iload_n 1, 1) := by decide +kernel
theorem dJ2_getChar_3b067_29 : decode cJ2_getChar_3b067 29 = .ok (.iconst 1, 1) := by decide +kernel
theorem dJ2_getChar_3b067_30 : decode cJ2_getChar_3b067 30 = .ok (.ishl, 1) := by decide +kernel
theorem dJ2_getChar_3b067_31 : decode cJ2_getChar_3b067 31 = .ok (.istore_n 1, 1) := by decide +kernel
theorem dJ2_getChar_3b067_32 : decode cJ2_getChar_3b067 32 = .ok (.aload_n 0, 1) := by decide +kernel
theorem dJ2_getChar_3b067_33 : decode cJ2_getChar_3b067 33 = .ok (.iload_n 1, 1) := by decide +kernel
theorem dJ2_getChar_3b067_34 : decode cJ2_getChar_3b067 34 = .ok (.iinc 1 1, 3) := by decide +kernel
theorem dJ2_getChar_3b067_37 : decode cJ2_getChar_3b067 37 = .ok (.baload, 1) := by decide +kernel
theorem dJ2_getChar_3b067_38 : decode cJ2_getChar_3b067 38 = .ok (.sipush 255, 3) := by decide +kernel
theorem dJ2_getChar_3b067_41 : decode cJ2_getChar_3b067 41 = .ok (.iand, 1) := by decide +kernel
theorem dJ2_getChar_3b067_42 : decode cJ2_getChar_3b067 42 = .ok (.getstatic 59, 3) := by decide +kernel
theorem dJ2_getChar_3b067_45 : decode cJ2_getChar_3b067 45 = .ok (.ishl, 1) := by decide +kernel
theorem dJ2_getChar_3b067_46 : decode cJ2_getChar_3b067 46 = .ok (.aload_n 0, 1) := by decide +kernel
theorem dJ2_getChar_3b067_47 : decode cJ2_getChar_3b067 47 = .ok (.iload_n 1, 1) := by decide +kernel
theorem dJ2_getChar_3b067_48 : decode cJ2_getChar_3b067 48 = .ok (.baload, 1) := by decide +kernel
theorem dJ2_getChar_3b067_49 : decode cJ2_getChar_3b067 49 = .ok (.sipush 255, 3) := by decide +kernel
theorem dJ2_getChar_3b067_52 : decode cJ2_getChar_3b067 52 = .ok (.iand, 1) := by decide +kernel
theorem dJ2_getChar_3b067_53 : decode cJ2_getChar_3b067 53 = .ok (.getstatic 63, 3) := by decide +kernel
theorem dJ2_getChar_3b067_56 : decode cJ2_getChar_3b067 56 = .ok (.ishl, 1) := by decide +kernel
theorem dJ2_getChar_3b067_57 : decode cJ2_getChar_3b067 57 = .ok (.ior, 1) := by decide +kernel
theorem dJ2_getChar_3b067_58 : decode cJ2_getChar_3b067 58 = .ok (.i2c, 1) := by decide +kernel
theorem dJ2_getChar_3b067_59 : decode cJ2_getChar_3b067 59 = .ok (.ireturn, 1) := by decide +kernel
theorem dJ2_length_9d52b_0 : decode cJ2_length_9d52b 0 = .ok (.aload_n 0, 1) := by decide +kernel
theorem dJ2_length_9d52b_1 : decode cJ2_length_9d52b 1 = .ok (.arraylength, 1) := by decide +kernel
theorem dJ2_length_9d52b_2 : decode cJ2_length_9d52b 2 = .ok (.iconst 1, 1) := by decide +kernel
theorem dJ2_length_9d52b_3 : decode cJ2_length_9d52b 3 = .ok (.ishr, 1) := by decide +kernel
theorem dJ2_length_9d52b_4 : decode cJ2_length_9d52b 4 = .ok (.ireturn, 1) := by decide +kernel
theorem dJ2_charAt_3b067_0 : decode cJ2_charAt_3b067 0 = .ok (.iload_n 1, 1) := by decide +kernel
theorem dJ2_charAt_3b067_1 : decode cJ2_charAt_3b067 1 = .ok (.aload_n 0, 1) := by decide +kernel
theorem dJ2_charAt_3b067_2 : decode cJ2_charAt_3b067 2 = .ok (.invokestatic 67, 3) := by decide +kernel
theorem dJ2_charAt_3b067_5 : decode cJ2_charAt_3b067 5 = .ok (.aload_n 0, 1) := by decide +kernel
theorem dJ2_charAt_3b067_6 : decode cJ2_charAt_3b067 6 = .ok (.iload_n 1, 1) := by decide +kernel
theorem dJ2_charAt_3b067_7 : decode cJ2_charAt_3b067 7 = .ok (.invokestatic 71, 3) := by decide +kernel
theorem dJ2_charAt_3b067_10 : decode cJ2_charAt_3b067 10 = .ok (.ireturn, 1) := by decide +kernel
theorem dJ2_checkIndex_2214a_0 : decode cJ2_checkIndex_2214a 0 = .ok (.iload_n 0, 1) := by decide +kernel
theorem dJ2_checkIndex_2214a_1 : decode cJ2_checkIndex_2214a 1 = .ok (.aload_n 1, 1) := by decide +kernel
theorem dJ2_checkIndex_2214a_2 : decode cJ2_checkIndex_2214a 2 = .ok (.invokestatic 48, 3) := by decide +kernel
theorem dJ2_checkIndex_2214a_5 : decode cJ2_checkIndex_2214a 5 = .ok (.invokestatic 414, 3) := by decide +kernel
theorem dJ2_checkIndex_2214a_8 : decode cJ2_checkIndex_2214a 8 = .ok (.return_, 1) := by decide +kernel
theorem dJ3_checkIndex_8e157_0 : decode cJ3_checkIndex_8e157 0 = .ok (.iload_n 0, 1) := by decide +kernel
theorem dJ3_checkIndex_8e157_1 : decode cJ3_checkIndex_8e157 1 = .ok (.ifCond .lt 8, 3) := by decide +kernel
theorem dJ3_checkIndex_8e157_4 : decode cJ3_checkIndex_8e157 4 = .ok (.iload_n 0, 1) := by decide +kernel
theorem dJ3_checkIndex_8e157_5 : decode cJ3_checkIndex_8e157 5 = .ok (.iload_n 1, 1) := by decide +kernel
theorem dJ3_checkIndex_8e157_6 : decode cJ3_checkIndex_8e157 6 = .ok (.if_icmp .lt 10, 3) := by decide +kernel
theorem dJ3_checkIndex_8e157_9 : decode cJ3_checkIndex_8e157 9 = .ok (.aload_n 2, 1) := by decide +kernel
theorem dJ3_checkIndex_8e157_10 : decode cJ3_checkIndex_8e157 10 = .ok (.iload_n 0, 1) := by decide +kernel
theorem dJ3_checkIndex_8e157_11 : decode cJ3_checkIndex_8e157 11 = .ok (.iload_n 1, 1) := by decide +kernel
theorem dJ3_checkIndex_8e157_12 : decode cJ3_checkIndex_8e157 12 = .ok (.invokestatic 95, 3) := by decide +kernel
theorem dJ3_checkIndex_8e157_15 : decode cJ3_checkIndex_8e157 15 = .ok (.athrow, 1) := by decide +kernel
theorem dJ3_checkIndex_8e157_16 : decode cJ3_checkIndex_8e157 16 = .ok (.iload_n 0, 1) := by decide +kernel
theorem dJ3_checkIndex_8e157_17 : decode cJ3_checkIndex_8e157 17 = .ok (.ireturn, 1) := by decide +kernel
theorem dL_law_0 : decode cL_law 0 = .ok (.new 7, 3) := by decide +kernel
theorem dL_law_3 : decode cL_law 3 = .ok (.dup, 1) := by decide +kernel
theorem dL_law_4 : decode cL_law 4 = .ok (.invokespecial 9, 3) := by decide +kernel
theorem dL_law_7 : decode cL_law 7 = .ok (.astore_n 1, 1) := by decide +kernel
theorem dL_law_8 : decode cL_law 8 = .ok (.new 10, 3) := by decide +kernel
theorem dL_law_11 : decode cL_law 11 = .ok (.dup, 1) := by decide +kernel
theorem dL_law_12 : decode cL_law 12 = .ok (.invokespecial 12, 3) := by decide +kernel
theorem dL_law_15 : decode cL_law 15 = .ok (.astore_n 2, 1) := by decide +kernel
theorem dL_law_16 : decode cL_law 16 = .ok (.iconst 0, 1) := by decide +kernel
theorem dL_law_17 : decode cL_law 17 = .ok (.istore_n 3, 1) := by decide +kernel
theorem dL_law_18 : decode cL_law 18 = .ok (.iload_n 3, 1) := by decide +kernel
theorem dL_law_19 : decode cL_law 19 = .ok (.aload_n 0, 1) := by decide +kernel
theorem dL_law_20 : decode cL_law 20 = .ok (.arraylength, 1) := by decide +kernel
theorem dL_law_21 : decode cL_law 21 = .ok (.bipush 7, 2) := by decide +kernel
theorem dL_law_23 : decode cL_law 23 = .ok (.isub, 1) := by decide +kernel
theorem dL_law_24 : decode cL_law 24 = .ok (.if_icmp .gt 1619, 3) := by decide +kernel
theorem dL_law_27 : decode cL_law 27 = .ok (.aload_n 0, 1) := by decide +kernel
theorem dL_law_28 : decode cL_law 28 = .ok (.iload_n 3, 1) := by decide +kernel
theorem dL_law_29 : decode cL_law 29 = .ok (.iaload, 1) := by decide +kernel
theorem dL_law_30 : decode cL_law 30 = .ok (.bipush 63, 2) := by decide +kernel
theorem dL_law_32 : decode cL_law 32 = .ok (.iand, 1) := by decide +kernel
theorem dL_law_33 : decode cL_law 33 = .ok (.tableswitch 1604 0 44 #[195, 218, 261, 284, 317, 392, 405, 428, 481, 524, 557, 590, 623, 656, 669, 702, 725, 758, 791, 814, 837, 870, 883, 916, 939, 952, 965, 998, 1021, 1044, 1067, 1090, 1133, 1176, 1200, 1223, 1256, 1289, 1343, 1356, 1369, 1412, 1455, 1518, 1571], 195) := by decide +kernel
theorem dL_law_228 : decode cL_law 228 = .ok (.aload_n 1, 1) := by decide +kernel
theorem dL_law_229 : decode cL_law 229 = .ok (.aload_n 0, 1) := by decide +kernel
theorem dL_law_230 : decode cL_law 230 = .ok (.iload_n 3, 1) := by decide +kernel
theorem dL_law_231 : decode cL_law 231 = .ok (.iconst 1, 1) := by decide +kernel
theorem dL_law_232 : decode cL_law 232 = .ok (.iadd, 1) := by decide +kernel
theorem dL_law_233 : decode cL_law 233 = .ok (.iaload, 1) := by decide +kernel
theorem dL_law_234 : decode cL_law 234 = .ok (.invokevirtual 13, 3) := by decide +kernel
theorem dL_law_237 : decode cL_law 237 = .ok (.aload_n 2, 1) := by decide +kernel
theorem dL_law_238 : decode cL_law 238 = .ok (.aload_n 0, 1) := by decide +kernel
theorem dL_law_239 : decode cL_law 239 = .ok (.iload_n 3, 1) := by decide +kernel
theorem dL_law_240 : decode cL_law 240 = .ok (.iconst 1, 1) := by decide +kernel
theorem dL_law_241 : decode cL_law 241 = .ok (.iadd, 1) := by decide +kernel
theorem dL_law_242 : decode cL_law 242 = .ok (.iaload, 1) := by decide +kernel
theorem dL_law_243 : decode cL_law 243 = .ok (.invokevirtual 17, 3) := by decide +kernel
theorem dL_law_246 : decode cL_law 246 = .ok (.if_icmp .eq 1391, 3) := by decide +kernel
theorem dL_law_249 : decode cL_law 249 = .ok (.iconst 0, 1) := by decide +kernel
theorem dL_law_250 : decode cL_law 250 = .ok (.ireturn, 1) := by decide +kernel
theorem dL_law_251 : decode cL_law 251 = .ok (.aload_n 1, 1) := by decide +kernel
theorem dL_law_252 : decode cL_law 252 = .ok (.aload_n 0, 1) := by decide +kernel
theorem dL_law_253 : decode cL_law 253 = .ok (.iload_n 3, 1) := by decide +kernel
theorem dL_law_254 : decode cL_law 254 = .ok (.iconst 1, 1) := by decide +kernel
theorem dL_law_255 : decode cL_law 255 = .ok (.iadd, 1) := by decide +kernel
theorem dL_law_256 : decode cL_law 256 = .ok (.iaload, 1) := by decide +kernel
theorem dL_law_257 : decode cL_law 257 = .ok (.aload_n 0, 1) := by decide +kernel
theorem dL_law_258 : decode cL_law 258 = .ok (.iload_n 3, 1) := by decide +kernel
theorem dL_law_259 : decode cL_law 259 = .ok (.iconst 2, 1) := by decide +kernel
theorem dL_law_260 : decode cL_law 260 = .ok (.iadd, 1) := by decide +kernel
theorem dL_law_261 : decode cL_law 261 = .ok (.iaload, 1) := by decide +kernel
theorem dL_law_262 : decode cL_law 262 = .ok (.aload_n 0, 1) := by decide +kernel
theorem dL_law_263 : decode cL_law 263 = .ok (.iload_n 3, 1) := by decide +kernel
theorem dL_law_264 : decode cL_law 264 = .ok (.iconst 3, 1) := by decide +kernel
theorem dL_law_265 : decode cL_law 265 = .ok (.iadd, 1) := by decide +kernel
theorem dL_law_266 : decode cL_law 266 = .ok (.iaload, 1) := by decide +kernel
theorem dL_law_267 : decode cL_law 267 = .ok (.invokevirtual 18, 3) := by decide +kernel
theorem dL_law_270 : decode cL_law 270 = .ok (.aload_n 2, 1) := by decide +kernel
theorem dL_law_271 : decode cL_law 271 = .ok (.aload_n 0, 1) := by decide +kernel
theorem dL_law_272 : decode cL_law 272 = .ok (.iload_n 3, 1) := by decide +kernel
theorem dL_law_273 : decode cL_law 273 = .ok (.iconst 1, 1) := by decide +kernel
theorem dL_law_274 : decode cL_law 274 = .ok (.iadd, 1) := by decide +kernel
theorem dL_law_275 : decode cL_law 275 = .ok (.iaload, 1) := by decide +kernel
theorem dL_law_276 : decode cL_law 276 = .ok (.aload_n 0, 1) := by decide +kernel
theorem dL_law_277 : decode cL_law 277 = .ok (.iload_n 3, 1) := by decide +kernel
theorem dL_law_278 : decode cL_law 278 = .ok (.iconst 2, 1) := by decide +kernel
theorem dL_law_279 : decode cL_law 279 = .ok (.iadd, 1) := by decide +kernel
theorem dL_law_280 : decode cL_law 280 = .ok (.iaload, 1) := by decide +kernel
theorem dL_law_281 : decode cL_law 281 = .ok (.aload_n 0, 1) := by decide +kernel
theorem dL_law_282 : decode cL_law 282 = .ok (.iload_n 3, 1) := by decide +kernel
theorem dL_law_283 : decode cL_law 283 = .ok (.iconst 3, 1) := by decide +kernel
theorem dL_law_284 : decode cL_law 284 = .ok (.iadd, 1) := by decide +kernel
theorem dL_law_285 : decode cL_law 285 = .ok (.iaload, 1) := by decide +kernel
theorem dL_law_286 : decode cL_law 286 = .ok (.invokevirtual 22, 3) := by decide +kernel
theorem dL_law_289 : decode cL_law 289 = .ok (.if_icmp .eq 1348, 3) := by decide +kernel
theorem dL_law_292 : decode cL_law 292 = .ok (.iconst 0, 1) := by decide +kernel
theorem dL_law_293 : decode cL_law 293 = .ok (.ireturn, 1) := by decide +kernel
theorem dL_law_294 : decode cL_law 294 = .ok (.aload_n 1, 1) := by decide +kernel
theorem dL_law_295 : decode cL_law 295 = .ok (.aload_n 0, 1) := by decide +kernel
theorem dL_law_296 : decode cL_law 296 = .ok (.iload_n 3, 1) := by decide +kernel
theorem dL_law_297 : decode cL_law 297 = .ok (.iconst 1, 1) := by decide +kernel
theorem dL_law_298 : decode cL_law 298 = .ok (.iadd, 1) := by decide +kernel
theorem dL_law_299 : decode cL_law 299 = .ok (.iaload, 1) := by decide +kernel
theorem dL_law_300 : decode cL_law 300 = .ok (.invokevirtual 23, 3) := by decide +kernel
theorem dL_law_303 : decode cL_law 303 = .ok (.aload_n 2, 1) := by decide +kernel
theorem dL_law_304 : decode cL_law 304 = .ok (.aload_n 0, 1) := by decide +kernel
theorem dL_law_305 : decode cL_law 305 = .ok (.iload_n 3, 1) := by decide +kernel
theorem dL_law_306 : decode cL_law 306 = .ok (.iconst 1, 1) := by decide +kernel
theorem dL_law_307 : decode cL_law 307 = .ok (.iadd, 1) := by decide +kernel
theorem dL_law_308 : decode cL_law 308 = .ok (.iaload, 1) := by decide +kernel
theorem dL_law_309 : decode cL_law 309 = .ok (.invokevirtual 26, 3) := by decide +kernel
theorem dL_law_312 : decode cL_law 312 = .ok (.if_icmp .eq 1325, 3) := by decide +kernel
theorem dL_law_315 : decode cL_law 315 = .ok (.iconst 0, 1) := by decide +kernel
theorem dL_law_316 : decode cL_law 316 = .ok (.ireturn, 1) := by decide +kernel
theorem dL_law_317 : decode cL_law 317 = .ok (.aload_n 1, 1) := by decide +kernel
theorem dL_law_318 : decode cL_law 318 = .ok (.aload_n 0, 1) := by decide +kernel
theorem dL_law_319 : decode cL_law 319 = .ok (.iload_n 3, 1) := by decide +kernel
theorem dL_law_320 : decode cL_law 320 = .ok (.iconst 1, 1) := by decide +kernel
theorem dL_law_321 : decode cL_law 321 = .ok (.iadd, 1) := by decide +kernel
theorem dL_law_322 : decode cL_law 322 = .ok (.iaload, 1) := by decide +kernel
theorem dL_law_323 : decode cL_law 323 = .ok (.aload_n 0, 1) := by decide +kernel
theorem dL_law_324 : decode cL_law 324 = .ok (.iload_n 3, 1) := by decide +kernel
theorem dL_law_325 : decode cL_law 325 = .ok (.iconst 2, 1) := by decide +kernel
theorem dL_law_326 : decode cL_law 326 = .ok (.iadd, 1) := by decide +kernel
theorem dL_law_327 : decode cL_law 327 = .ok (.iaload, 1) := by decide +kernel
theorem dL_law_328 : decode cL_law 328 = .ok (.invokevirtual 27, 3) := by decide +kernel
theorem dL_law_331 : decode cL_law 331 = .ok (.aload_n 2, 1) := by decide +kernel
theorem dL_law_332 : decode cL_law 332 = .ok (.aload_n 0, 1) := by decide +kernel
theorem dL_law_333 : decode cL_law 333 = .ok (.iload_n 3, 1) := by decide +kernel
theorem dL_law_334 : decode cL_law 334 = .ok (.iconst 1, 1) := by decide +kernel
theorem dL_law_335 : decode cL_law 335 = .ok (.iadd, 1) := by decide +kernel
theorem dL_law_336 : decode cL_law 336 = .ok (.iaload, 1) := by decide +kernel
theorem dL_law_337 : decode cL_law 337 = .ok (.aload_n 0, 1) := by decide +kernel
theorem dL_law_338 : decode cL_law 338 = .ok (.iload_n 3, 1) := by decide +kernel
theorem dL_law_339 : decode cL_law 339 = .ok (.iconst 2, 1) := by decide +kernel
theorem dL_law_340 : decode cL_law 340 = .ok (.iadd, 1) := by decide +kernel
theorem dL_law_341 : decode cL_law 341 = .ok (.iaload, 1) := by decide +kernel
theorem dL_law_342 : decode cL_law 342 = .ok (.invokevirtual 31, 3) := by decide +kernel
theorem dL_law_345 : decode cL_law 345 = .ok (.if_icmp .eq 1292, 3) := by decide +kernel
theorem dL_law_348 : decode cL_law 348 = .ok (.iconst 0, 1) := by decide +kernel
theorem dL_law_349 : decode cL_law 349 = .ok (.ireturn, 1) := by decide +kernel
theorem dL_law_350 : decode cL_law 350 = .ok (.aload_n 1, 1) := by decide +kernel
theorem dL_law_351 : decode cL_law 351 = .ok (.aload_n 0, 1) := by decide +kernel
theorem dL_law_352 : decode cL_law 352 = .ok (.iload_n 3, 1) := by decide +kernel
theorem dL_law_353 : decode cL_law 353 = .ok (.iconst 1, 1) := by decide +kernel
theorem dL_law_354 : decode cL_law 354 = .ok (.iadd, 1) := by decide +kernel
theorem dL_law_355 : decode cL_law 355 = .ok (.iaload, 1) := by decide +kernel
theorem dL_law_356 : decode cL_law 356 = .ok (.aload_n 0, 1) := by decide +kernel
theorem dL_law_357 : decode cL_law 357 = .ok (.iload_n 3, 1) := by decide +kernel
theorem dL_law_358 : decode cL_law 358 = .ok (.iconst 2, 1) := by decide +kernel
theorem dL_law_359 : decode cL_law 359 = .ok (.iadd, 1) := by decide +kernel
theorem dL_law_360 : decode cL_law 360 = .ok (.iaload, 1) := by decide +kernel
theorem dL_law_361 : decode cL_law 361 = .ok (.aload_n 0, 1) := by decide +kernel
theorem dL_law_362 : decode cL_law 362 = .ok (.iload_n 3, 1) := by decide +kernel
theorem dL_law_363 : decode cL_law 363 = .ok (.iconst 3, 1) := by decide +kernel
theorem dL_law_364 : decode cL_law 364 = .ok (.iadd, 1) := by decide +kernel
theorem dL_law_365 : decode cL_law 365 = .ok (.iaload, 1) := by decide +kernel
theorem dL_law_366 : decode cL_law 366 = .ok (.aload_n 0, 1) := by decide +kernel
theorem dL_law_367 : decode cL_law 367 = .ok (.iload_n 3, 1) := by decide +kernel
theorem dL_law_368 : decode cL_law 368 = .ok (.iconst 4, 1) := by decide +kernel
theorem dL_law_369 : decode cL_law 369 = .ok (.iadd, 1) := by decide +kernel
theorem dL_law_370 : decode cL_law 370 = .ok (.iaload, 1) := by decide +kernel
theorem dL_law_371 : decode cL_law 371 = .ok (.aload_n 0, 1) := by decide +kernel
theorem dL_law_372 : decode cL_law 372 = .ok (.iload_n 3, 1) := by decide +kernel
theorem dL_law_373 : decode cL_law 373 = .ok (.iconst 5, 1) := by decide +kernel
theorem dL_law_374 : decode cL_law 374 = .ok (.iadd, 1) := by decide +kernel
theorem dL_law_375 : decode cL_law 375 = .ok (.iaload, 1) := by decide +kernel
theorem dL_law_376 : decode cL_law 376 = .ok (.aload_n 0, 1) := by decide +kernel
theorem dL_law_377 : decode cL_law 377 = .ok (.iload_n 3, 1) := by decide +kernel
theorem dL_law_378 : decode cL_law 378 = .ok (.bipush 6, 2) := by decide +kernel
theorem dL_law_380 : decode cL_law 380 = .ok (.iadd, 1) := by decide +kernel
theorem dL_law_381 : decode cL_law 381 = .ok (.iaload, 1) := by decide +kernel
theorem dL_law_382 : decode cL_law 382 = .ok (.invokevirtual 32, 3) := by decide +kernel
theorem dL_law_385 : decode cL_law 385 = .ok (.aload_n 2, 1) := by decide +kernel
theorem dL_law_386 : decode cL_law 386 = .ok (.aload_n 0, 1) := by decide +kernel
theorem dL_law_387 : decode cL_law 387 = .ok (.iload_n 3, 1) := by decide +kernel
theorem dL_law_388 : decode cL_law 388 = .ok (.iconst 1, 1) := by decide +kernel
theorem dL_law_389 : decode cL_law 389 = .ok (.iadd, 1) := by decide +kernel
theorem dL_law_390 : decode cL_law 390 = .ok (.iaload, 1) := by decide +kernel
theorem dL_law_391 : decode cL_law 391 = .ok (.aload_n 0, 1) := by decide +kernel
theorem dL_law_392 : decode cL_law 392 = .ok (.iload_n 3, 1) := by decide +kernel
theorem dL_law_393 : decode cL_law 393 = .ok (.iconst 2, 1) := by decide +kernel
theorem dL_law_394 : decode cL_law 394 = .ok (.iadd, 1) := by decide +kernel
theorem dL_law_395 : decode cL_law 395 = .ok (.iaload, 1) := by decide +kernel
theorem dL_law_396 : decode cL_law 396 = .ok (.aload_n 0, 1) := by decide +kernel
theorem dL_law_397 : decode cL_law 397 = .ok (.iload_n 3, 1) := by decide +kernel
theorem dL_law_398 : decode cL_law 398 = .ok (.iconst 3, 1) := by decide +kernel
theorem dL_law_399 : decode cL_law 399 = .ok (.iadd, 1) := by decide +kernel
theorem dL_law_400 : decode cL_law 400 = .ok (.iaload, 1) := by decide +kernel
theorem dL_law_401 : decode cL_law 401 = .ok (.aload_n 0, 1) := by decide +kernel
theorem dL_law_402 : decode cL_law 402 = .ok (.iload_n 3, 1) := by decide +kernel
theorem dL_law_403 : decode cL_law 403 = .ok (.iconst 4, 1) := by decide +kernel
theorem dL_law_404 : decode cL_law 404 = .ok (.iadd, 1) := by decide +kernel
theorem dL_law_405 : decode cL_law 405 = .ok (.iaload, 1) := by decide +kernel
theorem dL_law_406 : decode cL_law 406 = .ok (.aload_n 0, 1) := by decide +kernel
theorem dL_law_407 : decode cL_law 407 = .ok (.iload_n 3, 1) := by decide +kernel
theorem dL_law_408 : decode cL_law 408 = .ok (.iconst 5, 1) := by decide +kernel
theorem dL_law_409 : decode cL_law 409 = .ok (.iadd, 1) := by decide +kernel
theorem dL_law_410 : decode cL_law 410 = .ok (.iaload, 1) := by decide +kernel
theorem dL_law_411 : decode cL_law 411 = .ok (.aload_n 0, 1) := by decide +kernel
theorem dL_law_412 : decode cL_law 412 = .ok (.iload_n 3, 1) := by decide +kernel
theorem dL_law_413 : decode cL_law 413 = .ok (.bipush 6, 2) := by decide +kernel
theorem dL_law_415 : decode cL_law 415 = .ok (.iadd, 1) := by decide +kernel
theorem dL_law_416 : decode cL_law 416 = .ok (.iaload, 1) := by decide +kernel
theorem dL_law_417 : decode cL_law 417 = .ok (.invokevirtual 36, 3) := by decide +kernel
theorem dL_law_420 : decode cL_law 420 = .ok (.if_icmp .eq 1217, 3) := by decide +kernel
theorem dL_law_423 : decode cL_law 423 = .ok (.iconst 0, 1) := by decide +kernel
theorem dL_law_424 : decode cL_law 424 = .ok (.ireturn, 1) := by decide +kernel
theorem dL_law_425 : decode cL_law 425 = .ok (.aload_n 1, 1) := by decide +kernel
theorem dL_law_426 : decode cL_law 426 = .ok (.invokevirtual 37, 3) := by decide +kernel
theorem dL_law_429 : decode cL_law 429 = .ok (.aload_n 2, 1) := by decide +kernel
theorem dL_law_430 : decode cL_law 430 = .ok (.invokevirtual 41, 3) := by decide +kernel
theorem dL_law_433 : decode cL_law 433 = .ok (.if_icmp .eq 1204, 3) := by decide +kernel
theorem dL_law_436 : decode cL_law 436 = .ok (.iconst 0, 1) := by decide +kernel
theorem dL_law_437 : decode cL_law 437 = .ok (.ireturn, 1) := by decide +kernel
theorem dL_law_438 : decode cL_law 438 = .ok (.aload_n 1, 1) := by decide +kernel
theorem dL_law_439 : decode cL_law 439 = .ok (.aload_n 0, 1) := by decide +kernel
theorem dL_law_440 : decode cL_law 440 = .ok (.iload_n 3, 1) := by decide +kernel
theorem dL_law_441 : decode cL_law 441 = .ok (.iconst 1, 1) := by decide +kernel
theorem dL_law_442 : decode cL_law 442 = .ok (.iadd, 1) := by decide +kernel
theorem dL_law_443 : decode cL_law 443 = .ok (.iaload, 1) := by decide +kernel
theorem dL_law_444 : decode cL_law 444 = .ok (.invokevirtual 42, 3) := by decide +kernel
theorem dL_law_447 : decode cL_law 447 = .ok (.aload_n 2, 1) := by decide +kernel
theorem dL_law_448 : decode cL_law 448 = .ok (.aload_n 0, 1) := by decide +kernel
theorem dL_law_449 : decode cL_law 449 = .ok (.iload_n 3, 1) := by decide +kernel
theorem dL_law_450 : decode cL_law 450 = .ok (.iconst 1, 1) := by decide +kernel
theorem dL_law_451 : decode cL_law 451 = .ok (.iadd, 1) := by decide +kernel
theorem dL_law_452 : decode cL_law 452 = .ok (.iaload, 1) := by decide +kernel
theorem dL_law_453 : decode cL_law 453 = .ok (.invokevirtual 45, 3) := by decide +kernel
theorem dL_law_456 : decode cL_law 456 = .ok (.if_icmp .eq 1181, 3) := by decide +kernel
theorem dL_law_459 : decode cL_law 459 = .ok (.iconst 0, 1) := by decide +kernel
theorem dL_law_460 : decode cL_law 460 = .ok (.ireturn, 1) := by decide +kernel
theorem dL_law_461 : decode cL_law 461 = .ok (.aload_n 1, 1) := by decide +kernel
theorem dL_law_462 : decode cL_law 462 = .ok (.aload_n 0, 1) := by decide +kernel
theorem dL_law_463 : decode cL_law 463 = .ok (.iload_n 3, 1) := by decide +kernel
theorem dL_law_464 : decode cL_law 464 = .ok (.iconst 1, 1) := by decide +kernel
theorem dL_law_465 : decode cL_law 465 = .ok (.iadd, 1) := by decide +kernel
theorem dL_law_466 : decode cL_law 466 = .ok (.iaload, 1) := by decide +kernel
theorem dL_law_467 : decode cL_law 467 = .ok (.aload_n 0, 1) := by decide +kernel
theorem dL_law_468 : decode cL_law 468 = .ok (.iload_n 3, 1) := by decide +kernel
theorem dL_law_469 : decode cL_law 469 = .ok (.iconst 2, 1) := by decide +kernel
theorem dL_law_470 : decode cL_law 470 = .ok (.iadd, 1) := by decide +kernel
theorem dL_law_471 : decode cL_law 471 = .ok (.iaload, 1) := by decide +kernel
theorem dL_law_472 : decode cL_law 472 = .ok (.aload_n 0, 1) := by decide +kernel
theorem dL_law_473 : decode cL_law 473 = .ok (.iload_n 3, 1) := by decide +kernel
theorem dL_law_474 : decode cL_law 474 = .ok (.iconst 3, 1) := by decide +kernel
theorem dL_law_475 : decode cL_law 475 = .ok (.iadd, 1) := by decide +kernel
theorem dL_law_476 : decode cL_law 476 = .ok (.iaload, 1) := by decide +kernel
theorem dL_law_477 : decode cL_law 477 = .ok (.aload_n 0, 1) := by decide +kernel
theorem dL_law_478 : decode cL_law 478 = .ok (.iload_n 3, 1) := by decide +kernel
theorem dL_law_479 : decode cL_law 479 = .ok (.iconst 4, 1) := by decide +kernel
theorem dL_law_480 : decode cL_law 480 = .ok (.iadd, 1) := by decide +kernel
theorem dL_law_481 : decode cL_law 481 = .ok (.iaload, 1) := by decide +kernel
theorem dL_law_482 : decode cL_law 482 = .ok (.invokevirtual 46, 3) := by decide +kernel
theorem dL_law_485 : decode cL_law 485 = .ok (.aload_n 2, 1) := by decide +kernel
theorem dL_law_486 : decode cL_law 486 = .ok (.aload_n 0, 1) := by decide +kernel
theorem dL_law_487 : decode cL_law 487 = .ok (.iload_n 3, 1) := by decide +kernel
theorem dL_law_488 : decode cL_law 488 = .ok (.iconst 1, 1) := by decide +kernel
theorem dL_law_489 : decode cL_law 489 = .ok (.iadd, 1) := by decide +kernel
theorem dL_law_490 : decode cL_law 490 = .ok (.iaload, 1) := by decide +kernel
theorem dL_law_491 : decode cL_law 491 = .ok (.aload_n 0, 1) := by decide +kernel
theorem dL_law_492 : decode cL_law 492 = .ok (.iload_n 3, 1) := by decide +kernel
theorem dL_law_493 : decode cL_law 493 = .ok (.iconst 2, 1) := by decide +kernel
theorem dL_law_494 : decode cL_law 494 = .ok (.iadd, 1) := by decide +kernel
theorem dL_law_495 : decode cL_law 495 = .ok (.iaload, 1) := by decide +kernel
theorem dL_law_496 : decode cL_law 496 = .ok (.aload_n 0, 1) := by decide +kernel
theorem dL_law_497 : decode cL_law 497 = .ok (.iload_n 3, 1) := by decide +kernel
theorem dL_law_498 : decode cL_law 498 = .ok (.iconst 3, 1) := by decide +kernel
theorem dL_law_499 : decode cL_law 499 = .ok (.iadd, 1) := by decide +kernel
theorem dL_law_500 : decode cL_law 500 = .ok (.iaload, 1) := by decide +kernel
theorem dL_law_501 : decode cL_law 501 = .ok (.aload_n 0, 1) := by decide +kernel
theorem dL_law_502 : decode cL_law 502 = .ok (.iload_n 3, 1) := by decide +kernel
theorem dL_law_503 : decode cL_law 503 = .ok (.iconst 4, 1) := by decide +kernel
theorem dL_law_504 : decode cL_law 504 = .ok (.iadd, 1) := by decide +kernel
theorem dL_law_505 : decode cL_law 505 = .ok (.iaload, 1) := by decide +kernel
theorem dL_law_506 : decode cL_law 506 = .ok (.invokevirtual 50, 3) := by decide +kernel
theorem dL_law_509 : decode cL_law 509 = .ok (.if_icmp .eq 1128, 3) := by decide +kernel
theorem dL_law_512 : decode cL_law 512 = .ok (.iconst 0, 1) := by decide +kernel
theorem dL_law_513 : decode cL_law 513 = .ok (.ireturn, 1) := by decide +kernel
theorem dL_law_514 : decode cL_law 514 = .ok (.aload_n 1, 1) := by decide +kernel
theorem dL_law_515 : decode cL_law 515 = .ok (.aload_n 0, 1) := by decide +kernel
theorem dL_law_516 : decode cL_law 516 = .ok (.iload_n 3, 1) := by decide +kernel
theorem dL_law_517 : decode cL_law 517 = .ok (.iconst 1, 1) := by decide +kernel
theorem dL_law_518 : decode cL_law 518 = .ok (.iadd, 1) := by decide +kernel
theorem dL_law_519 : decode cL_law 519 = .ok (.iaload, 1) := by decide +kernel
theorem dL_law_520 : decode cL_law 520 = .ok (.aload_n 0, 1) := by decide +kernel
theorem dL_law_521 : decode cL_law 521 = .ok (.iload_n 3, 1) := by decide +kernel
theorem dL_law_522 : decode cL_law 522 = .ok (.iconst 2, 1) := by decide +kernel
theorem dL_law_523 : decode cL_law 523 = .ok (.iadd, 1) := by decide +kernel
theorem dL_law_524 : decode cL_law 524 = .ok (.iaload, 1) := by decide +kernel
theorem dL_law_525 : decode cL_law 525 = .ok (.aload_n 0, 1) := by decide +kernel
theorem dL_law_526 : decode cL_law 526 = .ok (.iload_n 3, 1) := by decide +kernel
theorem dL_law_527 : decode cL_law 527 = .ok (.iconst 3, 1) := by decide +kernel
theorem dL_law_528 : decode cL_law 528 = .ok (.iadd, 1) := by decide +kernel
theorem dL_law_529 : decode cL_law 529 = .ok (.iaload, 1) := by decide +kernel
theorem dL_law_530 : decode cL_law 530 = .ok (.invokevirtual 51, 3) := by decide +kernel
theorem dL_law_533 : decode cL_law 533 = .ok (.aload_n 2, 1) := by decide +kernel
theorem dL_law_534 : decode cL_law 534 = .ok (.aload_n 0, 1) := by decide +kernel
theorem dL_law_535 : decode cL_law 535 = .ok (.iload_n 3, 1) := by decide +kernel
theorem dL_law_536 : decode cL_law 536 = .ok (.iconst 1, 1) := by decide +kernel
theorem dL_law_537 : decode cL_law 537 = .ok (.iadd, 1) := by decide +kernel
theorem dL_law_538 : decode cL_law 538 = .ok (.iaload, 1) := by decide +kernel
theorem dL_law_539 : decode cL_law 539 = .ok (.aload_n 0, 1) := by decide +kernel
theorem dL_law_540 : decode cL_law 540 = .ok (.iload_n 3, 1) := by decide +kernel
theorem dL_law_541 : decode cL_law 541 = .ok (.iconst 2, 1) := by decide +kernel
theorem dL_law_542 : decode cL_law 542 = .ok (.iadd, 1) := by decide +kernel
theorem dL_law_543 : decode cL_law 543 = .ok (.iaload, 1) := by decide +kernel
theorem dL_law_544 : decode cL_law 544 = .ok (.aload_n 0, 1) := by decide +kernel
theorem dL_law_545 : decode cL_law 545 = .ok (.iload_n 3, 1) := by decide +kernel
theorem dL_law_546 : decode cL_law 546 = .ok (.iconst 3, 1) := by decide +kernel
theorem dL_law_547 : decode cL_law 547 = .ok (.iadd, 1) := by decide +kernel
theorem dL_law_548 : decode cL_law 548 = .ok (.iaload, 1) := by decide +kernel
theorem dL_law_549 : decode cL_law 549 = .ok (.invokevirtual 54, 3) := by decide +kernel
theorem dL_law_552 : decode cL_law 552 = .ok (.if_icmp .eq 1085, 3) := by decide +kernel
theorem dL_law_555 : decode cL_law 555 = .ok (.iconst 0, 1) := by decide +kernel
theorem dL_law_556 : decode cL_law 556 = .ok (.ireturn, 1) := by decide +kernel
theorem dL_law_557 : decode cL_law 557 = .ok (.aload_n 1, 1) := by decide +kernel
theorem dL_law_558 : decode cL_law 558 = .ok (.aload_n 0, 1) := by decide +kernel
theorem dL_law_559 : decode cL_law 559 = .ok (.iload_n 3, 1) := by decide +kernel
theorem dL_law_560 : decode cL_law 560 = .ok (.iconst 1, 1) := by decide +kernel
theorem dL_law_561 : decode cL_law 561 = .ok (.iadd, 1) := by decide +kernel
theorem dL_law_562 : decode cL_law 562 = .ok (.iaload, 1) := by decide +kernel
theorem dL_law_563 : decode cL_law 563 = .ok (.aload_n 0, 1) := by decide +kernel
theorem dL_law_564 : decode cL_law 564 = .ok (.iload_n 3, 1) := by decide +kernel
theorem dL_law_565 : decode cL_law 565 = .ok (.iconst 2, 1) := by decide +kernel
theorem dL_law_566 : decode cL_law 566 = .ok (.iadd, 1) := by decide +kernel
theorem dL_law_567 : decode cL_law 567 = .ok (.iaload, 1) := by decide +kernel
theorem dL_law_568 : decode cL_law 568 = .ok (.invokevirtual 55, 3) := by decide +kernel
theorem dL_law_571 : decode cL_law 571 = .ok (.aload_n 2, 1) := by decide +kernel
theorem dL_law_572 : decode cL_law 572 = .ok (.aload_n 0, 1) := by decide +kernel
theorem dL_law_573 : decode cL_law 573 = .ok (.iload_n 3, 1) := by decide +kernel
theorem dL_law_574 : decode cL_law 574 = .ok (.iconst 1, 1) := by decide +kernel
theorem dL_law_575 : decode cL_law 575 = .ok (.iadd, 1) := by decide +kernel
theorem dL_law_576 : decode cL_law 576 = .ok (.iaload, 1) := by decide +kernel
theorem dL_law_577 : decode cL_law 577 = .ok (.aload_n 0, 1) := by decide +kernel
theorem dL_law_578 : decode cL_law 578 = .ok (.iload_n 3, 1) := by decide +kernel
theorem dL_law_579 : decode cL_law 579 = .ok (.iconst 2, 1) := by decide +kernel
theorem dL_law_580 : decode cL_law 580 = .ok (.iadd, 1) := by decide +kernel
theorem dL_law_581 : decode cL_law 581 = .ok (.iaload, 1) := by decide +kernel
theorem dL_law_582 : decode cL_law 582 = .ok (.invokevirtual 58, 3) := by decide +kernel
theorem dL_law_585 : decode cL_law 585 = .ok (.if_icmp .eq 1052, 3) := by decide +kernel
theorem dL_law_588 : decode cL_law 588 = .ok (.iconst 0, 1) := by decide +kernel
theorem dL_law_589 : decode cL_law 589 = .ok (.ireturn, 1) := by decide +kernel
theorem dL_law_590 : decode cL_law 590 = .ok (.aload_n 1, 1) := by decide +kernel
theorem dL_law_591 : decode cL_law 591 = .ok (.aload_n 0, 1) := by decide +kernel
theorem dL_law_592 : decode cL_law 592 = .ok (.iload_n 3, 1) := by decide +kernel
theorem dL_law_593 : decode cL_law 593 = .ok (.iconst 1, 1) := by decide +kernel
theorem dL_law_594 : decode cL_law 594 = .ok (.iadd, 1) := by decide +kernel
theorem dL_law_595 : decode cL_law 595 = .ok (.iaload, 1) := by decide +kernel
theorem dL_law_596 : decode cL_law 596 = .ok (.aload_n 0, 1) := by decide +kernel
theorem dL_law_597 : decode cL_law 597 = .ok (.iload_n 3, 1) := by decide +kernel
theorem dL_law_598 : decode cL_law 598 = .ok (.iconst 2, 1) := by decide +kernel
theorem dL_law_599 : decode cL_law 599 = .ok (.iadd, 1) := by decide +kernel
theorem dL_law_600 : decode cL_law 600 = .ok (.iaload, 1) := by decide +kernel
theorem dL_law_601 : decode cL_law 601 = .ok (.invokevirtual 59, 3) := by decide +kernel
theorem dL_law_604 : decode cL_law 604 = .ok (.aload_n 2, 1) := by decide +kernel
theorem dL_law_605 : decode cL_law 605 = .ok (.aload_n 0, 1) := by decide +kernel
theorem dL_law_606 : decode cL_law 606 = .ok (.iload_n 3, 1) := by decide +kernel
theorem dL_law_607 : decode cL_law 607 = .ok (.iconst 1, 1) := by decide +kernel
theorem dL_law_608 : decode cL_law 608 = .ok (.iadd, 1) := by decide +kernel
theorem dL_law_609 : decode cL_law 609 = .ok (.iaload, 1) := by decide +kernel
theorem dL_law_610 : decode cL_law 610 = .ok (.aload_n 0, 1) := by decide +kernel
theorem dL_law_611 : decode cL_law 611 = .ok (.iload_n 3, 1) := by decide +kernel
theorem dL_law_612 : decode cL_law 612 = .ok (.iconst 2, 1) := by decide +kernel
theorem dL_law_613 : decode cL_law 613 = .ok (.iadd, 1) := by decide +kernel
theorem dL_law_614 : decode cL_law 614 = .ok (.iaload, 1) := by decide +kernel
theorem dL_law_615 : decode cL_law 615 = .ok (.invokevirtual 62, 3) := by decide +kernel
theorem dL_law_618 : decode cL_law 618 = .ok (.if_icmp .eq 1019, 3) := by decide +kernel
theorem dL_law_621 : decode cL_law 621 = .ok (.iconst 0, 1) := by decide +kernel
theorem dL_law_622 : decode cL_law 622 = .ok (.ireturn, 1) := by decide +kernel
theorem dL_law_623 : decode cL_law 623 = .ok (.aload_n 1, 1) := by decide +kernel
theorem dL_law_624 : decode cL_law 624 = .ok (.aload_n 0, 1) := by decide +kernel
theorem dL_law_625 : decode cL_law 625 = .ok (.iload_n 3, 1) := by decide +kernel
theorem dL_law_626 : decode cL_law 626 = .ok (.iconst 1, 1) := by decide +kernel
theorem dL_law_627 : decode cL_law 627 = .ok (.iadd, 1) := by decide +kernel
theorem dL_law_628 : decode cL_law 628 = .ok (.iaload, 1) := by decide +kernel
theorem dL_law_629 : decode cL_law 629 = .ok (.aload_n 0, 1) := by decide +kernel
theorem dL_law_630 : decode cL_law 630 = .ok (.iload_n 3, 1) := by decide +kernel
theorem dL_law_631 : decode cL_law 631 = .ok (.iconst 2, 1) := by decide +kernel
theorem dL_law_632 : decode cL_law 632 = .ok (.iadd, 1) := by decide +kernel
theorem dL_law_633 : decode cL_law 633 = .ok (.iaload, 1) := by decide +kernel
theorem dL_law_634 : decode cL_law 634 = .ok (.invokevirtual 63, 3) := by decide +kernel
theorem dL_law_637 : decode cL_law 637 = .ok (.aload_n 2, 1) := by decide +kernel
theorem dL_law_638 : decode cL_law 638 = .ok (.aload_n 0, 1) := by decide +kernel
theorem dL_law_639 : decode cL_law 639 = .ok (.iload_n 3, 1) := by decide +kernel
theorem dL_law_640 : decode cL_law 640 = .ok (.iconst 1, 1) := by decide +kernel
theorem dL_law_641 : decode cL_law 641 = .ok (.iadd, 1) := by decide +kernel
theorem dL_law_642 : decode cL_law 642 = .ok (.iaload, 1) := by decide +kernel
theorem dL_law_643 : decode cL_law 643 = .ok (.aload_n 0, 1) := by decide +kernel
theorem dL_law_644 : decode cL_law 644 = .ok (.iload_n 3, 1) := by decide +kernel
theorem dL_law_645 : decode cL_law 645 = .ok (.iconst 2, 1) := by decide +kernel
theorem dL_law_646 : decode cL_law 646 = .ok (.iadd, 1) := by decide +kernel
theorem dL_law_647 : decode cL_law 647 = .ok (.iaload, 1) := by decide +kernel
theorem dL_law_648 : decode cL_law 648 = .ok (.invokevirtual 66, 3) := by decide +kernel
theorem dL_law_651 : decode cL_law 651 = .ok (.if_icmp .eq 986, 3) := by decide +kernel
theorem dL_law_654 : decode cL_law 654 = .ok (.iconst 0, 1) := by decide +kernel
theorem dL_law_655 : decode cL_law 655 = .ok (.ireturn, 1) := by decide +kernel
theorem dL_law_656 : decode cL_law 656 = .ok (.aload_n 1, 1) := by decide +kernel
theorem dL_law_657 : decode cL_law 657 = .ok (.aload_n 0, 1) := by decide +kernel
theorem dL_law_658 : decode cL_law 658 = .ok (.iload_n 3, 1) := by decide +kernel
theorem dL_law_659 : decode cL_law 659 = .ok (.iconst 1, 1) := by decide +kernel
theorem dL_law_660 : decode cL_law 660 = .ok (.iadd, 1) := by decide +kernel
theorem dL_law_661 : decode cL_law 661 = .ok (.iaload, 1) := by decide +kernel
theorem dL_law_662 : decode cL_law 662 = .ok (.aload_n 0, 1) := by decide +kernel
theorem dL_law_663 : decode cL_law 663 = .ok (.iload_n 3, 1) := by decide +kernel
theorem dL_law_664 : decode cL_law 664 = .ok (.iconst 2, 1) := by decide +kernel
theorem dL_law_665 : decode cL_law 665 = .ok (.iadd, 1) := by decide +kernel
theorem dL_law_666 : decode cL_law 666 = .ok (.iaload, 1) := by decide +kernel
theorem dL_law_667 : decode cL_law 667 = .ok (.invokevirtual 67, 3) := by decide +kernel
theorem dL_law_670 : decode cL_law 670 = .ok (.aload_n 2, 1) := by decide +kernel
theorem dL_law_671 : decode cL_law 671 = .ok (.aload_n 0, 1) := by decide +kernel
theorem dL_law_672 : decode cL_law 672 = .ok (.iload_n 3, 1) := by decide +kernel
theorem dL_law_673 : decode cL_law 673 = .ok (.iconst 1, 1) := by decide +kernel
theorem dL_law_674 : decode cL_law 674 = .ok (.iadd, 1) := by decide +kernel
theorem dL_law_675 : decode cL_law 675 = .ok (.iaload, 1) := by decide +kernel
theorem dL_law_676 : decode cL_law 676 = .ok (.aload_n 0, 1) := by decide +kernel
theorem dL_law_677 : decode cL_law 677 = .ok (.iload_n 3, 1) := by decide +kernel
theorem dL_law_678 : decode cL_law 678 = .ok (.iconst 2, 1) := by decide +kernel
theorem dL_law_679 : decode cL_law 679 = .ok (.iadd, 1) := by decide +kernel
theorem dL_law_680 : decode cL_law 680 = .ok (.iaload, 1) := by decide +kernel
theorem dL_law_681 : decode cL_law 681 = .ok (.invokevirtual 70, 3) := by decide +kernel
theorem dL_law_684 : decode cL_law 684 = .ok (.if_icmp .eq 953, 3) := by decide +kernel
theorem dL_law_687 : decode cL_law 687 = .ok (.iconst 0, 1) := by decide +kernel
theorem dL_law_688 : decode cL_law 688 = .ok (.ireturn, 1) := by decide +kernel
theorem dL_law_689 : decode cL_law 689 = .ok (.aload_n 1, 1) := by decide +kernel
theorem dL_law_690 : decode cL_law 690 = .ok (.invokevirtual 71, 3) := by decide +kernel
theorem dL_law_693 : decode cL_law 693 = .ok (.aload_n 2, 1) := by decide +kernel
theorem dL_law_694 : decode cL_law 694 = .ok (.invokevirtual 74, 3) := by decide +kernel
theorem dL_law_697 : decode cL_law 697 = .ok (.if_icmp .eq 940, 3) := by decide +kernel
theorem dL_law_700 : decode cL_law 700 = .ok (.iconst 0, 1) := by decide +kernel
theorem dL_law_701 : decode cL_law 701 = .ok (.ireturn, 1) := by decide +kernel
theorem dL_law_702 : decode cL_law 702 = .ok (.aload_n 1, 1) := by decide +kernel
theorem dL_law_703 : decode cL_law 703 = .ok (.aload_n 0, 1) := by decide +kernel
theorem dL_law_704 : decode cL_law 704 = .ok (.iload_n 3, 1) := by decide +kernel
theorem dL_law_705 : decode cL_law 705 = .ok (.iconst 1, 1) := by decide +kernel
theorem dL_law_706 : decode cL_law 706 = .ok (.iadd, 1) := by decide +kernel
theorem dL_law_707 : decode cL_law 707 = .ok (.iaload, 1) := by decide +kernel
theorem dL_law_708 : decode cL_law 708 = .ok (.aload_n 0, 1) := by decide +kernel
theorem dL_law_709 : decode cL_law 709 = .ok (.iload_n 3, 1) := by decide +kernel
theorem dL_law_710 : decode cL_law 710 = .ok (.iconst 2, 1) := by decide +kernel
theorem dL_law_711 : decode cL_law 711 = .ok (.iadd, 1) := by decide +kernel
theorem dL_law_712 : decode cL_law 712 = .ok (.iaload, 1) := by decide +kernel
theorem dL_law_713 : decode cL_law 713 = .ok (.invokevirtual 75, 3) := by decide +kernel
theorem dL_law_716 : decode cL_law 716 = .ok (.aload_n 2, 1) := by decide +kernel
theorem dL_law_717 : decode cL_law 717 = .ok (.aload_n 0, 1) := by decide +kernel
theorem dL_law_718 : decode cL_law 718 = .ok (.iload_n 3, 1) := by decide +kernel
theorem dL_law_719 : decode cL_law 719 = .ok (.iconst 1, 1) := by decide +kernel
theorem dL_law_720 : decode cL_law 720 = .ok (.iadd, 1) := by decide +kernel
theorem dL_law_721 : decode cL_law 721 = .ok (.iaload, 1) := by decide +kernel
theorem dL_law_722 : decode cL_law 722 = .ok (.aload_n 0, 1) := by decide +kernel
theorem dL_law_723 : decode cL_law 723 = .ok (.iload_n 3, 1) := by decide +kernel
theorem dL_law_724 : decode cL_law 724 = .ok (.iconst 2, 1) := by decide +kernel
theorem dL_law_725 : decode cL_law 725 = .ok (.iadd, 1) := by decide +kernel
theorem dL_law_726 : decode cL_law 726 = .ok (.iaload, 1) := by decide +kernel
theorem dL_law_727 : decode cL_law 727 = .ok (.invokevirtual 78, 3) := by decide +kernel
theorem dL_law_730 : decode cL_law 730 = .ok (.if_icmp .eq 907, 3) := by decide +kernel
theorem dL_law_733 : decode cL_law 733 = .ok (.iconst 0, 1) := by decide +kernel
theorem dL_law_734 : decode cL_law 734 = .ok (.ireturn, 1) := by decide +kernel
theorem dL_law_735 : decode cL_law 735 = .ok (.aload_n 1, 1) := by decide +kernel
theorem dL_law_736 : decode cL_law 736 = .ok (.aload_n 0, 1) := by decide +kernel
theorem dL_law_737 : decode cL_law 737 = .ok (.iload_n 3, 1) := by decide +kernel
theorem dL_law_738 : decode cL_law 738 = .ok (.iconst 1, 1) := by decide +kernel
theorem dL_law_739 : decode cL_law 739 = .ok (.iadd, 1) := by decide +kernel
theorem dL_law_740 : decode cL_law 740 = .ok (.iaload, 1) := by decide +kernel
theorem dL_law_741 : decode cL_law 741 = .ok (.invokevirtual 79, 3) := by decide +kernel
theorem dL_law_744 : decode cL_law 744 = .ok (.aload_n 2, 1) := by decide +kernel
theorem dL_law_745 : decode cL_law 745 = .ok (.aload_n 0, 1) := by decide +kernel
theorem dL_law_746 : decode cL_law 746 = .ok (.iload_n 3, 1) := by decide +kernel
theorem dL_law_747 : decode cL_law 747 = .ok (.iconst 1, 1) := by decide +kernel
theorem dL_law_748 : decode cL_law 748 = .ok (.iadd, 1) := by decide +kernel
theorem dL_law_749 : decode cL_law 749 = .ok (.iaload, 1) := by decide +kernel
theorem dL_law_750 : decode cL_law 750 = .ok (.invokevirtual 82, 3) := by decide +kernel
theorem dL_law_753 : decode cL_law 753 = .ok (.if_icmp .eq 884, 3) := by decide +kernel
theorem dL_law_756 : decode cL_law 756 = .ok (.iconst 0, 1) := by decide +kernel
theorem dL_law_757 : decode cL_law 757 = .ok (.ireturn, 1) := by decide +kernel
theorem dL_law_758 : decode cL_law 758 = .ok (.aload_n 1, 1) := by decide +kernel
theorem dL_law_759 : decode cL_law 759 = .ok (.aload_n 0, 1) := by decide +kernel
theorem dL_law_760 : decode cL_law 760 = .ok (.iload_n 3, 1) := by decide +kernel
theorem dL_law_761 : decode cL_law 761 = .ok (.iconst 1, 1) := by decide +kernel
theorem dL_law_762 : decode cL_law 762 = .ok (.iadd, 1) := by decide +kernel
theorem dL_law_763 : decode cL_law 763 = .ok (.iaload, 1) := by decide +kernel
theorem dL_law_764 : decode cL_law 764 = .ok (.aload_n 0, 1) := by decide +kernel
theorem dL_law_765 : decode cL_law 765 = .ok (.iload_n 3, 1) := by decide +kernel
theorem dL_law_766 : decode cL_law 766 = .ok (.iconst 2, 1) := by decide +kernel
theorem dL_law_767 : decode cL_law 767 = .ok (.iadd, 1) := by decide +kernel
theorem dL_law_768 : decode cL_law 768 = .ok (.iaload, 1) := by decide +kernel
theorem dL_law_769 : decode cL_law 769 = .ok (.invokevirtual 83, 3) := by decide +kernel
theorem dL_law_772 : decode cL_law 772 = .ok (.aload_n 2, 1) := by decide +kernel
theorem dL_law_773 : decode cL_law 773 = .ok (.aload_n 0, 1) := by decide +kernel
theorem dL_law_774 : decode cL_law 774 = .ok (.iload_n 3, 1) := by decide +kernel
theorem dL_law_775 : decode cL_law 775 = .ok (.iconst 1, 1) := by decide +kernel
theorem dL_law_776 : decode cL_law 776 = .ok (.iadd, 1) := by decide +kernel
theorem dL_law_777 : decode cL_law 777 = .ok (.iaload, 1) := by decide +kernel
theorem dL_law_778 : decode cL_law 778 = .ok (.aload_n 0, 1) := by decide +kernel
theorem dL_law_779 : decode cL_law 779 = .ok (.iload_n 3, 1) := by decide +kernel
theorem dL_law_780 : decode cL_law 780 = .ok (.iconst 2, 1) := by decide +kernel
theorem dL_law_781 : decode cL_law 781 = .ok (.iadd, 1) := by decide +kernel
theorem dL_law_782 : decode cL_law 782 = .ok (.iaload, 1) := by decide +kernel
theorem dL_law_783 : decode cL_law 783 = .ok (.invokevirtual 86, 3) := by decide +kernel
theorem dL_law_786 : decode cL_law 786 = .ok (.if_icmp .eq 851, 3) := by decide +kernel
theorem dL_law_789 : decode cL_law 789 = .ok (.iconst 0, 1) := by decide +kernel
theorem dL_law_790 : decode cL_law 790 = .ok (.ireturn, 1) := by decide +kernel
theorem dL_law_791 : decode cL_law 791 = .ok (.aload_n 1, 1) := by decide +kernel
theorem dL_law_792 : decode cL_law 792 = .ok (.aload_n 0, 1) := by decide +kernel
theorem dL_law_793 : decode cL_law 793 = .ok (.iload_n 3, 1) := by decide +kernel
theorem dL_law_794 : decode cL_law 794 = .ok (.iconst 1, 1) := by decide +kernel
theorem dL_law_795 : decode cL_law 795 = .ok (.iadd, 1) := by decide +kernel
theorem dL_law_796 : decode cL_law 796 = .ok (.iaload, 1) := by decide +kernel
theorem dL_law_797 : decode cL_law 797 = .ok (.aload_n 0, 1) := by decide +kernel
theorem dL_law_798 : decode cL_law 798 = .ok (.iload_n 3, 1) := by decide +kernel
theorem dL_law_799 : decode cL_law 799 = .ok (.iconst 2, 1) := by decide +kernel
theorem dL_law_800 : decode cL_law 800 = .ok (.iadd, 1) := by decide +kernel
theorem dL_law_801 : decode cL_law 801 = .ok (.iaload, 1) := by decide +kernel
theorem dL_law_802 : decode cL_law 802 = .ok (.invokevirtual 87, 3) := by decide +kernel
theorem dL_law_805 : decode cL_law 805 = .ok (.aload_n 2, 1) := by decide +kernel
theorem dL_law_806 : decode cL_law 806 = .ok (.aload_n 0, 1) := by decide +kernel
theorem dL_law_807 : decode cL_law 807 = .ok (.iload_n 3, 1) := by decide +kernel
theorem dL_law_808 : decode cL_law 808 = .ok (.iconst 1, 1) := by decide +kernel
theorem dL_law_809 : decode cL_law 809 = .ok (.iadd, 1) := by decide +kernel
theorem dL_law_810 : decode cL_law 810 = .ok (.iaload, 1) := by decide +kernel
theorem dL_law_811 : decode cL_law 811 = .ok (.aload_n 0, 1) := by decide +kernel
theorem dL_law_812 : decode cL_law 812 = .ok (.iload_n 3, 1) := by decide +kernel
theorem dL_law_813 : decode cL_law 813 = .ok (.iconst 2, 1) := by decide +kernel
theorem dL_law_814 : decode cL_law 814 = .ok (.iadd, 1) := by decide +kernel
theorem dL_law_815 : decode cL_law 815 = .ok (.iaload, 1) := by decide +kernel
theorem dL_law_816 : decode cL_law 816 = .ok (.invokevirtual 90, 3) := by decide +kernel
theorem dL_law_819 : decode cL_law 819 = .ok (.if_icmp .eq 818, 3) := by decide +kernel
theorem dL_law_822 : decode cL_law 822 = .ok (.iconst 0, 1) := by decide +kernel
theorem dL_law_823 : decode cL_law 823 = .ok (.ireturn, 1) := by decide +kernel
theorem dL_law_824 : decode cL_law 824 = .ok (.aload_n 1, 1) := by decide +kernel
theorem dL_law_825 : decode cL_law 825 = .ok (.aload_n 0, 1) := by decide +kernel
theorem dL_law_826 : decode cL_law 826 = .ok (.iload_n 3, 1) := by decide +kernel
theorem dL_law_827 : decode cL_law 827 = .ok (.iconst 1, 1) := by decide +kernel
theorem dL_law_828 : decode cL_law 828 = .ok (.iadd, 1) := by decide +kernel
theorem dL_law_829 : decode cL_law 829 = .ok (.iaload, 1) := by decide +kernel
theorem dL_law_830 : decode cL_law 830 = .ok (.invokevirtual 91, 3) := by decide +kernel
theorem dL_law_833 : decode cL_law 833 = .ok (.aload_n 2, 1) := by decide +kernel
theorem dL_law_834 : decode cL_law 834 = .ok (.aload_n 0, 1) := by decide +kernel
theorem dL_law_835 : decode cL_law 835 = .ok (.iload_n 3, 1) := by decide +kernel
theorem dL_law_836 : decode cL_law 836 = .ok (.iconst 1, 1) := by decide +kernel
theorem dL_law_837 : decode cL_law 837 = .ok (.iadd, 1) := by decide +kernel
theorem dL_law_838 : decode cL_law 838 = .ok (.iaload, 1) := by decide +kernel
theorem dL_law_839 : decode cL_law 839 = .ok (.invokevirtual 94, 3) := by decide +kernel
theorem dL_law_842 : decode cL_law 842 = .ok (.if_icmp .eq 795, 3) := by decide +kernel
theorem dL_law_845 : decode cL_law 845 = .ok (.iconst 0, 1) := by decide +kernel
theorem dL_law_846 : decode cL_law 846 = .ok (.ireturn, 1) := by decide +kernel
theorem dL_law_847 : decode cL_law 847 = .ok (.aload_n 1, 1) := by decide +kernel
theorem dL_law_848 : decode cL_law 848 = .ok (.aload_n 0, 1) := by decide +kernel
theorem dL_law_849 : decode cL_law 849 = .ok (.iload_n 3, 1) := by decide +kernel
theorem dL_law_850 : decode cL_law 850 = .ok (.iconst 1, 1) := by decide +kernel
theorem dL_law_851 : decode cL_law 851 = .ok (.iadd, 1) := by decide +kernel
theorem dL_law_852 : decode cL_law 852 = .ok (.iaload, 1) := by decide +kernel
theorem dL_law_853 : decode cL_law 853 = .ok (.invokevirtual 95, 3) := by decide +kernel
theorem dL_law_856 : decode cL_law 856 = .ok (.aload_n 2, 1) := by decide +kernel
theorem dL_law_857 : decode cL_law 857 = .ok (.aload_n 0, 1) := by decide +kernel
theorem dL_law_858 : decode cL_law 858 = .ok (.iload_n 3, 1) := by decide +kernel
theorem dL_law_859 : decode cL_law 859 = .ok (.iconst 1, 1) := by decide +kernel
theorem dL_law_860 : decode cL_law 860 = .ok (.iadd, 1) := by decide +kernel
theorem dL_law_861 : decode cL_law 861 = .ok (.iaload, 1) := by decide +kernel
theorem dL_law_862 : decode cL_law 862 = .ok (.invokevirtual 98, 3) := by decide +kernel
theorem dL_law_865 : decode cL_law 865 = .ok (.if_icmp .eq 772, 3) := by decide +kernel
theorem dL_law_868 : decode cL_law 868 = .ok (.iconst 0, 1) := by decide +kernel
theorem dL_law_869 : decode cL_law 869 = .ok (.ireturn, 1) := by decide +kernel
theorem dL_law_870 : decode cL_law 870 = .ok (.aload_n 1, 1) := by decide +kernel
theorem dL_law_871 : decode cL_law 871 = .ok (.aload_n 0, 1) := by decide +kernel
theorem dL_law_872 : decode cL_law 872 = .ok (.iload_n 3, 1) := by decide +kernel
theorem dL_law_873 : decode cL_law 873 = .ok (.iconst 1, 1) := by decide +kernel
theorem dL_law_874 : decode cL_law 874 = .ok (.iadd, 1) := by decide +kernel
theorem dL_law_875 : decode cL_law 875 = .ok (.iaload, 1) := by decide +kernel
theorem dL_law_876 : decode cL_law 876 = .ok (.aload_n 0, 1) := by decide +kernel
theorem dL_law_877 : decode cL_law 877 = .ok (.iload_n 3, 1) := by decide +kernel
theorem dL_law_878 : decode cL_law 878 = .ok (.iconst 2, 1) := by decide +kernel
theorem dL_law_879 : decode cL_law 879 = .ok (.iadd, 1) := by decide +kernel
theorem dL_law_880 : decode cL_law 880 = .ok (.iaload, 1) := by decide +kernel
theorem dL_law_881 : decode cL_law 881 = .ok (.invokevirtual 99, 3) := by decide +kernel
theorem dL_law_884 : decode cL_law 884 = .ok (.aload_n 2, 1) := by decide +kernel
theorem dL_law_885 : decode cL_law 885 = .ok (.aload_n 0, 1) := by decide +kernel
theorem dL_law_886 : decode cL_law 886 = .ok (.iload_n 3, 1) := by decide +kernel
theorem dL_law_887 : decode cL_law 887 = .ok (.iconst 1, 1) := by decide +kernel
theorem dL_law_888 : decode cL_law 888 = .ok (.iadd, 1) := by decide +kernel
theorem dL_law_889 : decode cL_law 889 = .ok (.iaload, 1) := by decide +kernel
theorem dL_law_890 : decode cL_law 890 = .ok (.aload_n 0, 1) := by decide +kernel
theorem dL_law_891 : decode cL_law 891 = .ok (.iload_n 3, 1) := by decide +kernel
theorem dL_law_892 : decode cL_law 892 = .ok (.iconst 2, 1) := by decide +kernel
theorem dL_law_893 : decode cL_law 893 = .ok (.iadd, 1) := by decide +kernel
theorem dL_law_894 : decode cL_law 894 = .ok (.iaload, 1) := by decide +kernel
theorem dL_law_895 : decode cL_law 895 = .ok (.invokevirtual 102, 3) := by decide +kernel
theorem dL_law_898 : decode cL_law 898 = .ok (.if_icmp .eq 739, 3) := by decide +kernel
theorem dL_law_901 : decode cL_law 901 = .ok (.iconst 0, 1) := by decide +kernel
theorem dL_law_902 : decode cL_law 902 = .ok (.ireturn, 1) := by decide +kernel
theorem dL_law_903 : decode cL_law 903 = .ok (.aload_n 1, 1) := by decide +kernel
theorem dL_law_904 : decode cL_law 904 = .ok (.invokevirtual 103, 3) := by decide +kernel
theorem dL_law_907 : decode cL_law 907 = .ok (.aload_n 2, 1) := by decide +kernel
theorem dL_law_908 : decode cL_law 908 = .ok (.invokevirtual 106, 3) := by decide +kernel
theorem dL_law_911 : decode cL_law 911 = .ok (.if_icmp .eq 726, 3) := by decide +kernel
theorem dL_law_914 : decode cL_law 914 = .ok (.iconst 0, 1) := by decide +kernel
theorem dL_law_915 : decode cL_law 915 = .ok (.ireturn, 1) := by decide +kernel
theorem dL_law_916 : decode cL_law 916 = .ok (.aload_n 1, 1) := by decide +kernel
theorem dL_law_917 : decode cL_law 917 = .ok (.aload_n 0, 1) := by decide +kernel
theorem dL_law_918 : decode cL_law 918 = .ok (.iload_n 3, 1) := by decide +kernel
theorem dL_law_919 : decode cL_law 919 = .ok (.iconst 1, 1) := by decide +kernel
theorem dL_law_920 : decode cL_law 920 = .ok (.iadd, 1) := by decide +kernel
theorem dL_law_921 : decode cL_law 921 = .ok (.iaload, 1) := by decide +kernel
theorem dL_law_922 : decode cL_law 922 = .ok (.aload_n 0, 1) := by decide +kernel
theorem dL_law_923 : decode cL_law 923 = .ok (.iload_n 3, 1) := by decide +kernel
theorem dL_law_924 : decode cL_law 924 = .ok (.iconst 2, 1) := by decide +kernel
theorem dL_law_925 : decode cL_law 925 = .ok (.iadd, 1) := by decide +kernel
theorem dL_law_926 : decode cL_law 926 = .ok (.iaload, 1) := by decide +kernel
theorem dL_law_927 : decode cL_law 927 = .ok (.invokevirtual 107, 3) := by decide +kernel
theorem dL_law_930 : decode cL_law 930 = .ok (.aload_n 2, 1) := by decide +kernel
theorem dL_law_931 : decode cL_law 931 = .ok (.aload_n 0, 1) := by decide +kernel
theorem dL_law_932 : decode cL_law 932 = .ok (.iload_n 3, 1) := by decide +kernel
theorem dL_law_933 : decode cL_law 933 = .ok (.iconst 1, 1) := by decide +kernel
theorem dL_law_934 : decode cL_law 934 = .ok (.iadd, 1) := by decide +kernel
theorem dL_law_935 : decode cL_law 935 = .ok (.iaload, 1) := by decide +kernel
theorem dL_law_936 : decode cL_law 936 = .ok (.aload_n 0, 1) := by decide +kernel
theorem dL_law_937 : decode cL_law 937 = .ok (.iload_n 3, 1) := by decide +kernel
theorem dL_law_938 : decode cL_law 938 = .ok (.iconst 2, 1) := by decide +kernel
theorem dL_law_939 : decode cL_law 939 = .ok (.iadd, 1) := by decide +kernel
theorem dL_law_940 : decode cL_law 940 = .ok (.iaload, 1) := by decide +kernel
theorem dL_law_941 : decode cL_law 941 = .ok (.invokevirtual 110, 3) := by decide +kernel
theorem dL_law_944 : decode cL_law 944 = .ok (.if_icmp .eq 693, 3) := by decide +kernel
theorem dL_law_947 : decode cL_law 947 = .ok (.iconst 0, 1) := by decide +kernel
theorem dL_law_948 : decode cL_law 948 = .ok (.ireturn, 1) := by decide +kernel
theorem dL_law_949 : decode cL_law 949 = .ok (.aload_n 1, 1) := by decide +kernel
theorem dL_law_950 : decode cL_law 950 = .ok (.aload_n 0, 1) := by decide +kernel
theorem dL_law_951 : decode cL_law 951 = .ok (.iload_n 3, 1) := by decide +kernel
theorem dL_law_952 : decode cL_law 952 = .ok (.iconst 1, 1) := by decide +kernel
theorem dL_law_953 : decode cL_law 953 = .ok (.iadd, 1) := by decide +kernel
theorem dL_law_954 : decode cL_law 954 = .ok (.iaload, 1) := by decide +kernel
theorem dL_law_955 : decode cL_law 955 = .ok (.invokevirtual 111, 3) := by decide +kernel
theorem dL_law_958 : decode cL_law 958 = .ok (.aload_n 2, 1) := by decide +kernel
theorem dL_law_959 : decode cL_law 959 = .ok (.aload_n 0, 1) := by decide +kernel
theorem dL_law_960 : decode cL_law 960 = .ok (.iload_n 3, 1) := by decide +kernel
theorem dL_law_961 : decode cL_law 961 = .ok (.iconst 1, 1) := by decide +kernel
theorem dL_law_962 : decode cL_law 962 = .ok (.iadd, 1) := by decide +kernel
theorem dL_law_963 : decode cL_law 963 = .ok (.iaload, 1) := by decide +kernel
theorem dL_law_964 : decode cL_law 964 = .ok (.invokevirtual 114, 3) := by decide +kernel
theorem dL_law_967 : decode cL_law 967 = .ok (.if_icmp .eq 670, 3) := by decide +kernel
theorem dL_law_970 : decode cL_law 970 = .ok (.iconst 0, 1) := by decide +kernel
theorem dL_law_971 : decode cL_law 971 = .ok (.ireturn, 1) := by decide +kernel
theorem dL_law_972 : decode cL_law 972 = .ok (.aload_n 1, 1) := by decide +kernel
theorem dL_law_973 : decode cL_law 973 = .ok (.invokevirtual 115, 3) := by decide +kernel
theorem dL_law_976 : decode cL_law 976 = .ok (.aload_n 2, 1) := by decide +kernel
theorem dL_law_977 : decode cL_law 977 = .ok (.invokevirtual 118, 3) := by decide +kernel
theorem dL_law_980 : decode cL_law 980 = .ok (.if_icmp .eq 657, 3) := by decide +kernel
theorem dL_law_983 : decode cL_law 983 = .ok (.iconst 0, 1) := by decide +kernel
theorem dL_law_984 : decode cL_law 984 = .ok (.ireturn, 1) := by decide +kernel
theorem dL_law_985 : decode cL_law 985 = .ok (.aload_n 1, 1) := by decide +kernel
theorem dL_law_986 : decode cL_law 986 = .ok (.invokevirtual 119, 3) := by decide +kernel
theorem dL_law_989 : decode cL_law 989 = .ok (.aload_n 2, 1) := by decide +kernel
theorem dL_law_990 : decode cL_law 990 = .ok (.invokevirtual 122, 3) := by decide +kernel
theorem dL_law_993 : decode cL_law 993 = .ok (.if_icmp .eq 644, 3) := by decide +kernel
theorem dL_law_996 : decode cL_law 996 = .ok (.iconst 0, 1) := by decide +kernel
theorem dL_law_997 : decode cL_law 997 = .ok (.ireturn, 1) := by decide +kernel
theorem dL_law_998 : decode cL_law 998 = .ok (.aload_n 1, 1) := by decide +kernel
theorem dL_law_999 : decode cL_law 999 = .ok (.aload_n 0, 1) := by decide +kernel
theorem dL_law_1000 : decode cL_law 1000 = .ok (.iload_n 3, 1) := by decide +kernel
theorem dL_law_1001 : decode cL_law 1001 = .ok (.iconst 1, 1) := by decide +kernel
theorem dL_law_1002 : decode cL_law 1002 = .ok (.iadd, 1) := by decide +kernel
theorem dL_law_1003 : decode cL_law 1003 = .ok (.iaload, 1) := by decide +kernel
theorem dL_law_1004 : decode cL_law 1004 = .ok (.aload_n 0, 1) := by decide +kernel
theorem dL_law_1005 : decode cL_law 1005 = .ok (.iload_n 3, 1) := by decide +kernel
theorem dL_law_1006 : decode cL_law 1006 = .ok (.iconst 2, 1) := by decide +kernel
theorem dL_law_1007 : decode cL_law 1007 = .ok (.iadd, 1) := by decide +kernel
theorem dL_law_1008 : decode cL_law 1008 = .ok (.iaload, 1) := by decide +kernel
theorem dL_law_1009 : decode cL_law 1009 = .ok (.invokevirtual 123, 3) := by decide +kernel
theorem dL_law_1012 : decode cL_law 1012 = .ok (.aload_n 2, 1) := by decide +kernel
theorem dL_law_1013 : decode cL_law 1013 = .ok (.aload_n 0, 1) := by decide +kernel
theorem dL_law_1014 : decode cL_law 1014 = .ok (.iload_n 3, 1) := by decide +kernel
theorem dL_law_1015 : decode cL_law 1015 = .ok (.iconst 1, 1) := by decide +kernel
theorem dL_law_1016 : decode cL_law 1016 = .ok (.iadd, 1) := by decide +kernel
theorem dL_law_1017 : decode cL_law 1017 = .ok (.iaload, 1) := by decide +kernel
theorem dL_law_1018 : decode cL_law 1018 = .ok (.aload_n 0, 1) := by decide +kernel
theorem dL_law_1019 : decode cL_law 1019 = .ok (.iload_n 3, 1) := by decide +kernel
theorem dL_law_1020 : decode cL_law 1020 = .ok (.iconst 2, 1) := by decide +kernel
theorem dL_law_1021 : decode cL_law 1021 = .ok (.iadd, 1) := by decide +kernel
theorem dL_law_1022 : decode cL_law 1022 = .ok (.iaload, 1) := by decide +kernel
theorem dL_law_1023 : decode cL_law 1023 = .ok (.invokevirtual 126, 3) := by decide +kernel
theorem dL_law_1026 : decode cL_law 1026 = .ok (.if_icmp .eq 611, 3) := by decide +kernel
theorem dL_law_1029 : decode cL_law 1029 = .ok (.iconst 0, 1) := by decide +kernel
theorem dL_law_1030 : decode cL_law 1030 = .ok (.ireturn, 1) := by decide +kernel
theorem dL_law_1031 : decode cL_law 1031 = .ok (.aload_n 1, 1) := by decide +kernel
theorem dL_law_1032 : decode cL_law 1032 = .ok (.aload_n 0, 1) := by decide +kernel
theorem dL_law_1033 : decode cL_law 1033 = .ok (.iload_n 3, 1) := by decide +kernel
theorem dL_law_1034 : decode cL_law 1034 = .ok (.iconst 1, 1) := by decide +kernel
theorem dL_law_1035 : decode cL_law 1035 = .ok (.iadd, 1) := by decide +kernel
theorem dL_law_1036 : decode cL_law 1036 = .ok (.iaload, 1) := by decide +kernel
theorem dL_law_1037 : decode cL_law 1037 = .ok (.invokevirtual 127, 3) := by decide +kernel
theorem dL_law_1040 : decode cL_law 1040 = .ok (.aload_n 2, 1) := by decide +kernel
theorem dL_law_1041 : decode cL_law 1041 = .ok (.aload_n 0, 1) := by decide +kernel
theorem dL_law_1042 : decode cL_law 1042 = .ok (.iload_n 3, 1) := by decide +kernel
theorem dL_law_1043 : decode cL_law 1043 = .ok (.iconst 1, 1) := by decide +kernel
theorem dL_law_1044 : decode cL_law 1044 = .ok (.iadd, 1) := by decide +kernel
theorem dL_law_1045 : decode cL_law 1045 = .ok (.iaload, 1) := by decide +kernel
theorem dL_law_1046 : decode cL_law 1046 = .ok (.invokevirtual 130, 3) := by decide +kernel
theorem dL_law_1049 : decode cL_law 1049 = .ok (.if_icmp .eq 588, 3) := by decide +kernel
theorem dL_law_1052 : decode cL_law 1052 = .ok (.iconst 0, 1) := by decide +kernel
theorem dL_law_1053 : decode cL_law 1053 = .ok (.ireturn, 1) := by decide +kernel
theorem dL_law_1054 : decode cL_law 1054 = .ok (.aload_n 1, 1) := by decide +kernel
theorem dL_law_1055 : decode cL_law 1055 = .ok (.aload_n 0, 1) := by decide +kernel
theorem dL_law_1056 : decode cL_law 1056 = .ok (.iload_n 3, 1) := by decide +kernel
theorem dL_law_1057 : decode cL_law 1057 = .ok (.iconst 1, 1) := by decide +kernel
theorem dL_law_1058 : decode cL_law 1058 = .ok (.iadd, 1) := by decide +kernel
theorem dL_law_1059 : decode cL_law 1059 = .ok (.iaload, 1) := by decide +kernel
theorem dL_law_1060 : decode cL_law 1060 = .ok (.invokevirtual 131, 3) := by decide +kernel
theorem dL_law_1063 : decode cL_law 1063 = .ok (.aload_n 2, 1) := by decide +kernel
theorem dL_law_1064 : decode cL_law 1064 = .ok (.aload_n 0, 1) := by decide +kernel
theorem dL_law_1065 : decode cL_law 1065 = .ok (.iload_n 3, 1) := by decide +kernel
theorem dL_law_1066 : decode cL_law 1066 = .ok (.iconst 1, 1) := by decide +kernel
theorem dL_law_1067 : decode cL_law 1067 = .ok (.iadd, 1) := by decide +kernel
theorem dL_law_1068 : decode cL_law 1068 = .ok (.iaload, 1) := by decide +kernel
theorem dL_law_1069 : decode cL_law 1069 = .ok (.invokevirtual 134, 3) := by decide +kernel
theorem dL_law_1072 : decode cL_law 1072 = .ok (.if_icmp .eq 565, 3) := by decide +kernel
theorem dL_law_1075 : decode cL_law 1075 = .ok (.iconst 0, 1) := by decide +kernel
theorem dL_law_1076 : decode cL_law 1076 = .ok (.ireturn, 1) := by decide +kernel
theorem dL_law_1077 : decode cL_law 1077 = .ok (.aload_n 1, 1) := by decide +kernel
theorem dL_law_1078 : decode cL_law 1078 = .ok (.aload_n 0, 1) := by decide +kernel
theorem dL_law_1079 : decode cL_law 1079 = .ok (.iload_n 3, 1) := by decide +kernel
theorem dL_law_1080 : decode cL_law 1080 = .ok (.iconst 1, 1) := by decide +kernel
theorem dL_law_1081 : decode cL_law 1081 = .ok (.iadd, 1) := by decide +kernel
theorem dL_law_1082 : decode cL_law 1082 = .ok (.iaload, 1) := by decide +kernel
theorem dL_law_1083 : decode cL_law 1083 = .ok (.invokevirtual 135, 3) := by decide +kernel
theorem dL_law_1086 : decode cL_law 1086 = .ok (.aload_n 2, 1) := by decide +kernel
theorem dL_law_1087 : decode cL_law 1087 = .ok (.aload_n 0, 1) := by decide +kernel
theorem dL_law_1088 : decode cL_law 1088 = .ok (.iload_n 3, 1) := by decide +kernel
theorem dL_law_1089 : decode cL_law 1089 = .ok (.iconst 1, 1) := by decide +kernel
theorem dL_law_1090 : decode cL_law 1090 = .ok (.iadd, 1) := by decide +kernel
theorem dL_law_1091 : decode cL_law 1091 = .ok (.iaload, 1) := by decide +kernel
theorem dL_law_1092 : decode cL_law 1092 = .ok (.invokevirtual 138, 3) := by decide +kernel
theorem dL_law_1095 : decode cL_law 1095 = .ok (.if_icmp .eq 542, 3) := by decide +kernel
theorem dL_law_1098 : decode cL_law 1098 = .ok (.iconst 0, 1) := by decide +kernel
theorem dL_law_1099 : decode cL_law 1099 = .ok (.ireturn, 1) := by decide +kernel
theorem dL_law_1100 : decode cL_law 1100 = .ok (.aload_n 1, 1) := by decide +kernel
theorem dL_law_1101 : decode cL_law 1101 = .ok (.aload_n 0, 1) := by decide +kernel
theorem dL_law_1102 : decode cL_law 1102 = .ok (.iload_n 3, 1) := by decide +kernel
theorem dL_law_1103 : decode cL_law 1103 = .ok (.iconst 1, 1) := by decide +kernel
theorem dL_law_1104 : decode cL_law 1104 = .ok (.iadd, 1) := by decide +kernel
theorem dL_law_1105 : decode cL_law 1105 = .ok (.iaload, 1) := by decide +kernel
theorem dL_law_1106 : decode cL_law 1106 = .ok (.invokevirtual 139, 3) := by decide +kernel
theorem dL_law_1109 : decode cL_law 1109 = .ok (.aload_n 2, 1) := by decide +kernel
theorem dL_law_1110 : decode cL_law 1110 = .ok (.aload_n 0, 1) := by decide +kernel
theorem dL_law_1111 : decode cL_law 1111 = .ok (.iload_n 3, 1) := by decide +kernel
theorem dL_law_1112 : decode cL_law 1112 = .ok (.iconst 1, 1) := by decide +kernel
theorem dL_law_1113 : decode cL_law 1113 = .ok (.iadd, 1) := by decide +kernel
theorem dL_law_1114 : decode cL_law 1114 = .ok (.iaload, 1) := by decide +kernel
theorem dL_law_1115 : decode cL_law 1115 = .ok (.invokevirtual 142, 3) := by decide +kernel
theorem dL_law_1118 : decode cL_law 1118 = .ok (.if_icmp .eq 519, 3) := by decide +kernel
theorem dL_law_1121 : decode cL_law 1121 = .ok (.iconst 0, 1) := by decide +kernel
theorem dL_law_1122 : decode cL_law 1122 = .ok (.ireturn, 1) := by decide +kernel
theorem dL_law_1123 : decode cL_law 1123 = .ok (.aload_n 1, 1) := by decide +kernel
theorem dL_law_1124 : decode cL_law 1124 = .ok (.aload_n 0, 1) := by decide +kernel
theorem dL_law_1125 : decode cL_law 1125 = .ok (.iload_n 3, 1) := by decide +kernel
theorem dL_law_1126 : decode cL_law 1126 = .ok (.iconst 1, 1) := by decide +kernel
theorem dL_law_1127 : decode cL_law 1127 = .ok (.iadd, 1) := by decide +kernel
theorem dL_law_1128 : decode cL_law 1128 = .ok (.iaload, 1) := by decide +kernel
theorem dL_law_1129 : decode cL_law 1129 = .ok (.aload_n 0, 1) := by decide +kernel
theorem dL_law_1130 : decode cL_law 1130 = .ok (.iload_n 3, 1) := by decide +kernel
theorem dL_law_1131 : decode cL_law 1131 = .ok (.iconst 2, 1) := by decide +kernel
theorem dL_law_1132 : decode cL_law 1132 = .ok (.iadd, 1) := by decide +kernel
theorem dL_law_1133 : decode cL_law 1133 = .ok (.iaload, 1) := by decide +kernel
theorem dL_law_1134 : decode cL_law 1134 = .ok (.aload_n 0, 1) := by decide +kernel
theorem dL_law_1135 : decode cL_law 1135 = .ok (.iload_n 3, 1) := by decide +kernel
theorem dL_law_1136 : decode cL_law 1136 = .ok (.iconst 3, 1) := by decide +kernel
theorem dL_law_1137 : decode cL_law 1137 = .ok (.iadd, 1) := by decide +kernel
theorem dL_law_1138 : decode cL_law 1138 = .ok (.iaload, 1) := by decide +kernel
theorem dL_law_1139 : decode cL_law 1139 = .ok (.invokevirtual 143, 3) := by decide +kernel
theorem dL_law_1142 : decode cL_law 1142 = .ok (.aload_n 2, 1) := by decide +kernel
theorem dL_law_1143 : decode cL_law 1143 = .ok (.aload_n 0, 1) := by decide +kernel
theorem dL_law_1144 : decode cL_law 1144 = .ok (.iload_n 3, 1) := by decide +kernel
theorem dL_law_1145 : decode cL_law 1145 = .ok (.iconst 1, 1) := by decide +kernel
theorem dL_law_1146 : decode cL_law 1146 = .ok (.iadd, 1) := by decide +kernel
theorem dL_law_1147 : decode cL_law 1147 = .ok (.iaload, 1) := by decide +kernel
theorem dL_law_1148 : decode cL_law 1148 = .ok (.aload_n 0, 1) := by decide +kernel
theorem dL_law_1149 : decode cL_law 1149 = .ok (.iload_n 3, 1) := by decide +kernel
theorem dL_law_1150 : decode cL_law 1150 = .ok (.iconst 2, 1) := by decide +kernel
theorem dL_law_1151 : decode cL_law 1151 = .ok (.iadd, 1) := by decide +kernel
theorem dL_law_1152 : decode cL_law 1152 = .ok (.iaload, 1) := by decide +kernel
theorem dL_law_1153 : decode cL_law 1153 = .ok (.aload_n 0, 1) := by decide +kernel
theorem dL_law_1154 : decode cL_law 1154 = .ok (.iload_n 3, 1) := by decide +kernel
theorem dL_law_1155 : decode cL_law 1155 = .ok (.iconst 3, 1) := by decide +kernel
theorem dL_law_1156 : decode cL_law 1156 = .ok (.iadd, 1) := by decide +kernel
theorem dL_law_1157 : decode cL_law 1157 = .ok (.iaload, 1) := by decide +kernel
theorem dL_law_1158 : decode cL_law 1158 = .ok (.invokevirtual 146, 3) := by decide +kernel
theorem dL_law_1161 : decode cL_law 1161 = .ok (.if_icmp .eq 476, 3) := by decide +kernel
theorem dL_law_1164 : decode cL_law 1164 = .ok (.iconst 0, 1) := by decide +kernel
theorem dL_law_1165 : decode cL_law 1165 = .ok (.ireturn, 1) := by decide +kernel
theorem dL_law_1166 : decode cL_law 1166 = .ok (.aload_n 1, 1) := by decide +kernel
theorem dL_law_1167 : decode cL_law 1167 = .ok (.aload_n 0, 1) := by decide +kernel
theorem dL_law_1168 : decode cL_law 1168 = .ok (.iload_n 3, 1) := by decide +kernel
theorem dL_law_1169 : decode cL_law 1169 = .ok (.iconst 1, 1) := by decide +kernel
theorem dL_law_1170 : decode cL_law 1170 = .ok (.iadd, 1) := by decide +kernel
theorem dL_law_1171 : decode cL_law 1171 = .ok (.iaload, 1) := by decide +kernel
theorem dL_law_1172 : decode cL_law 1172 = .ok (.aload_n 0, 1) := by decide +kernel
theorem dL_law_1173 : decode cL_law 1173 = .ok (.iload_n 3, 1) := by decide +kernel
theorem dL_law_1174 : decode cL_law 1174 = .ok (.iconst 2, 1) := by decide +kernel
theorem dL_law_1175 : decode cL_law 1175 = .ok (.iadd, 1) := by decide +kernel
theorem dL_law_1176 : decode cL_law 1176 = .ok (.iaload, 1) := by decide +kernel
theorem dL_law_1177 : decode cL_law 1177 = .ok (.aload_n 0, 1) := by decide +kernel
theorem dL_law_1178 : decode cL_law 1178 = .ok (.iload_n 3, 1) := by decide +kernel
theorem dL_law_1179 : decode cL_law 1179 = .ok (.iconst 3, 1) := by decide +kernel
theorem dL_law_1180 : decode cL_law 1180 = .ok (.iadd, 1) := by decide +kernel
theorem dL_law_1181 : decode cL_law 1181 = .ok (.iaload, 1) := by decide +kernel
theorem dL_law_1182 : decode cL_law 1182 = .ok (.invokevirtual 147, 3) := by decide +kernel
theorem dL_law_1185 : decode cL_law 1185 = .ok (.aload_n 2, 1) := by decide +kernel
theorem dL_law_1186 : decode cL_law 1186 = .ok (.aload_n 0, 1) := by decide +kernel
theorem dL_law_1187 : decode cL_law 1187 = .ok (.iload_n 3, 1) := by decide +kernel
theorem dL_law_1188 : decode cL_law 1188 = .ok (.iconst 1, 1) := by decide +kernel
theorem dL_law_1189 : decode cL_law 1189 = .ok (.iadd, 1) := by decide +kernel
theorem dL_law_1190 : decode cL_law 1190 = .ok (.iaload, 1) := by decide +kernel
theorem dL_law_1191 : decode cL_law 1191 = .ok (.aload_n 0, 1) := by decide +kernel
theorem dL_law_1192 : decode cL_law 1192 = .ok (.iload_n 3, 1) := by decide +kernel
theorem dL_law_1193 : decode cL_law 1193 = .ok (.iconst 2, 1) := by decide +kernel
theorem dL_law_1194 : decode cL_law 1194 = .ok (.iadd, 1) := by decide +kernel
theorem dL_law_1195 : decode cL_law 1195 = .ok (.iaload, 1) := by decide +kernel
theorem dL_law_1196 : decode cL_law 1196 = .ok (.aload_n 0, 1) := by decide +kernel
theorem dL_law_1197 : decode cL_law 1197 = .ok (.iload_n 3, 1) := by decide +kernel
theorem dL_law_1198 : decode cL_law 1198 = .ok (.iconst 3, 1) := by decide +kernel
theorem dL_law_1199 : decode cL_law 1199 = .ok (.iadd, 1) := by decide +kernel
theorem dL_law_1200 : decode cL_law 1200 = .ok (.iaload, 1) := by decide +kernel
theorem dL_law_1201 : decode cL_law 1201 = .ok (.invokevirtual 150, 3) := by decide +kernel
theorem dL_law_1204 : decode cL_law 1204 = .ok (.if_icmp .eq 433, 3) := by decide +kernel
theorem dL_law_1207 : decode cL_law 1207 = .ok (.iconst 0, 1) := by decide +kernel
theorem dL_law_1208 : decode cL_law 1208 = .ok (.ireturn, 1) := by decide +kernel
theorem dL_law_1209 : decode cL_law 1209 = .ok (.aload_n 1, 1) := by decide +kernel
theorem dL_law_1210 : decode cL_law 1210 = .ok (.aload_n 0, 1) := by decide +kernel
theorem dL_law_1211 : decode cL_law 1211 = .ok (.iload_n 3, 1) := by decide +kernel
theorem dL_law_1212 : decode cL_law 1212 = .ok (.iconst 1, 1) := by decide +kernel
theorem dL_law_1213 : decode cL_law 1213 = .ok (.iadd, 1) := by decide +kernel
theorem dL_law_1214 : decode cL_law 1214 = .ok (.iaload, 1) := by decide +kernel
theorem dL_law_1215 : decode cL_law 1215 = .ok (.invokevirtual 151, 3) := by decide +kernel
theorem dL_law_1218 : decode cL_law 1218 = .ok (.aload_n 2, 1) := by decide +kernel
theorem dL_law_1219 : decode cL_law 1219 = .ok (.aload_n 0, 1) := by decide +kernel
theorem dL_law_1220 : decode cL_law 1220 = .ok (.iload_n 3, 1) := by decide +kernel
theorem dL_law_1221 : decode cL_law 1221 = .ok (.iconst 1, 1) := by decide +kernel
theorem dL_law_1222 : decode cL_law 1222 = .ok (.iadd, 1) := by decide +kernel
theorem dL_law_1223 : decode cL_law 1223 = .ok (.iaload, 1) := by decide +kernel
theorem dL_law_1224 : decode cL_law 1224 = .ok (.invokevirtual 155, 3) := by decide +kernel
theorem dL_law_1227 : decode cL_law 1227 = .ok (.lcmp, 1) := by decide +kernel
theorem dL_law_1228 : decode cL_law 1228 = .ok (.ifCond .eq 409, 3) := by decide +kernel
theorem dL_law_1231 : decode cL_law 1231 = .ok (.iconst 0, 1) := by decide +kernel
theorem dL_law_1232 : decode cL_law 1232 = .ok (.ireturn, 1) := by decide +kernel
theorem dL_law_1233 : decode cL_law 1233 = .ok (.aload_n 1, 1) := by decide +kernel
theorem dL_law_1234 : decode cL_law 1234 = .ok (.aload_n 0, 1) := by decide +kernel
theorem dL_law_1235 : decode cL_law 1235 = .ok (.iload_n 3, 1) := by decide +kernel
theorem dL_law_1236 : decode cL_law 1236 = .ok (.iconst 1, 1) := by decide +kernel
theorem dL_law_1237 : decode cL_law 1237 = .ok (.iadd, 1) := by decide +kernel
theorem dL_law_1238 : decode cL_law 1238 = .ok (.iaload, 1) := by decide +kernel
theorem dL_law_1239 : decode cL_law 1239 = .ok (.invokevirtual 156, 3) := by decide +kernel
theorem dL_law_1242 : decode cL_law 1242 = .ok (.aload_n 2, 1) := by decide +kernel
theorem dL_law_1243 : decode cL_law 1243 = .ok (.aload_n 0, 1) := by decide +kernel
theorem dL_law_1244 : decode cL_law 1244 = .ok (.iload_n 3, 1) := by decide +kernel
theorem dL_law_1245 : decode cL_law 1245 = .ok (.iconst 1, 1) := by decide +kernel
theorem dL_law_1246 : decode cL_law 1246 = .ok (.iadd, 1) := by decide +kernel
theorem dL_law_1247 : decode cL_law 1247 = .ok (.iaload, 1) := by decide +kernel
theorem dL_law_1248 : decode cL_law 1248 = .ok (.invokevirtual 159, 3) := by decide +kernel
theorem dL_law_1251 : decode cL_law 1251 = .ok (.if_icmp .eq 386, 3) := by decide +kernel
theorem dL_law_1254 : decode cL_law 1254 = .ok (.iconst 0, 1) := by decide +kernel
theorem dL_law_1255 : decode cL_law 1255 = .ok (.ireturn, 1) := by decide +kernel
theorem dL_law_1256 : decode cL_law 1256 = .ok (.aload_n 1, 1) := by decide +kernel
theorem dL_law_1257 : decode cL_law 1257 = .ok (.aload_n 0, 1) := by decide +kernel
theorem dL_law_1258 : decode cL_law 1258 = .ok (.iload_n 3, 1) := by decide +kernel
theorem dL_law_1259 : decode cL_law 1259 = .ok (.iconst 1, 1) := by decide +kernel
theorem dL_law_1260 : decode cL_law 1260 = .ok (.iadd, 1) := by decide +kernel
theorem dL_law_1261 : decode cL_law 1261 = .ok (.iaload, 1) := by decide +kernel
theorem dL_law_1262 : decode cL_law 1262 = .ok (.aload_n 0, 1) := by decide +kernel
theorem dL_law_1263 : decode cL_law 1263 = .ok (.iload_n 3, 1) := by decide +kernel
theorem dL_law_1264 : decode cL_law 1264 = .ok (.iconst 2, 1) := by decide +kernel
theorem dL_law_1265 : decode cL_law 1265 = .ok (.iadd, 1) := by decide +kernel
theorem dL_law_1266 : decode cL_law 1266 = .ok (.iaload, 1) := by decide +kernel
theorem dL_law_1267 : decode cL_law 1267 = .ok (.invokevirtual 160, 3) := by decide +kernel
theorem dL_law_1270 : decode cL_law 1270 = .ok (.aload_n 2, 1) := by decide +kernel
theorem dL_law_1271 : decode cL_law 1271 = .ok (.aload_n 0, 1) := by decide +kernel
theorem dL_law_1272 : decode cL_law 1272 = .ok (.iload_n 3, 1) := by decide +kernel
theorem dL_law_1273 : decode cL_law 1273 = .ok (.iconst 1, 1) := by decide +kernel
theorem dL_law_1274 : decode cL_law 1274 = .ok (.iadd, 1) := by decide +kernel
theorem dL_law_1275 : decode cL_law 1275 = .ok (.iaload, 1) := by decide +kernel
theorem dL_law_1276 : decode cL_law 1276 = .ok (.aload_n 0, 1) := by decide +kernel
theorem dL_law_1277 : decode cL_law 1277 = .ok (.iload_n 3, 1) := by decide +kernel
theorem dL_law_1278 : decode cL_law 1278 = .ok (.iconst 2, 1) := by decide +kernel
theorem dL_law_1279 : decode cL_law 1279 = .ok (.iadd, 1) := by decide +kernel
theorem dL_law_1280 : decode cL_law 1280 = .ok (.iaload, 1) := by decide +kernel
theorem dL_law_1281 : decode cL_law 1281 = .ok (.invokevirtual 163, 3) := by decide +kernel
theorem dL_law_1284 : decode cL_law 1284 = .ok (.if_icmp .eq 353, 3) := by decide +kernel
theorem dL_law_1287 : decode cL_law 1287 = .ok (.iconst 0, 1) := by decide +kernel
theorem dL_law_1288 : decode cL_law 1288 = .ok (.ireturn, 1) := by decide +kernel
theorem dL_law_1289 : decode cL_law 1289 = .ok (.aload_n 1, 1) := by decide +kernel
theorem dL_law_1290 : decode cL_law 1290 = .ok (.aload_n 0, 1) := by decide +kernel
theorem dL_law_1291 : decode cL_law 1291 = .ok (.iload_n 3, 1) := by decide +kernel
theorem dL_law_1292 : decode cL_law 1292 = .ok (.iconst 1, 1) := by decide +kernel
theorem dL_law_1293 : decode cL_law 1293 = .ok (.iadd, 1) := by decide +kernel
theorem dL_law_1294 : decode cL_law 1294 = .ok (.iaload, 1) := by decide +kernel
theorem dL_law_1295 : decode cL_law 1295 = .ok (.aload_n 0, 1) := by decide +kernel
theorem dL_law_1296 : decode cL_law 1296 = .ok (.iload_n 3, 1) := by decide +kernel
theorem dL_law_1297 : decode cL_law 1297 = .ok (.iconst 2, 1) := by decide +kernel
theorem dL_law_1298 : decode cL_law 1298 = .ok (.iadd, 1) := by decide +kernel
theorem dL_law_1299 : decode cL_law 1299 = .ok (.iaload, 1) := by decide +kernel
theorem dL_law_1300 : decode cL_law 1300 = .ok (.invokevirtual 164, 3) := by decide +kernel
theorem dL_law_1303 : decode cL_law 1303 = .ok (.aload_n 2, 1) := by decide +kernel
theorem dL_law_1304 : decode cL_law 1304 = .ok (.aload_n 0, 1) := by decide +kernel
theorem dL_law_1305 : decode cL_law 1305 = .ok (.iload_n 3, 1) := by decide +kernel
theorem dL_law_1306 : decode cL_law 1306 = .ok (.iconst 1, 1) := by decide +kernel
theorem dL_law_1307 : decode cL_law 1307 = .ok (.iadd, 1) := by decide +kernel
theorem dL_law_1308 : decode cL_law 1308 = .ok (.iaload, 1) := by decide +kernel
theorem dL_law_1309 : decode cL_law 1309 = .ok (.aload_n 0, 1) := by decide +kernel
theorem dL_law_1310 : decode cL_law 1310 = .ok (.iload_n 3, 1) := by decide +kernel
theorem dL_law_1311 : decode cL_law 1311 = .ok (.iconst 2, 1) := by decide +kernel
theorem dL_law_1312 : decode cL_law 1312 = .ok (.iadd, 1) := by decide +kernel
theorem dL_law_1313 : decode cL_law 1313 = .ok (.iaload, 1) := by decide +kernel
theorem dL_law_1314 : decode cL_law 1314 = .ok (.invokevirtual 167, 3) := by decide +kernel
theorem dL_law_1317 : decode cL_law 1317 = .ok (.if_icmp .eq 320, 3) := by decide +kernel
theorem dL_law_1320 : decode cL_law 1320 = .ok (.iconst 0, 1) := by decide +kernel
theorem dL_law_1321 : decode cL_law 1321 = .ok (.ireturn, 1) := by decide +kernel
theorem dL_law_1322 : decode cL_law 1322 = .ok (.aload_n 1, 1) := by decide +kernel
theorem dL_law_1323 : decode cL_law 1323 = .ok (.aload_n 0, 1) := by decide +kernel
theorem dL_law_1324 : decode cL_law 1324 = .ok (.iload_n 3, 1) := by decide +kernel
theorem dL_law_1325 : decode cL_law 1325 = .ok (.iconst 1, 1) := by decide +kernel
theorem dL_law_1326 : decode cL_law 1326 = .ok (.iadd, 1) := by decide +kernel
theorem dL_law_1327 : decode cL_law 1327 = .ok (.iaload, 1) := by decide +kernel
theorem dL_law_1328 : decode cL_law 1328 = .ok (.aload_n 0, 1) := by decide +kernel
theorem dL_law_1329 : decode cL_law 1329 = .ok (.iload_n 3, 1) := by decide +kernel
theorem dL_law_1330 : decode cL_law 1330 = .ok (.iconst 2, 1) := by decide +kernel
theorem dL_law_1331 : decode cL_law 1331 = .ok (.iadd, 1) := by decide +kernel
theorem dL_law_1332 : decode cL_law 1332 = .ok (.iaload, 1) := by decide +kernel
theorem dL_law_1333 : decode cL_law 1333 = .ok (.aload_n 0, 1) := by decide +kernel
theorem dL_law_1334 : decode cL_law 1334 = .ok (.iload_n 3, 1) := by decide +kernel
theorem dL_law_1335 : decode cL_law 1335 = .ok (.iconst 3, 1) := by decide +kernel
theorem dL_law_1336 : decode cL_law 1336 = .ok (.iadd, 1) := by decide +kernel
theorem dL_law_1337 : decode cL_law 1337 = .ok (.iaload, 1) := by decide +kernel
theorem dL_law_1338 : decode cL_law 1338 = .ok (.aload_n 0, 1) := by decide +kernel
theorem dL_law_1339 : decode cL_law 1339 = .ok (.iload_n 3, 1) := by decide +kernel
theorem dL_law_1340 : decode cL_law 1340 = .ok (.iconst 4, 1) := by decide +kernel
theorem dL_law_1341 : decode cL_law 1341 = .ok (.iadd, 1) := by decide +kernel
theorem dL_law_1342 : decode cL_law 1342 = .ok (.iaload, 1) := by decide +kernel
theorem dL_law_1343 : decode cL_law 1343 = .ok (.invokevirtual 168, 3) := by decide +kernel
theorem dL_law_1346 : decode cL_law 1346 = .ok (.aload_n 2, 1) := by decide +kernel
theorem dL_law_1347 : decode cL_law 1347 = .ok (.aload_n 0, 1) := by decide +kernel
theorem dL_law_1348 : decode cL_law 1348 = .ok (.iload_n 3, 1) := by decide +kernel
theorem dL_law_1349 : decode cL_law 1349 = .ok (.iconst 1, 1) := by decide +kernel
theorem dL_law_1350 : decode cL_law 1350 = .ok (.iadd, 1) := by decide +kernel
theorem dL_law_1351 : decode cL_law 1351 = .ok (.iaload, 1) := by decide +kernel
theorem dL_law_1352 : decode cL_law 1352 = .ok (.aload_n 0, 1) := by decide +kernel
theorem dL_law_1353 : decode cL_law 1353 = .ok (.iload_n 3, 1) := by decide +kernel
theorem dL_law_1354 : decode cL_law 1354 = .ok (.iconst 2, 1) := by decide +kernel
theorem dL_law_1355 : decode cL_law 1355 = .ok (.iadd, 1) := by decide +kernel
theorem dL_law_1356 : decode cL_law 1356 = .ok (.iaload, 1) := by decide +kernel
theorem dL_law_1357 : decode cL_law 1357 = .ok (.aload_n 0, 1) := by decide +kernel
theorem dL_law_1358 : decode cL_law 1358 = .ok (.iload_n 3, 1) := by decide +kernel
theorem dL_law_1359 : decode cL_law 1359 = .ok (.iconst 3, 1) := by decide +kernel
theorem dL_law_1360 : decode cL_law 1360 = .ok (.iadd, 1) := by decide +kernel
theorem dL_law_1361 : decode cL_law 1361 = .ok (.iaload, 1) := by decide +kernel
theorem dL_law_1362 : decode cL_law 1362 = .ok (.aload_n 0, 1) := by decide +kernel
theorem dL_law_1363 : decode cL_law 1363 = .ok (.iload_n 3, 1) := by decide +kernel
theorem dL_law_1364 : decode cL_law 1364 = .ok (.iconst 4, 1) := by decide +kernel
theorem dL_law_1365 : decode cL_law 1365 = .ok (.iadd, 1) := by decide +kernel
theorem dL_law_1366 : decode cL_law 1366 = .ok (.iaload, 1) := by decide +kernel
theorem dL_law_1367 : decode cL_law 1367 = .ok (.invokevirtual 172, 3) := by decide +kernel
theorem dL_law_1370 : decode cL_law 1370 = .ok (.lcmp, 1) := by decide +kernel
theorem dL_law_1371 : decode cL_law 1371 = .ok (.ifCond .eq 266, 3) := by decide +kernel
theorem dL_law_1374 : decode cL_law 1374 = .ok (.iconst 0, 1) := by decide +kernel
theorem dL_law_1375 : decode cL_law 1375 = .ok (.ireturn, 1) := by decide +kernel
theorem dL_law_1376 : decode cL_law 1376 = .ok (.aload_n 1, 1) := by decide +kernel
theorem dL_law_1377 : decode cL_law 1377 = .ok (.invokevirtual 173, 3) := by decide +kernel
theorem dL_law_1380 : decode cL_law 1380 = .ok (.aload_n 2, 1) := by decide +kernel
theorem dL_law_1381 : decode cL_law 1381 = .ok (.invokevirtual 176, 3) := by decide +kernel
theorem dL_law_1384 : decode cL_law 1384 = .ok (.if_icmp .eq 253, 3) := by decide +kernel
theorem dL_law_1387 : decode cL_law 1387 = .ok (.iconst 0, 1) := by decide +kernel
theorem dL_law_1388 : decode cL_law 1388 = .ok (.ireturn, 1) := by decide +kernel
theorem dL_law_1389 : decode cL_law 1389 = .ok (.aload_n 1, 1) := by decide +kernel
theorem dL_law_1390 : decode cL_law 1390 = .ok (.invokevirtual 177, 3) := by decide +kernel
theorem dL_law_1393 : decode cL_law 1393 = .ok (.aload_n 2, 1) := by decide +kernel
theorem dL_law_1394 : decode cL_law 1394 = .ok (.invokevirtual 180, 3) := by decide +kernel
theorem dL_law_1397 : decode cL_law 1397 = .ok (.if_icmp .eq 240, 3) := by decide +kernel
theorem dL_law_1400 : decode cL_law 1400 = .ok (.iconst 0, 1) := by decide +kernel
theorem dL_law_1401 : decode cL_law 1401 = .ok (.ireturn, 1) := by decide +kernel
theorem dL_law_1402 : decode cL_law 1402 = .ok (.aload_n 1, 1) := by decide +kernel
theorem dL_law_1403 : decode cL_law 1403 = .ok (.aload_n 0, 1) := by decide +kernel
theorem dL_law_1404 : decode cL_law 1404 = .ok (.iload_n 3, 1) := by decide +kernel
theorem dL_law_1405 : decode cL_law 1405 = .ok (.iconst 1, 1) := by decide +kernel
theorem dL_law_1406 : decode cL_law 1406 = .ok (.iadd, 1) := by decide +kernel
theorem dL_law_1407 : decode cL_law 1407 = .ok (.iaload, 1) := by decide +kernel
theorem dL_law_1408 : decode cL_law 1408 = .ok (.aload_n 0, 1) := by decide +kernel
theorem dL_law_1409 : decode cL_law 1409 = .ok (.iload_n 3, 1) := by decide +kernel
theorem dL_law_1410 : decode cL_law 1410 = .ok (.iconst 2, 1) := by decide +kernel
theorem dL_law_1411 : decode cL_law 1411 = .ok (.iadd, 1) := by decide +kernel
theorem dL_law_1412 : decode cL_law 1412 = .ok (.iaload, 1) := by decide +kernel
theorem dL_law_1413 : decode cL_law 1413 = .ok (.aload_n 0, 1) := by decide +kernel
theorem dL_law_1414 : decode cL_law 1414 = .ok (.iload_n 3, 1) := by decide +kernel
theorem dL_law_1415 : decode cL_law 1415 = .ok (.iconst 3, 1) := by decide +kernel
theorem dL_law_1416 : decode cL_law 1416 = .ok (.iadd, 1) := by decide +kernel
theorem dL_law_1417 : decode cL_law 1417 = .ok (.iaload, 1) := by decide +kernel
theorem dL_law_1418 : decode cL_law 1418 = .ok (.invokevirtual 181, 3) := by decide +kernel
theorem dL_law_1421 : decode cL_law 1421 = .ok (.aload_n 2, 1) := by decide +kernel
theorem dL_law_1422 : decode cL_law 1422 = .ok (.aload_n 0, 1) := by decide +kernel
theorem dL_law_1423 : decode cL_law 1423 = .ok (.iload_n 3, 1) := by decide +kernel
theorem dL_law_1424 : decode cL_law 1424 = .ok (.iconst 1, 1) := by decide +kernel
theorem dL_law_1425 : decode cL_law 1425 = .ok (.iadd, 1) := by decide +kernel
theorem dL_law_1426 : decode cL_law 1426 = .ok (.iaload, 1) := by decide +kernel
theorem dL_law_1427 : decode cL_law 1427 = .ok (.aload_n 0, 1) := by decide +kernel
theorem dL_law_1428 : decode cL_law 1428 = .ok (.iload_n 3, 1) := by decide +kernel
theorem dL_law_1429 : decode cL_law 1429 = .ok (.iconst 2, 1) := by decide +kernel
theorem dL_law_1430 : decode cL_law 1430 = .ok (.iadd, 1) := by decide +kernel
theorem dL_law_1431 : decode cL_law 1431 = .ok (.iaload, 1) := by decide +kernel
theorem dL_law_1432 : decode cL_law 1432 = .ok (.aload_n 0, 1) := by decide +kernel
theorem dL_law_1433 : decode cL_law 1433 = .ok (.iload_n 3, 1) := by decide +kernel
theorem dL_law_1434 : decode cL_law 1434 = .ok (.iconst 3, 1) := by decide +kernel
theorem dL_law_1435 : decode cL_law 1435 = .ok (.iadd, 1) := by decide +kernel
theorem dL_law_1436 : decode cL_law 1436 = .ok (.iaload, 1) := by decide +kernel
theorem dL_law_1437 : decode cL_law 1437 = .ok (.invokevirtual 184, 3) := by decide +kernel
theorem dL_law_1440 : decode cL_law 1440 = .ok (.if_icmp .eq 197, 3) := by decide +kernel
theorem dL_law_1443 : decode cL_law 1443 = .ok (.iconst 0, 1) := by decide +kernel
theorem dL_law_1444 : decode cL_law 1444 = .ok (.ireturn, 1) := by decide +kernel
theorem dL_law_1445 : decode cL_law 1445 = .ok (.aload_n 1, 1) := by decide +kernel
theorem dL_law_1446 : decode cL_law 1446 = .ok (.aload_n 0, 1) := by decide +kernel
theorem dL_law_1447 : decode cL_law 1447 = .ok (.iload_n 3, 1) := by decide +kernel
theorem dL_law_1448 : decode cL_law 1448 = .ok (.iconst 1, 1) := by decide +kernel
theorem dL_law_1449 : decode cL_law 1449 = .ok (.iadd, 1) := by decide +kernel
theorem dL_law_1450 : decode cL_law 1450 = .ok (.iaload, 1) := by decide +kernel
theorem dL_law_1451 : decode cL_law 1451 = .ok (.aload_n 0, 1) := by decide +kernel
theorem dL_law_1452 : decode cL_law 1452 = .ok (.iload_n 3, 1) := by decide +kernel
theorem dL_law_1453 : decode cL_law 1453 = .ok (.iconst 2, 1) := by decide +kernel
theorem dL_law_1454 : decode cL_law 1454 = .ok (.iadd, 1) := by decide +kernel
theorem dL_law_1455 : decode cL_law 1455 = .ok (.iaload, 1) := by decide +kernel
theorem dL_law_1456 : decode cL_law 1456 = .ok (.aload_n 0, 1) := by decide +kernel
theorem dL_law_1457 : decode cL_law 1457 = .ok (.iload_n 3, 1) := by decide +kernel
theorem dL_law_1458 : decode cL_law 1458 = .ok (.iconst 3, 1) := by decide +kernel
theorem dL_law_1459 : decode cL_law 1459 = .ok (.iadd, 1) := by decide +kernel
theorem dL_law_1460 : decode cL_law 1460 = .ok (.iaload, 1) := by decide +kernel
theorem dL_law_1461 : decode cL_law 1461 = .ok (.invokevirtual 185, 3) := by decide +kernel
theorem dL_law_1464 : decode cL_law 1464 = .ok (.aload_n 2, 1) := by decide +kernel
theorem dL_law_1465 : decode cL_law 1465 = .ok (.aload_n 0, 1) := by decide +kernel
theorem dL_law_1466 : decode cL_law 1466 = .ok (.iload_n 3, 1) := by decide +kernel
theorem dL_law_1467 : decode cL_law 1467 = .ok (.iconst 1, 1) := by decide +kernel
theorem dL_law_1468 : decode cL_law 1468 = .ok (.iadd, 1) := by decide +kernel
theorem dL_law_1469 : decode cL_law 1469 = .ok (.iaload, 1) := by decide +kernel
theorem dL_law_1470 : decode cL_law 1470 = .ok (.aload_n 0, 1) := by decide +kernel
theorem dL_law_1471 : decode cL_law 1471 = .ok (.iload_n 3, 1) := by decide +kernel
theorem dL_law_1472 : decode cL_law 1472 = .ok (.iconst 2, 1) := by decide +kernel
theorem dL_law_1473 : decode cL_law 1473 = .ok (.iadd, 1) := by decide +kernel
theorem dL_law_1474 : decode cL_law 1474 = .ok (.iaload, 1) := by decide +kernel
theorem dL_law_1475 : decode cL_law 1475 = .ok (.aload_n 0, 1) := by decide +kernel
theorem dL_law_1476 : decode cL_law 1476 = .ok (.iload_n 3, 1) := by decide +kernel
theorem dL_law_1477 : decode cL_law 1477 = .ok (.iconst 3, 1) := by decide +kernel
theorem dL_law_1478 : decode cL_law 1478 = .ok (.iadd, 1) := by decide +kernel
theorem dL_law_1479 : decode cL_law 1479 = .ok (.iaload, 1) := by decide +kernel
theorem dL_law_1480 : decode cL_law 1480 = .ok (.invokevirtual 188, 3) := by decide +kernel
theorem dL_law_1483 : decode cL_law 1483 = .ok (.if_icmp .eq 154, 3) := by decide +kernel
theorem dL_law_1486 : decode cL_law 1486 = .ok (.iconst 0, 1) := by decide +kernel
theorem dL_law_1487 : decode cL_law 1487 = .ok (.ireturn, 1) := by decide +kernel
theorem dL_law_1488 : decode cL_law 1488 = .ok (.aload_n 1, 1) := by decide +kernel
theorem dL_law_1489 : decode cL_law 1489 = .ok (.aload_n 0, 1) := by decide +kernel
theorem dL_law_1490 : decode cL_law 1490 = .ok (.iload_n 3, 1) := by decide +kernel
theorem dL_law_1491 : decode cL_law 1491 = .ok (.iconst 1, 1) := by decide +kernel
theorem dL_law_1492 : decode cL_law 1492 = .ok (.iadd, 1) := by decide +kernel
theorem dL_law_1493 : decode cL_law 1493 = .ok (.iaload, 1) := by decide +kernel
theorem dL_law_1494 : decode cL_law 1494 = .ok (.aload_n 0, 1) := by decide +kernel
theorem dL_law_1495 : decode cL_law 1495 = .ok (.iload_n 3, 1) := by decide +kernel
theorem dL_law_1496 : decode cL_law 1496 = .ok (.iconst 2, 1) := by decide +kernel
theorem dL_law_1497 : decode cL_law 1497 = .ok (.iadd, 1) := by decide +kernel
theorem dL_law_1498 : decode cL_law 1498 = .ok (.iaload, 1) := by decide +kernel
theorem dL_law_1499 : decode cL_law 1499 = .ok (.aload_n 0, 1) := by decide +kernel
theorem dL_law_1500 : decode cL_law 1500 = .ok (.iload_n 3, 1) := by decide +kernel
theorem dL_law_1501 : decode cL_law 1501 = .ok (.iconst 3, 1) := by decide +kernel
theorem dL_law_1502 : decode cL_law 1502 = .ok (.iadd, 1) := by decide +kernel
theorem dL_law_1503 : decode cL_law 1503 = .ok (.iaload, 1) := by decide +kernel
theorem dL_law_1504 : decode cL_law 1504 = .ok (.aload_n 0, 1) := by decide +kernel
theorem dL_law_1505 : decode cL_law 1505 = .ok (.iload_n 3, 1) := by decide +kernel
theorem dL_law_1506 : decode cL_law 1506 = .ok (.iconst 4, 1) := by decide +kernel
theorem dL_law_1507 : decode cL_law 1507 = .ok (.iadd, 1) := by decide +kernel
theorem dL_law_1508 : decode cL_law 1508 = .ok (.iaload, 1) := by decide +kernel
theorem dL_law_1509 : decode cL_law 1509 = .ok (.aload_n 0, 1) := by decide +kernel
theorem dL_law_1510 : decode cL_law 1510 = .ok (.iload_n 3, 1) := by decide +kernel
theorem dL_law_1511 : decode cL_law 1511 = .ok (.iconst 5, 1) := by decide +kernel
theorem dL_law_1512 : decode cL_law 1512 = .ok (.iadd, 1) := by decide +kernel
theorem dL_law_1513 : decode cL_law 1513 = .ok (.iaload, 1) := by decide +kernel
theorem dL_law_1514 : decode cL_law 1514 = .ok (.invokevirtual 189, 3) := by decide +kernel
theorem dL_law_1517 : decode cL_law 1517 = .ok (.aload_n 2, 1) := by decide +kernel
theorem dL_law_1518 : decode cL_law 1518 = .ok (.aload_n 0, 1) := by decide +kernel
theorem dL_law_1519 : decode cL_law 1519 = .ok (.iload_n 3, 1) := by decide +kernel
theorem dL_law_1520 : decode cL_law 1520 = .ok (.iconst 1, 1) := by decide +kernel
theorem dL_law_1521 : decode cL_law 1521 = .ok (.iadd, 1) := by decide +kernel
theorem dL_law_1522 : decode cL_law 1522 = .ok (.iaload, 1) := by decide +kernel
theorem dL_law_1523 : decode cL_law 1523 = .ok (.aload_n 0, 1) := by decide +kernel
theorem dL_law_1524 : decode cL_law 1524 = .ok (.iload_n 3, 1) := by decide +kernel
theorem dL_law_1525 : decode cL_law 1525 = .ok (.iconst 2, 1) := by decide +kernel
theorem dL_law_1526 : decode cL_law 1526 = .ok (.iadd, 1) := by decide +kernel
theorem dL_law_1527 : decode cL_law 1527 = .ok (.iaload, 1) := by decide +kernel
theorem dL_law_1528 : decode cL_law 1528 = .ok (.aload_n 0, 1) := by decide +kernel
theorem dL_law_1529 : decode cL_law 1529 = .ok (.iload_n 3, 1) := by decide +kernel
theorem dL_law_1530 : decode cL_law 1530 = .ok (.iconst 3, 1) := by decide +kernel
theorem dL_law_1531 : decode cL_law 1531 = .ok (.iadd, 1) := by decide +kernel
theorem dL_law_1532 : decode cL_law 1532 = .ok (.iaload, 1) := by decide +kernel
theorem dL_law_1533 : decode cL_law 1533 = .ok (.aload_n 0, 1) := by decide +kernel
theorem dL_law_1534 : decode cL_law 1534 = .ok (.iload_n 3, 1) := by decide +kernel
theorem dL_law_1535 : decode cL_law 1535 = .ok (.iconst 4, 1) := by decide +kernel
theorem dL_law_1536 : decode cL_law 1536 = .ok (.iadd, 1) := by decide +kernel
theorem dL_law_1537 : decode cL_law 1537 = .ok (.iaload, 1) := by decide +kernel
theorem dL_law_1538 : decode cL_law 1538 = .ok (.aload_n 0, 1) := by decide +kernel
theorem dL_law_1539 : decode cL_law 1539 = .ok (.iload_n 3, 1) := by decide +kernel
theorem dL_law_1540 : decode cL_law 1540 = .ok (.iconst 5, 1) := by decide +kernel
theorem dL_law_1541 : decode cL_law 1541 = .ok (.iadd, 1) := by decide +kernel
theorem dL_law_1542 : decode cL_law 1542 = .ok (.iaload, 1) := by decide +kernel
theorem dL_law_1543 : decode cL_law 1543 = .ok (.invokevirtual 193, 3) := by decide +kernel
theorem dL_law_1546 : decode cL_law 1546 = .ok (.if_icmp .eq 91, 3) := by decide +kernel
theorem dL_law_1549 : decode cL_law 1549 = .ok (.iconst 0, 1) := by decide +kernel
theorem dL_law_1550 : decode cL_law 1550 = .ok (.ireturn, 1) := by decide +kernel
theorem dL_law_1551 : decode cL_law 1551 = .ok (.aload_n 1, 1) := by decide +kernel
theorem dL_law_1552 : decode cL_law 1552 = .ok (.aload_n 0, 1) := by decide +kernel
theorem dL_law_1553 : decode cL_law 1553 = .ok (.iload_n 3, 1) := by decide +kernel
theorem dL_law_1554 : decode cL_law 1554 = .ok (.iconst 1, 1) := by decide +kernel
theorem dL_law_1555 : decode cL_law 1555 = .ok (.iadd, 1) := by decide +kernel
theorem dL_law_1556 : decode cL_law 1556 = .ok (.iaload, 1) := by decide +kernel
theorem dL_law_1557 : decode cL_law 1557 = .ok (.aload_n 0, 1) := by decide +kernel
theorem dL_law_1558 : decode cL_law 1558 = .ok (.iload_n 3, 1) := by decide +kernel
theorem dL_law_1559 : decode cL_law 1559 = .ok (.iconst 2, 1) := by decide +kernel
theorem dL_law_1560 : decode cL_law 1560 = .ok (.iadd, 1) := by decide +kernel
theorem dL_law_1561 : decode cL_law 1561 = .ok (.iaload, 1) := by decide +kernel
theorem dL_law_1562 : decode cL_law 1562 = .ok (.aload_n 0, 1) := by decide +kernel
theorem dL_law_1563 : decode cL_law 1563 = .ok (.iload_n 3, 1) := by decide +kernel
theorem dL_law_1564 : decode cL_law 1564 = .ok (.iconst 3, 1) := by decide +kernel
theorem dL_law_1565 : decode cL_law 1565 = .ok (.iadd, 1) := by decide +kernel
theorem dL_law_1566 : decode cL_law 1566 = .ok (.iaload, 1) := by decide +kernel
theorem dL_law_1567 : decode cL_law 1567 = .ok (.aload_n 0, 1) := by decide +kernel
theorem dL_law_1568 : decode cL_law 1568 = .ok (.iload_n 3, 1) := by decide +kernel
theorem dL_law_1569 : decode cL_law 1569 = .ok (.iconst 4, 1) := by decide +kernel
theorem dL_law_1570 : decode cL_law 1570 = .ok (.iadd, 1) := by decide +kernel
theorem dL_law_1571 : decode cL_law 1571 = .ok (.iaload, 1) := by decide +kernel
theorem dL_law_1572 : decode cL_law 1572 = .ok (.invokevirtual 194, 3) := by decide +kernel
theorem dL_law_1575 : decode cL_law 1575 = .ok (.aload_n 2, 1) := by decide +kernel
theorem dL_law_1576 : decode cL_law 1576 = .ok (.aload_n 0, 1) := by decide +kernel
theorem dL_law_1577 : decode cL_law 1577 = .ok (.iload_n 3, 1) := by decide +kernel
theorem dL_law_1578 : decode cL_law 1578 = .ok (.iconst 1, 1) := by decide +kernel
theorem dL_law_1579 : decode cL_law 1579 = .ok (.iadd, 1) := by decide +kernel
theorem dL_law_1580 : decode cL_law 1580 = .ok (.iaload, 1) := by decide +kernel
theorem dL_law_1581 : decode cL_law 1581 = .ok (.aload_n 0, 1) := by decide +kernel
theorem dL_law_1582 : decode cL_law 1582 = .ok (.iload_n 3, 1) := by decide +kernel
theorem dL_law_1583 : decode cL_law 1583 = .ok (.iconst 2, 1) := by decide +kernel
theorem dL_law_1584 : decode cL_law 1584 = .ok (.iadd, 1) := by decide +kernel
theorem dL_law_1585 : decode cL_law 1585 = .ok (.iaload, 1) := by decide +kernel
theorem dL_law_1586 : decode cL_law 1586 = .ok (.aload_n 0, 1) := by decide +kernel
theorem dL_law_1587 : decode cL_law 1587 = .ok (.iload_n 3, 1) := by decide +kernel
theorem dL_law_1588 : decode cL_law 1588 = .ok (.iconst 3, 1) := by decide +kernel
theorem dL_law_1589 : decode cL_law 1589 = .ok (.iadd, 1) := by decide +kernel
theorem dL_law_1590 : decode cL_law 1590 = .ok (.iaload, 1) := by decide +kernel
theorem dL_law_1591 : decode cL_law 1591 = .ok (.aload_n 0, 1) := by decide +kernel
theorem dL_law_1592 : decode cL_law 1592 = .ok (.iload_n 3, 1) := by decide +kernel
theorem dL_law_1593 : decode cL_law 1593 = .ok (.iconst 4, 1) := by decide +kernel
theorem dL_law_1594 : decode cL_law 1594 = .ok (.iadd, 1) := by decide +kernel
theorem dL_law_1595 : decode cL_law 1595 = .ok (.iaload, 1) := by decide +kernel
theorem dL_law_1596 : decode cL_law 1596 = .ok (.invokevirtual 197, 3) := by decide +kernel
theorem dL_law_1599 : decode cL_law 1599 = .ok (.if_icmp .eq 38, 3) := by decide +kernel
theorem dL_law_1602 : decode cL_law 1602 = .ok (.iconst 0, 1) := by decide +kernel
theorem dL_law_1603 : decode cL_law 1603 = .ok (.ireturn, 1) := by decide +kernel
theorem dL_law_1604 : decode cL_law 1604 = .ok (.aload_n 1, 1) := by decide +kernel
theorem dL_law_1605 : decode cL_law 1605 = .ok (.aload_n 0, 1) := by decide +kernel
theorem dL_law_1606 : decode cL_law 1606 = .ok (.iload_n 3, 1) := by decide +kernel
theorem dL_law_1607 : decode cL_law 1607 = .ok (.iconst 1, 1) := by decide +kernel
theorem dL_law_1608 : decode cL_law 1608 = .ok (.iadd, 1) := by decide +kernel
theorem dL_law_1609 : decode cL_law 1609 = .ok (.iaload, 1) := by decide +kernel
theorem dL_law_1610 : decode cL_law 1610 = .ok (.aload_n 0, 1) := by decide +kernel
theorem dL_law_1611 : decode cL_law 1611 = .ok (.iload_n 3, 1) := by decide +kernel
theorem dL_law_1612 : decode cL_law 1612 = .ok (.iconst 2, 1) := by decide +kernel
theorem dL_law_1613 : decode cL_law 1613 = .ok (.iadd, 1) := by decide +kernel
theorem dL_law_1614 : decode cL_law 1614 = .ok (.iaload, 1) := by decide +kernel
theorem dL_law_1615 : decode cL_law 1615 = .ok (.invokevirtual 198, 3) := by decide +kernel
theorem dL_law_1618 : decode cL_law 1618 = .ok (.aload_n 2, 1) := by decide +kernel
theorem dL_law_1619 : decode cL_law 1619 = .ok (.aload_n 0, 1) := by decide +kernel
theorem dL_law_1620 : decode cL_law 1620 = .ok (.iload_n 3, 1) := by decide +kernel
theorem dL_law_1621 : decode cL_law 1621 = .ok (.iconst 1, 1) := by decide +kernel
theorem dL_law_1622 : decode cL_law 1622 = .ok (.iadd, 1) := by decide +kernel
theorem dL_law_1623 : decode cL_law 1623 = .ok (.iaload, 1) := by decide +kernel
theorem dL_law_1624 : decode cL_law 1624 = .ok (.aload_n 0, 1) := by decide +kernel
theorem dL_law_1625 : decode cL_law 1625 = .ok (.iload_n 3, 1) := by decide +kernel
theorem dL_law_1626 : decode cL_law 1626 = .ok (.iconst 2, 1) := by decide +kernel
theorem dL_law_1627 : decode cL_law 1627 = .ok (.iadd, 1) := by decide +kernel
theorem dL_law_1628 : decode cL_law 1628 = .ok (.iaload, 1) := by decide +kernel
theorem dL_law_1629 : decode cL_law 1629 = .ok (.invokevirtual 201, 3) := by decide +kernel
theorem dL_law_1632 : decode cL_law 1632 = .ok (.if_icmp .eq 5, 3) := by decide +kernel
theorem dL_law_1635 : decode cL_law 1635 = .ok (.iconst 0, 1) := by decide +kernel
theorem dL_law_1636 : decode cL_law 1636 = .ok (.ireturn, 1) := by decide +kernel
theorem dL_law_1637 : decode cL_law 1637 = .ok (.iinc 3 7, 3) := by decide +kernel
theorem dL_law_1640 : decode cL_law 1640 = .ok (.goto (-1622), 3) := by decide +kernel
theorem dL_law_1643 : decode cL_law 1643 = .ok (.iconst 1, 1) := by decide +kernel
theorem dL_law_1644 : decode cL_law 1644 = .ok (.ireturn, 1) := by decide +kernel
