theorem dX11_when_69 : decode cX11_when 69 = .ok (.iadd, 1) := by decide +kernel
theorem dX11_when_70 : decode cX11_when 70 = .ok (.iload_n 1, 1) := by decide +kernel
theorem dX11_when_71 : decode cX11_when 71 = .ok (.ifCond .ne 14, 3) := by decide +kernel
theorem dX11_when_74 : decode cX11_when 74 = .ok (.aload_n 0, 1) := by decide +kernel
theorem dX11_when_75 : decode cX11_when 75 = .ok (.aload_n 0, 1) := by decide +kernel
theorem dX11_when_76 : decode cX11_when 76 = .ok (.getfield 16, 3) := by decide +kernel
theorem dX11_when_79 : decode cX11_when 79 = .ok (.invokevirtual 208, 3) := by decide +kernel
theorem dX11_when_82 : decode cX11_when 82 = .ok (.goto 11, 3) := by decide +kernel
theorem dX11_when_85 : decode cX11_when 85 = .ok (.aload_n 0, 1) := by decide +kernel
theorem dX11_when_86 : decode cX11_when 86 = .ok (.aload_n 0, 1) := by decide +kernel
theorem dX11_when_87 : decode cX11_when 87 = .ok (.getfield 16, 3) := by decide +kernel
theorem dX11_when_90 : decode cX11_when 90 = .ok (.invokevirtual 212, 3) := by decide +kernel
theorem dX11_when_93 : decode cX11_when 93 = .ok (.invokevirtual 214, 3) := by decide +kernel
theorem dX11_when_96 : decode cX11_when 96 = .ok (.iinc 4 1, 3) := by decide +kernel
theorem dX11_when_99 : decode cX11_when 99 = .ok (.goto (-54), 3) := by decide +kernel
theorem dX11_when_102 : decode cX11_when 102 = .ok (.iinc 3 1, 3) := by decide +kernel
theorem dX11_when_105 : decode cX11_when 105 = .ok (.goto (-74), 3) := by decide +kernel
theorem dX11_when_108 : decode cX11_when 108 = .ok (.aload_n 0, 1) := by decide +kernel
theorem dX11_when_109 : decode cX11_when 109 = .ok (.iload_n 2, 1) := by decide +kernel
theorem dX11_when_110 : decode cX11_when 110 = .ok (.invokevirtual 218, 3) := by decide +kernel
theorem dX11_when_113 : decode cX11_when 113 = .ok (.ireturn, 1) := by decide +kernel
theorem dX11_twice_0 : decode cX11_twice 0 = .ok (.iload_n 1, 1) := by decide +kernel
theorem dX11_twice_1 : decode cX11_twice 1 = .ok (.iconst 0, 1) := by decide +kernel
theorem dX11_twice_2 : decode cX11_twice 2 = .ok (.iconst 1, 1) := by decide +kernel
theorem dX11_twice_3 : decode cX11_twice 3 = .ok (.invokestatic 101, 3) := by decide +kernel
theorem dX11_twice_6 : decode cX11_twice 6 = .ok (.ifCond .ne 6, 3) := by decide +kernel
theorem dX11_twice_9 : decode cX11_twice 9 = .ok (.bipush (-2), 2) := by decide +kernel
theorem dX11_twice_11 : decode cX11_twice 11 = .ok (.ireturn, 1) := by decide +kernel
theorem dX11_twice_12 : decode cX11_twice 12 = .ok (.aload_n 0, 1) := by decide +kernel
theorem dX11_twice_13 : decode cX11_twice 13 = .ok (.invokevirtual 202, 3) := by decide +kernel
theorem dX11_twice_16 : decode cX11_twice 16 = .ok (.aload_n 0, 1) := by decide +kernel
theorem dX11_twice_17 : decode cX11_twice 17 = .ok (.invokevirtual 205, 3) := by decide +kernel
theorem dX11_twice_20 : decode cX11_twice 20 = .ok (.iconst 0, 1) := by decide +kernel
theorem dX11_twice_21 : decode cX11_twice 21 = .ok (.istore_n 2, 1) := by decide +kernel
theorem dX11_twice_22 : decode cX11_twice 22 = .ok (.iload_n 2, 1) := by decide +kernel
theorem dX11_twice_23 : decode cX11_twice 23 = .ok (.aload_n 0, 1) := by decide +kernel
theorem dX11_twice_24 : decode cX11_twice 24 = .ok (.getfield 10, 3) := by decide +kernel
theorem dX11_twice_27 : decode cX11_twice 27 = .ok (.getfield 72, 3) := by decide +kernel
theorem dX11_twice_30 : decode cX11_twice 30 = .ok (.if_icmp .ge 68, 3) := by decide +kernel
theorem dX11_twice_33 : decode cX11_twice 33 = .ok (.iload_n 2, 1) := by decide +kernel
theorem dX11_twice_34 : decode cX11_twice 34 = .ok (.iconst 1, 1) := by decide +kernel
theorem dX11_twice_35 : decode cX11_twice 35 = .ok (.iadd, 1) := by decide +kernel
theorem dX11_twice_36 : decode cX11_twice 36 = .ok (.istore_n 3, 1) := by decide +kernel
theorem dX11_twice_37 : decode cX11_twice 37 = .ok (.iload_n 3, 1) := by decide +kernel
theorem dX11_twice_38 : decode cX11_twice 38 = .ok (.aload_n 0, 1) := by decide +kernel
theorem dX11_twice_39 : decode cX11_twice 39 = .ok (.getfield 10, 3) := by decide +kernel
theorem dX11_twice_42 : decode cX11_twice 42 = .ok (.getfield 72, 3) := by decide +kernel
theorem dX11_twice_45 : decode cX11_twice 45 = .ok (.if_icmp .ge 47, 3) := by decide +kernel
theorem dX11_twice_48 : decode cX11_twice 48 = .ok (.aload_n 0, 1) := by decide +kernel
theorem dX11_twice_49 : decode cX11_twice 49 = .ok (.getfield 16, 3) := by decide +kernel
theorem dX11_twice_52 : decode cX11_twice 52 = .ok (.iconst 0, 1) := by decide +kernel
theorem dX11_twice_53 : decode cX11_twice 53 = .ok (.iload_n 2, 1) := by decide +kernel
theorem dX11_twice_54 : decode cX11_twice 54 = .ok (.iconst 2, 1) := by decide +kernel
theorem dX11_twice_55 : decode cX11_twice 55 = .ok (.invokevirtual 167, 3) := by decide +kernel
theorem dX11_twice_58 : decode cX11_twice 58 = .ok (.aload_n 0, 1) := by decide +kernel
theorem dX11_twice_59 : decode cX11_twice 59 = .ok (.getfield 16, 3) := by decide +kernel
theorem dX11_twice_62 : decode cX11_twice 62 = .ok (.iconst 1, 1) := by decide +kernel
theorem dX11_twice_63 : decode cX11_twice 63 = .ok (.iload_n 3, 1) := by decide +kernel
theorem dX11_twice_64 : decode cX11_twice 64 = .ok (.iconst 2, 1) := by decide +kernel
theorem dX11_twice_65 : decode cX11_twice 65 = .ok (.invokevirtual 167, 3) := by decide +kernel
theorem dX11_twice_68 : decode cX11_twice 68 = .ok (.aload_n 0, 1) := by decide +kernel
theorem dX11_twice_69 : decode cX11_twice 69 = .ok (.bipush 100, 2) := by decide +kernel
theorem dX11_twice_71 : decode cX11_twice 71 = .ok (.iload_n 2, 1) := by decide +kernel
theorem dX11_twice_72 : decode cX11_twice 72 = .ok (.imul, 1) := by decide +kernel
theorem dX11_twice_73 : decode cX11_twice 73 = .ok (.iload_n 3, 1) := by decide +kernel
theorem dX11_twice_74 : decode cX11_twice 74 = .ok (.iadd, 1) := by decide +kernel
theorem dX11_twice_75 : decode cX11_twice 75 = .ok (.aload_n 0, 1) := by decide +kernel
theorem dX11_twice_76 : decode cX11_twice 76 = .ok (.aload_n 0, 1) := by decide +kernel
theorem dX11_twice_77 : decode cX11_twice 77 = .ok (.getfield 16, 3) := by decide +kernel
theorem dX11_twice_80 : decode cX11_twice 80 = .ok (.invokevirtual 208, 3) := by decide +kernel
theorem dX11_twice_83 : decode cX11_twice 83 = .ok (.invokevirtual 214, 3) := by decide +kernel
theorem dX11_twice_86 : decode cX11_twice 86 = .ok (.iinc 3 1, 3) := by decide +kernel
theorem dX11_twice_89 : decode cX11_twice 89 = .ok (.goto (-52), 3) := by decide +kernel
theorem dX11_twice_92 : decode cX11_twice 92 = .ok (.iinc 2 1, 3) := by decide +kernel
theorem dX11_twice_95 : decode cX11_twice 95 = .ok (.goto (-73), 3) := by decide +kernel
theorem dX11_twice_98 : decode cX11_twice 98 = .ok (.aload_n 0, 1) := by decide +kernel
theorem dX11_twice_99 : decode cX11_twice 99 = .ok (.iload_n 1, 1) := by decide +kernel
theorem dX11_twice_100 : decode cX11_twice 100 = .ok (.invokevirtual 218, 3) := by decide +kernel
theorem dX11_twice_103 : decode cX11_twice 103 = .ok (.ireturn, 1) := by decide +kernel
theorem dX11_until_0 : decode cX11_until 0 = .ok (.iload_n 1, 1) := by decide +kernel
theorem dX11_until_1 : decode cX11_until 1 = .ok (.iconst 0, 1) := by decide +kernel
theorem dX11_until_2 : decode cX11_until 2 = .ok (.iconst 1, 1) := by decide +kernel
theorem dX11_until_3 : decode cX11_until 3 = .ok (.invokestatic 101, 3) := by decide +kernel
theorem dX11_until_6 : decode cX11_until 6 = .ok (.ifCond .ne 6, 3) := by decide +kernel
theorem dX11_until_9 : decode cX11_until 9 = .ok (.bipush (-2), 2) := by decide +kernel
theorem dX11_until_11 : decode cX11_until 11 = .ok (.ireturn, 1) := by decide +kernel
theorem dX11_until_12 : decode cX11_until 12 = .ok (.aload_n 0, 1) := by decide +kernel
theorem dX11_until_13 : decode cX11_until 13 = .ok (.aload_n 0, 1) := by decide +kernel
theorem dX11_until_14 : decode cX11_until 14 = .ok (.getfield 10, 3) := by decide +kernel
theorem dX11_until_17 : decode cX11_until 17 = .ok (.invokevirtual 129, 3) := by decide +kernel
theorem dX11_until_20 : decode cX11_until 20 = .ok (.aload_n 0, 1) := by decide +kernel
theorem dX11_until_21 : decode cX11_until 21 = .ok (.invokevirtual 205, 3) := by decide +kernel
theorem dX11_until_24 : decode cX11_until 24 = .ok (.iconst 1, 1) := by decide +kernel
theorem dX11_until_25 : decode cX11_until 25 = .ok (.istore_n 2, 1) := by decide +kernel
theorem dX11_until_26 : decode cX11_until 26 = .ok (.iload_n 2, 1) := by decide +kernel
theorem dX11_until_27 : decode cX11_until 27 = .ok (.bipush 40, 2) := by decide +kernel
theorem dX11_until_29 : decode cX11_until 29 = .ok (.if_icmp .gt 28, 3) := by decide +kernel
theorem dX11_until_32 : decode cX11_until 32 = .ok (.aload_n 0, 1) := by decide +kernel
theorem dX11_until_33 : decode cX11_until 33 = .ok (.getfield 25, 3) := by decide +kernel
theorem dX11_until_36 : decode cX11_until 36 = .ok (.invokevirtual 221, 3) := by decide +kernel
theorem dX11_until_39 : decode cX11_until 39 = .ok (.aload_n 0, 1) := by decide +kernel
theorem dX11_until_40 : decode cX11_until 40 = .ok (.iload_n 2, 1) := by decide +kernel
theorem dX11_until_41 : decode cX11_until 41 = .ok (.aload_n 0, 1) := by decide +kernel
theorem dX11_until_42 : decode cX11_until 42 = .ok (.getfield 25, 3) := by decide +kernel
theorem dX11_until_45 : decode cX11_until 45 = .ok (.invokevirtual 181, 3) := by decide +kernel
theorem dX11_until_48 : decode cX11_until 48 = .ok (.invokevirtual 214, 3) := by decide +kernel
theorem dX11_until_51 : decode cX11_until 51 = .ok (.iinc 2 1, 3) := by decide +kernel
theorem dX11_until_54 : decode cX11_until 54 = .ok (.goto (-28), 3) := by decide +kernel
theorem dX11_until_57 : decode cX11_until 57 = .ok (.aload_n 0, 1) := by decide +kernel
theorem dX11_until_58 : decode cX11_until 58 = .ok (.iload_n 1, 1) := by decide +kernel
theorem dX11_until_59 : decode cX11_until 59 = .ok (.invokevirtual 218, 3) := by decide +kernel
theorem dX11_until_62 : decode cX11_until 62 = .ok (.ireturn, 1) := by decide +kernel
theorem dX11_out_0 : decode cX11_out 0 = .ok (.aload_n 0, 1) := by decide +kernel
theorem dX11_out_1 : decode cX11_out 1 = .ok (.iload_n 1, 1) := by decide +kernel
theorem dX11_out_2 : decode cX11_out 2 = .ok (.invokevirtual 126, 3) := by decide +kernel
theorem dX11_out_5 : decode cX11_out 5 = .ok (.ifCond .ne 6, 3) := by decide +kernel
theorem dX11_out_8 : decode cX11_out 8 = .ok (.bipush (-5), 2) := by decide +kernel
theorem dX11_out_10 : decode cX11_out 10 = .ok (.ireturn, 1) := by decide +kernel
theorem dX11_out_11 : decode cX11_out 11 = .ok (.iload_n 2, 1) := by decide +kernel
theorem dX11_out_12 : decode cX11_out 12 = .ok (.iconst 0, 1) := by decide +kernel
theorem dX11_out_13 : decode cX11_out 13 = .ok (.iconst 1, 1) := by decide +kernel
theorem dX11_out_14 : decode cX11_out 14 = .ok (.invokestatic 101, 3) := by decide +kernel
theorem dX11_out_17 : decode cX11_out 17 = .ok (.ifCond .ne 6, 3) := by decide +kernel
theorem dX11_out_20 : decode cX11_out 20 = .ok (.bipush (-7), 2) := by decide +kernel
theorem dX11_out_22 : decode cX11_out 22 = .ok (.ireturn, 1) := by decide +kernel
theorem dX11_out_23 : decode cX11_out 23 = .ok (.aload_n 0, 1) := by decide +kernel
theorem dX11_out_24 : decode cX11_out 24 = .ok (.iload_n 1, 1) := by decide +kernel
theorem dX11_out_25 : decode cX11_out 25 = .ok (.invokevirtual 224, 3) := by decide +kernel
theorem dX11_out_28 : decode cX11_out 28 = .ok (.aload_n 0, 1) := by decide +kernel
theorem dX11_out_29 : decode cX11_out 29 = .ok (.iload_n 2, 1) := by decide +kernel
theorem dX11_out_30 : decode cX11_out 30 = .ok (.invokevirtual 218, 3) := by decide +kernel
theorem dX11_out_33 : decode cX11_out 33 = .ok (.ireturn, 1) := by decide +kernel
theorem dX11_weighOut_0 : decode cX11_weighOut 0 = .ok (.aload_n 0, 1) := by decide +kernel
theorem dX11_weighOut_1 : decode cX11_weighOut 1 = .ok (.aload_n 0, 1) := by decide +kernel
theorem dX11_weighOut_2 : decode cX11_weighOut 2 = .ok (.getfield 10, 3) := by decide +kernel
theorem dX11_weighOut_5 : decode cX11_weighOut 5 = .ok (.invokevirtual 129, 3) := by decide +kernel
theorem dX11_weighOut_8 : decode cX11_weighOut 8 = .ok (.aload_n 0, 1) := by decide +kernel
theorem dX11_weighOut_9 : decode cX11_weighOut 9 = .ok (.invokevirtual 205, 3) := by decide +kernel
theorem dX11_weighOut_12 : decode cX11_weighOut 12 = .ok (.aload_n 0, 1) := by decide +kernel
theorem dX11_weighOut_13 : decode cX11_weighOut 13 = .ok (.iconst 0, 1) := by decide +kernel
theorem dX11_weighOut_14 : decode cX11_weighOut 14 = .ok (.aload_n 0, 1) := by decide +kernel
theorem dX11_weighOut_15 : decode cX11_weighOut 15 = .ok (.getfield 25, 3) := by decide +kernel
theorem dX11_weighOut_18 : decode cX11_weighOut 18 = .ok (.iload_n 1, 1) := by decide +kernel
theorem dX11_weighOut_19 : decode cX11_weighOut 19 = .ok (.invokevirtual 199, 3) := by decide +kernel
theorem dX11_weighOut_22 : decode cX11_weighOut 22 = .ok (.invokevirtual 214, 3) := by decide +kernel
theorem dX11_weighOut_25 : decode cX11_weighOut 25 = .ok (.iconst 1, 1) := by decide +kernel
theorem dX11_weighOut_26 : decode cX11_weighOut 26 = .ok (.istore_n 2, 1) := by decide +kernel
theorem dX11_weighOut_27 : decode cX11_weighOut 27 = .ok (.iload_n 2, 1) := by decide +kernel
theorem dX11_weighOut_28 : decode cX11_weighOut 28 = .ok (.aload_n 0, 1) := by decide +kernel
theorem dX11_weighOut_29 : decode cX11_weighOut 29 = .ok (.getfield 10, 3) := by decide +kernel
theorem dX11_weighOut_32 : decode cX11_weighOut 32 = .ok (.getfield 72, 3) := by decide +kernel
theorem dX11_weighOut_35 : decode cX11_weighOut 35 = .ok (.if_icmp .gt 29, 3) := by decide +kernel
theorem dX11_weighOut_38 : decode cX11_weighOut 38 = .ok (.aload_n 0, 1) := by decide +kernel
theorem dX11_weighOut_39 : decode cX11_weighOut 39 = .ok (.getfield 25, 3) := by decide +kernel
theorem dX11_weighOut_42 : decode cX11_weighOut 42 = .ok (.invokevirtual 221, 3) := by decide +kernel
theorem dX11_weighOut_45 : decode cX11_weighOut 45 = .ok (.aload_n 0, 1) := by decide +kernel
theorem dX11_weighOut_46 : decode cX11_weighOut 46 = .ok (.iload_n 2, 1) := by decide +kernel
theorem dX11_weighOut_47 : decode cX11_weighOut 47 = .ok (.aload_n 0, 1) := by decide +kernel
theorem dX11_weighOut_48 : decode cX11_weighOut 48 = .ok (.getfield 25, 3) := by decide +kernel
theorem dX11_weighOut_51 : decode cX11_weighOut 51 = .ok (.iload_n 1, 1) := by decide +kernel
theorem dX11_weighOut_52 : decode cX11_weighOut 52 = .ok (.invokevirtual 199, 3) := by decide +kernel
theorem dX11_weighOut_55 : decode cX11_weighOut 55 = .ok (.invokevirtual 214, 3) := by decide +kernel
theorem dX11_weighOut_58 : decode cX11_weighOut 58 = .ok (.iinc 2 1, 3) := by decide +kernel
theorem dX11_weighOut_61 : decode cX11_weighOut 61 = .ok (.goto (-34), 3) := by decide +kernel
theorem dX11_weighOut_64 : decode cX11_weighOut 64 = .ok (.return_, 1) := by decide +kernel
theorem dX11_singly_0 : decode cX11_singly 0 = .ok (.iconst 0, 1) := by decide +kernel
theorem dX11_singly_1 : decode cX11_singly 1 = .ok (.istore_n 1, 1) := by decide +kernel
theorem dX11_singly_2 : decode cX11_singly 2 = .ok (.iconst 0, 1) := by decide +kernel
theorem dX11_singly_3 : decode cX11_singly 3 = .ok (.istore_n 2, 1) := by decide +kernel
theorem dX11_singly_4 : decode cX11_singly 4 = .ok (.iload_n 2, 1) := by decide +kernel
theorem dX11_singly_5 : decode cX11_singly 5 = .ok (.aload_n 0, 1) := by decide +kernel
theorem dX11_singly_6 : decode cX11_singly 6 = .ok (.getfield 10, 3) := by decide +kernel
theorem dX11_singly_9 : decode cX11_singly 9 = .ok (.getfield 68, 3) := by decide +kernel
theorem dX11_singly_12 : decode cX11_singly 12 = .ok (.if_icmp .ge 21, 3) := by decide +kernel
theorem dX11_singly_15 : decode cX11_singly 15 = .ok (.aload_n 0, 1) := by decide +kernel
theorem dX11_singly_16 : decode cX11_singly 16 = .ok (.iload_n 2, 1) := by decide +kernel
theorem dX11_singly_17 : decode cX11_singly 17 = .ok (.invokevirtual 224, 3) := by decide +kernel
theorem dX11_singly_20 : decode cX11_singly 20 = .ok (.iload_n 1, 1) := by decide +kernel
theorem dX11_singly_21 : decode cX11_singly 21 = .ok (.aload_n 0, 1) := by decide +kernel
theorem dX11_singly_22 : decode cX11_singly 22 = .ok (.getfield 227, 3) := by decide +kernel
theorem dX11_singly_25 : decode cX11_singly 25 = .ok (.iadd, 1) := by decide +kernel
theorem dX11_singly_26 : decode cX11_singly 26 = .ok (.istore_n 1, 1) := by decide +kernel
theorem dX11_singly_27 : decode cX11_singly 27 = .ok (.iinc 2 1, 3) := by decide +kernel
theorem dX11_singly_30 : decode cX11_singly 30 = .ok (.goto (-26), 3) := by decide +kernel
theorem dX11_singly_33 : decode cX11_singly 33 = .ok (.iload_n 1, 1) := by decide +kernel
theorem dX11_singly_34 : decode cX11_singly 34 = .ok (.ireturn, 1) := by decide +kernel
theorem dX11_soon_0 : decode cX11_soon 0 = .ok (.aload_n 0, 1) := by decide +kernel
theorem dX11_soon_1 : decode cX11_soon 1 = .ok (.iload_n 1, 1) := by decide +kernel
theorem dX11_soon_2 : decode cX11_soon 2 = .ok (.invokevirtual 126, 3) := by decide +kernel
theorem dX11_soon_5 : decode cX11_soon 5 = .ok (.ifCond .ne 6, 3) := by decide +kernel
theorem dX11_soon_8 : decode cX11_soon 8 = .ok (.bipush (-5), 2) := by decide +kernel
theorem dX11_soon_10 : decode cX11_soon 10 = .ok (.ireturn, 1) := by decide +kernel
theorem dX11_soon_11 : decode cX11_soon 11 = .ok (.iload_n 2, 1) := by decide +kernel
theorem dX11_soon_12 : decode cX11_soon 12 = .ok (.iconst 0, 1) := by decide +kernel
theorem dX11_soon_13 : decode cX11_soon 13 = .ok (.sipush 999, 3) := by decide +kernel
theorem dX11_soon_16 : decode cX11_soon 16 = .ok (.invokestatic 101, 3) := by decide +kernel
theorem dX11_soon_19 : decode cX11_soon 19 = .ok (.ifCond .ne 6, 3) := by decide +kernel
theorem dX11_soon_22 : decode cX11_soon 22 = .ok (.bipush (-7), 2) := by decide +kernel
theorem dX11_soon_24 : decode cX11_soon 24 = .ok (.ireturn, 1) := by decide +kernel
theorem dX11_soon_25 : decode cX11_soon 25 = .ok (.aload_n 0, 1) := by decide +kernel
theorem dX11_soon_26 : decode cX11_soon 26 = .ok (.aload_n 0, 1) := by decide +kernel
theorem dX11_soon_27 : decode cX11_soon 27 = .ok (.getfield 10, 3) := by decide +kernel
theorem dX11_soon_30 : decode cX11_soon 30 = .ok (.invokevirtual 129, 3) := by decide +kernel
theorem dX11_soon_33 : decode cX11_soon 33 = .ok (.iconst 0, 1) := by decide +kernel
theorem dX11_soon_34 : decode cX11_soon 34 = .ok (.istore_n 3, 1) := by decide +kernel
theorem dX11_soon_35 : decode cX11_soon 35 = .ok (.iload_n 3, 1) := by decide +kernel
theorem dX11_soon_36 : decode cX11_soon 36 = .ok (.aload_n 0, 1) := by decide +kernel
theorem dX11_soon_37 : decode cX11_soon 37 = .ok (.getfield 10, 3) := by decide +kernel
theorem dX11_soon_40 : decode cX11_soon 40 = .ok (.getfield 72, 3) := by decide +kernel
theorem dX11_soon_43 : decode cX11_soon 43 = .ok (.if_icmp .gt 31, 3) := by decide +kernel
theorem dX11_soon_46 : decode cX11_soon 46 = .ok (.aload_n 0, 1) := by decide +kernel
theorem dX11_soon_47 : decode cX11_soon 47 = .ok (.getfield 25, 3) := by decide +kernel
theorem dX11_soon_50 : decode cX11_soon 50 = .ok (.getfield 178, 3) := by decide +kernel
theorem dX11_soon_53 : decode cX11_soon 53 = .ok (.iload_n 1, 1) := by decide +kernel
theorem dX11_soon_54 : decode cX11_soon 54 = .ok (.iaload, 1) := by decide +kernel
theorem dX11_soon_55 : decode cX11_soon 55 = .ok (.iload_n 2, 1) := by decide +kernel
theorem dX11_soon_56 : decode cX11_soon 56 = .ok (.if_icmp .lt 5, 3) := by decide +kernel
theorem dX11_soon_59 : decode cX11_soon 59 = .ok (.iload_n 3, 1) := by decide +kernel
theorem dX11_soon_60 : decode cX11_soon 60 = .ok (.ireturn, 1) := by decide +kernel
theorem dX11_soon_61 : decode cX11_soon 61 = .ok (.aload_n 0, 1) := by decide +kernel
theorem dX11_soon_62 : decode cX11_soon 62 = .ok (.getfield 25, 3) := by decide +kernel
theorem dX11_soon_65 : decode cX11_soon 65 = .ok (.invokevirtual 221, 3) := by decide +kernel
theorem dX11_soon_68 : decode cX11_soon 68 = .ok (.iinc 3 1, 3) := by decide +kernel
theorem dX11_soon_71 : decode cX11_soon 71 = .ok (.goto (-36), 3) := by decide +kernel
theorem dX11_soon_74 : decode cX11_soon 74 = .ok (.iconst (-1), 1) := by decide +kernel
theorem dX11_soon_75 : decode cX11_soon 75 = .ok (.ireturn, 1) := by decide +kernel
theorem dX11_few_0 : decode cX11_few 0 = .ok (.iload_n 1, 1) := by decide +kernel
theorem dX11_few_1 : decode cX11_few 1 = .ok (.iconst 0, 1) := by decide +kernel
theorem dX11_few_2 : decode cX11_few 2 = .ok (.sipush 999, 3) := by decide +kernel
theorem dX11_few_5 : decode cX11_few 5 = .ok (.invokestatic 101, 3) := by decide +kernel
theorem dX11_few_8 : decode cX11_few 8 = .ok (.ifCond .ne 6, 3) := by decide +kernel
theorem dX11_few_11 : decode cX11_few 11 = .ok (.bipush (-2), 2) := by decide +kernel
theorem dX11_few_13 : decode cX11_few 13 = .ok (.ireturn, 1) := by decide +kernel
theorem dX11_few_14 : decode cX11_few 14 = .ok (.aload_n 0, 1) := by decide +kernel
theorem dX11_few_15 : decode cX11_few 15 = .ok (.invokevirtual 202, 3) := by decide +kernel
theorem dX11_few_18 : decode cX11_few 18 = .ok (.iconst 0, 1) := by decide +kernel
theorem dX11_few_19 : decode cX11_few 19 = .ok (.istore_n 2, 1) := by decide +kernel
theorem dX11_few_20 : decode cX11_few 20 = .ok (.iload_n 2, 1) := by decide +kernel
theorem dX11_few_21 : decode cX11_few 21 = .ok (.aload_n 0, 1) := by decide +kernel
theorem dX11_few_22 : decode cX11_few 22 = .ok (.getfield 10, 3) := by decide +kernel
theorem dX11_few_25 : decode cX11_few 25 = .ok (.getfield 78, 3) := by decide +kernel
theorem dX11_few_28 : decode cX11_few 28 = .ok (.if_icmp .gt 31, 3) := by decide +kernel
theorem dX11_few_31 : decode cX11_few 31 = .ok (.aload_n 0, 1) := by decide +kernel
theorem dX11_few_32 : decode cX11_few 32 = .ok (.getfield 16, 3) := by decide +kernel
theorem dX11_few_35 : decode cX11_few 35 = .ok (.iload_n 2, 1) := by decide +kernel
theorem dX11_few_36 : decode cX11_few 36 = .ok (.putfield 78, 3) := by decide +kernel
theorem dX11_few_39 : decode cX11_few 39 = .ok (.aload_n 0, 1) := by decide +kernel
theorem dX11_few_40 : decode cX11_few 40 = .ok (.aload_n 0, 1) := by decide +kernel
theorem dX11_few_41 : decode cX11_few 41 = .ok (.getfield 16, 3) := by decide +kernel
theorem dX11_few_44 : decode cX11_few 44 = .ok (.invokevirtual 208, 3) := by decide +kernel
theorem dX11_few_47 : decode cX11_few 47 = .ok (.iload_n 1, 1) := by decide +kernel
theorem dX11_few_48 : decode cX11_few 48 = .ok (.if_icmp .gt 5, 3) := by decide +kernel
theorem dX11_few_51 : decode cX11_few 51 = .ok (.iload_n 2, 1) := by decide +kernel
theorem dX11_few_52 : decode cX11_few 52 = .ok (.ireturn, 1) := by decide +kernel
theorem dX11_few_53 : decode cX11_few 53 = .ok (.iinc 2 1, 3) := by decide +kernel
theorem dX11_few_56 : decode cX11_few 56 = .ok (.goto (-36), 3) := by decide +kernel
theorem dX11_few_59 : decode cX11_few 59 = .ok (.iconst (-1), 1) := by decide +kernel
theorem dX11_few_60 : decode cX11_few 60 = .ok (.ireturn, 1) := by decide +kernel
theorem dX11_fan_0 : decode cX11_fan 0 = .ok (.aload_n 0, 1) := by decide +kernel
theorem dX11_fan_1 : decode cX11_fan 1 = .ok (.invokevirtual 202, 3) := by decide +kernel
theorem dX11_fan_4 : decode cX11_fan 4 = .ok (.iconst 0, 1) := by decide +kernel
theorem dX11_fan_5 : decode cX11_fan 5 = .ok (.istore_n 1, 1) := by decide +kernel
theorem dX11_fan_6 : decode cX11_fan 6 = .ok (.iconst 0, 1) := by decide +kernel
theorem dX11_fan_7 : decode cX11_fan 7 = .ok (.istore_n 2, 1) := by decide +kernel
theorem dX11_fan_8 : decode cX11_fan 8 = .ok (.iload_n 2, 1) := by decide +kernel
theorem dX11_fan_9 : decode cX11_fan 9 = .ok (.bipush 16, 2) := by decide +kernel
theorem dX11_fan_11 : decode cX11_fan 11 = .ok (.if_icmp .ge 21, 3) := by decide +kernel
theorem dX11_fan_14 : decode cX11_fan 14 = .ok (.iload_n 1, 1) := by decide +kernel
theorem dX11_fan_15 : decode cX11_fan 15 = .ok (.aload_n 0, 1) := by decide +kernel
theorem dX11_fan_16 : decode cX11_fan 16 = .ok (.getfield 10, 3) := by decide +kernel
theorem dX11_fan_19 : decode cX11_fan 19 = .ok (.getfield 105, 3) := by decide +kernel
theorem dX11_fan_22 : decode cX11_fan 22 = .ok (.iload_n 2, 1) := by decide +kernel
theorem dX11_fan_23 : decode cX11_fan 23 = .ok (.iaload, 1) := by decide +kernel
theorem dX11_fan_24 : decode cX11_fan 24 = .ok (.iadd, 1) := by decide +kernel
theorem dX11_fan_25 : decode cX11_fan 25 = .ok (.istore_n 1, 1) := by decide +kernel
theorem dX11_fan_26 : decode cX11_fan 26 = .ok (.iinc 2 1, 3) := by decide +kernel
theorem dX11_fan_29 : decode cX11_fan 29 = .ok (.goto (-21), 3) := by decide +kernel
theorem dX11_fan_32 : decode cX11_fan 32 = .ok (.iconst 0, 1) := by decide +kernel
theorem dX11_fan_33 : decode cX11_fan 33 = .ok (.istore_n 2, 1) := by decide +kernel
theorem dX11_fan_34 : decode cX11_fan 34 = .ok (.iload_n 2, 1) := by decide +kernel
theorem dX11_fan_35 : decode cX11_fan 35 = .ok (.bipush 16, 2) := by decide +kernel
theorem dX11_fan_37 : decode cX11_fan 37 = .ok (.if_icmp .ge 22, 3) := by decide +kernel
theorem dX11_fan_40 : decode cX11_fan 40 = .ok (.aload_n 0, 1) := by decide +kernel
theorem dX11_fan_41 : decode cX11_fan 41 = .ok (.getfield 16, 3) := by decide +kernel
theorem dX11_fan_44 : decode cX11_fan 44 = .ok (.getfield 105, 3) := by decide +kernel
theorem dX11_fan_47 : decode cX11_fan 47 = .ok (.iload_n 2, 1) := by decide +kernel
theorem dX11_fan_48 : decode cX11_fan 48 = .ok (.iload_n 1, 1) := by decide +kernel
theorem dX11_fan_49 : decode cX11_fan 49 = .ok (.bipush 16, 2) := by decide +kernel
theorem dX11_fan_51 : decode cX11_fan 51 = .ok (.idiv, 1) := by decide +kernel
theorem dX11_fan_52 : decode cX11_fan 52 = .ok (.iastore, 1) := by decide +kernel
theorem dX11_fan_53 : decode cX11_fan 53 = .ok (.iinc 2 1, 3) := by decide +kernel
theorem dX11_fan_56 : decode cX11_fan 56 = .ok (.goto (-22), 3) := by decide +kernel
theorem dX11_fan_59 : decode cX11_fan 59 = .ok (.aload_n 0, 1) := by decide +kernel
theorem dX11_fan_60 : decode cX11_fan 60 = .ok (.aload_n 0, 1) := by decide +kernel
theorem dX11_fan_61 : decode cX11_fan 61 = .ok (.getfield 10, 3) := by decide +kernel
theorem dX11_fan_64 : decode cX11_fan 64 = .ok (.invokevirtual 212, 3) := by decide +kernel
theorem dX11_fan_67 : decode cX11_fan 67 = .ok (.aload_n 0, 1) := by decide +kernel
theorem dX11_fan_68 : decode cX11_fan 68 = .ok (.aload_n 0, 1) := by decide +kernel
theorem dX11_fan_69 : decode cX11_fan 69 = .ok (.getfield 16, 3) := by decide +kernel
theorem dX11_fan_72 : decode cX11_fan 72 = .ok (.invokevirtual 212, 3) := by decide +kernel
theorem dX11_fan_75 : decode cX11_fan 75 = .ok (.isub, 1) := by decide +kernel
theorem dX11_fan_76 : decode cX11_fan 76 = .ok (.ireturn, 1) := by decide +kernel
theorem dX11_cost_0 : decode cX11_cost 0 = .ok (.aload_n 0, 1) := by decide +kernel
theorem dX11_cost_1 : decode cX11_cost 1 = .ok (.invokevirtual 202, 3) := by decide +kernel
theorem dX11_cost_4 : decode cX11_cost 4 = .ok (.aload_n 0, 1) := by decide +kernel
theorem dX11_cost_5 : decode cX11_cost 5 = .ok (.getfield 16, 3) := by decide +kernel
theorem dX11_cost_8 : decode cX11_cost 8 = .ok (.iconst 0, 1) := by decide +kernel
theorem dX11_cost_9 : decode cX11_cost 9 = .ok (.putfield 78, 3) := by decide +kernel
theorem dX11_cost_12 : decode cX11_cost 12 = .ok (.aload_n 0, 1) := by decide +kernel
theorem dX11_cost_13 : decode cX11_cost 13 = .ok (.aload_n 0, 1) := by decide +kernel
theorem dX11_cost_14 : decode cX11_cost 14 = .ok (.getfield 10, 3) := by decide +kernel
theorem dX11_cost_17 : decode cX11_cost 17 = .ok (.invokevirtual 212, 3) := by decide +kernel
theorem dX11_cost_20 : decode cX11_cost 20 = .ok (.aload_n 0, 1) := by decide +kernel
theorem dX11_cost_21 : decode cX11_cost 21 = .ok (.aload_n 0, 1) := by decide +kernel
theorem dX11_cost_22 : decode cX11_cost 22 = .ok (.getfield 16, 3) := by decide +kernel
theorem dX11_cost_25 : decode cX11_cost 25 = .ok (.invokevirtual 212, 3) := by decide +kernel
theorem dX11_cost_28 : decode cX11_cost 28 = .ok (.isub, 1) := by decide +kernel
theorem dX11_cost_29 : decode cX11_cost 29 = .ok (.ireturn, 1) := by decide +kernel
theorem dX11_lay_0 : decode cX11_lay 0 = .ok (.aload_n 0, 1) := by decide +kernel
theorem dX11_lay_1 : decode cX11_lay 1 = .ok (.iload_n 1, 1) := by decide +kernel
theorem dX11_lay_2 : decode cX11_lay 2 = .ok (.invokevirtual 126, 3) := by decide +kernel
theorem dX11_lay_5 : decode cX11_lay 5 = .ok (.ifCond .ne 6, 3) := by decide +kernel
theorem dX11_lay_8 : decode cX11_lay 8 = .ok (.bipush (-5), 2) := by decide +kernel
theorem dX11_lay_10 : decode cX11_lay 10 = .ok (.ireturn, 1) := by decide +kernel
theorem dX11_lay_11 : decode cX11_lay 11 = .ok (.iload_n 2, 1) := by decide +kernel
theorem dX11_lay_12 : decode cX11_lay 12 = .ok (.iconst 0, 1) := by decide +kernel
theorem dX11_lay_13 : decode cX11_lay 13 = .ok (.iconst 1, 1) := by decide +kernel
theorem dX11_lay_14 : decode cX11_lay 14 = .ok (.invokestatic 101, 3) := by decide +kernel
theorem dX11_lay_17 : decode cX11_lay 17 = .ok (.ifCond .ne 6, 3) := by decide +kernel
theorem dX11_lay_20 : decode cX11_lay 20 = .ok (.bipush (-7), 2) := by decide +kernel
theorem dX11_lay_22 : decode cX11_lay 22 = .ok (.ireturn, 1) := by decide +kernel
theorem dX11_lay_23 : decode cX11_lay 23 = .ok (.aload_n 0, 1) := by decide +kernel
theorem dX11_lay_24 : decode cX11_lay 24 = .ok (.invokevirtual 202, 3) := by decide +kernel
theorem dX11_lay_27 : decode cX11_lay 27 = .ok (.aload_n 0, 1) := by decide +kernel
theorem dX11_lay_28 : decode cX11_lay 28 = .ok (.invokevirtual 205, 3) := by decide +kernel
theorem dX11_lay_31 : decode cX11_lay 31 = .ok (.iconst 0, 1) := by decide +kernel
theorem dX11_lay_32 : decode cX11_lay 32 = .ok (.istore_n 3, 1) := by decide +kernel
theorem dX11_lay_33 : decode cX11_lay 33 = .ok (.iload_n 3, 1) := by decide +kernel
theorem dX11_lay_34 : decode cX11_lay 34 = .ok (.bipush 16, 2) := by decide +kernel
theorem dX11_lay_36 : decode cX11_lay 36 = .ok (.if_icmp .ge 69, 3) := by decide +kernel
theorem dX11_lay_39 : decode cX11_lay 39 = .ok (.aload_n 0, 1) := by decide +kernel
theorem dX11_lay_40 : decode cX11_lay 40 = .ok (.getfield 10, 3) := by decide +kernel
theorem dX11_lay_43 : decode cX11_lay 43 = .ok (.iload_n 3, 1) := by decide +kernel
theorem dX11_lay_44 : decode cX11_lay 44 = .ok (.invokevirtual 140, 3) := by decide +kernel
theorem dX11_lay_47 : decode cX11_lay 47 = .ok (.istore 4, 2) := by decide +kernel
theorem dX11_lay_49 : decode cX11_lay 49 = .ok (.iload 4, 2) := by decide +kernel
theorem dX11_lay_51 : decode cX11_lay 51 = .ok (.iconst (-1), 1) := by decide +kernel
theorem dX11_lay_52 : decode cX11_lay 52 = .ok (.if_icmp .eq 9, 3) := by decide +kernel
theorem dX11_lay_55 : decode cX11_lay 55 = .ok (.iload 4, 2) := by decide +kernel
theorem dX11_lay_57 : decode cX11_lay 57 = .ok (.iload_n 1, 1) := by decide +kernel
theorem dX11_lay_58 : decode cX11_lay 58 = .ok (.if_icmp .ne 41, 3) := by decide +kernel
theorem dX11_lay_61 : decode cX11_lay 61 = .ok (.aload_n 0, 1) := by decide +kernel
theorem dX11_lay_62 : decode cX11_lay 62 = .ok (.getfield 16, 3) := by decide +kernel
theorem dX11_lay_65 : decode cX11_lay 65 = .ok (.getfield 152, 3) := by decide +kernel
theorem dX11_lay_68 : decode cX11_lay 68 = .ok (.iload_n 1, 1) := by decide +kernel
theorem dX11_lay_69 : decode cX11_lay 69 = .ok (.iload_n 3, 1) := by decide +kernel
theorem dX11_lay_70 : decode cX11_lay 70 = .ok (.iastore, 1) := by decide +kernel
theorem dX11_lay_71 : decode cX11_lay 71 = .ok (.aload_n 0, 1) := by decide +kernel
theorem dX11_lay_72 : decode cX11_lay 72 = .ok (.aload_n 0, 1) := by decide +kernel
theorem dX11_lay_73 : decode cX11_lay 73 = .ok (.getfield 16, 3) := by decide +kernel
theorem dX11_lay_76 : decode cX11_lay 76 = .ok (.aload_n 0, 1) := by decide +kernel
theorem dX11_lay_77 : decode cX11_lay 77 = .ok (.getfield 16, 3) := by decide +kernel
theorem dX11_lay_80 : decode cX11_lay 80 = .ok (.getfield 72, 3) := by decide +kernel
theorem dX11_lay_83 : decode cX11_lay 83 = .ok (.invokevirtual 174, 3) := by decide +kernel
theorem dX11_lay_86 : decode cX11_lay 86 = .ok (.aload_n 0, 1) := by decide +kernel
theorem dX11_lay_87 : decode cX11_lay 87 = .ok (.iload_n 3, 1) := by decide +kernel
theorem dX11_lay_88 : decode cX11_lay 88 = .ok (.aload_n 0, 1) := by decide +kernel
theorem dX11_lay_89 : decode cX11_lay 89 = .ok (.getfield 25, 3) := by decide +kernel
theorem dX11_lay_92 : decode cX11_lay 92 = .ok (.iload_n 1, 1) := by decide +kernel
theorem dX11_lay_93 : decode cX11_lay 93 = .ok (.invokevirtual 199, 3) := by decide +kernel
theorem dX11_lay_96 : decode cX11_lay 96 = .ok (.invokevirtual 214, 3) := by decide +kernel
theorem dX11_lay_99 : decode cX11_lay 99 = .ok (.iinc 3 1, 3) := by decide +kernel
theorem dX11_lay_102 : decode cX11_lay 102 = .ok (.goto (-69), 3) := by decide +kernel
theorem dX11_lay_105 : decode cX11_lay 105 = .ok (.aload_n 0, 1) := by decide +kernel
theorem dX11_lay_106 : decode cX11_lay 106 = .ok (.iload_n 2, 1) := by decide +kernel
theorem dX11_lay_107 : decode cX11_lay 107 = .ok (.invokevirtual 218, 3) := by decide +kernel
theorem dX11_lay_110 : decode cX11_lay 110 = .ok (.ireturn, 1) := by decide +kernel
theorem dX11_swap_0 : decode cX11_swap 0 = .ok (.iload_n 1, 1) := by decide +kernel
theorem dX11_swap_1 : decode cX11_swap 1 = .ok (.iconst 0, 1) := by decide +kernel
theorem dX11_swap_2 : decode cX11_swap 2 = .ok (.iconst 1, 1) := by decide +kernel
theorem dX11_swap_3 : decode cX11_swap 3 = .ok (.invokestatic 101, 3) := by decide +kernel
theorem dX11_swap_6 : decode cX11_swap 6 = .ok (.ifCond .ne 6, 3) := by decide +kernel
theorem dX11_swap_9 : decode cX11_swap 9 = .ok (.bipush (-2), 2) := by decide +kernel
theorem dX11_swap_11 : decode cX11_swap 11 = .ok (.ireturn, 1) := by decide +kernel
theorem dX11_swap_12 : decode cX11_swap 12 = .ok (.aload_n 0, 1) := by decide +kernel
theorem dX11_swap_13 : decode cX11_swap 13 = .ok (.invokevirtual 202, 3) := by decide +kernel
theorem dX11_swap_16 : decode cX11_swap 16 = .ok (.aload_n 0, 1) := by decide +kernel
theorem dX11_swap_17 : decode cX11_swap 17 = .ok (.invokevirtual 205, 3) := by decide +kernel
theorem dX11_swap_20 : decode cX11_swap 20 = .ok (.aload_n 0, 1) := by decide +kernel
theorem dX11_swap_21 : decode cX11_swap 21 = .ok (.iconst (-1), 1) := by decide +kernel
theorem dX11_swap_22 : decode cX11_swap 22 = .ok (.aload_n 0, 1) := by decide +kernel
theorem dX11_swap_23 : decode cX11_swap 23 = .ok (.aload_n 0, 1) := by decide +kernel
theorem dX11_swap_24 : decode cX11_swap 24 = .ok (.getfield 10, 3) := by decide +kernel
theorem dX11_swap_27 : decode cX11_swap 27 = .ok (.invokevirtual 212, 3) := by decide +kernel
theorem dX11_swap_30 : decode cX11_swap 30 = .ok (.invokevirtual 214, 3) := by decide +kernel
theorem dX11_swap_33 : decode cX11_swap 33 = .ok (.iconst 0, 1) := by decide +kernel
theorem dX11_swap_34 : decode cX11_swap 34 = .ok (.istore_n 2, 1) := by decide +kernel
theorem dX11_swap_35 : decode cX11_swap 35 = .ok (.iload_n 2, 1) := by decide +kernel
theorem dX11_swap_36 : decode cX11_swap 36 = .ok (.aload_n 0, 1) := by decide +kernel
theorem dX11_swap_37 : decode cX11_swap 37 = .ok (.getfield 10, 3) := by decide +kernel
theorem dX11_swap_40 : decode cX11_swap 40 = .ok (.getfield 68, 3) := by decide +kernel
theorem dX11_swap_43 : decode cX11_swap 43 = .ok (.if_icmp .ge 66, 3) := by decide +kernel
theorem dX11_swap_46 : decode cX11_swap 46 = .ok (.iload_n 2, 1) := by decide +kernel
theorem dX11_swap_47 : decode cX11_swap 47 = .ok (.iconst 1, 1) := by decide +kernel
theorem dX11_swap_48 : decode cX11_swap 48 = .ok (.iadd, 1) := by decide +kernel
theorem dX11_swap_49 : decode cX11_swap 49 = .ok (.istore_n 3, 1) := by decide +kernel
theorem dX11_swap_50 : decode cX11_swap 50 = .ok (.iload_n 3, 1) := by decide +kernel
theorem dX11_swap_51 : decode cX11_swap 51 = .ok (.aload_n 0, 1) := by decide +kernel
theorem dX11_swap_52 : decode cX11_swap 52 = .ok (.getfield 10, 3) := by decide +kernel
theorem dX11_swap_55 : decode cX11_swap 55 = .ok (.getfield 68, 3) := by decide +kernel
theorem dX11_swap_58 : decode cX11_swap 58 = .ok (.if_icmp .ge 45, 3) := by decide +kernel
theorem dX11_swap_61 : decode cX11_swap 61 = .ok (.aload_n 0, 1) := by decide +kernel
theorem dX11_swap_62 : decode cX11_swap 62 = .ok (.getfield 16, 3) := by decide +kernel
theorem dX11_swap_65 : decode cX11_swap 65 = .ok (.iload_n 2, 1) := by decide +kernel
theorem dX11_swap_66 : decode cX11_swap 66 = .ok (.iload_n 3, 1) := by decide +kernel
theorem dX11_swap_67 : decode cX11_swap 67 = .ok (.invokevirtual 230, 3) := by decide +kernel
theorem dX11_swap_70 : decode cX11_swap 70 = .ok (.aload_n 0, 1) := by decide +kernel
theorem dX11_swap_71 : decode cX11_swap 71 = .ok (.bipush 10, 2) := by decide +kernel
theorem dX11_swap_73 : decode cX11_swap 73 = .ok (.iload_n 2, 1) := by decide +kernel
theorem dX11_swap_74 : decode cX11_swap 74 = .ok (.imul, 1) := by decide +kernel
theorem dX11_swap_75 : decode cX11_swap 75 = .ok (.iload_n 3, 1) := by decide +kernel
theorem dX11_swap_76 : decode cX11_swap 76 = .ok (.iadd, 1) := by decide +kernel
theorem dX11_swap_77 : decode cX11_swap 77 = .ok (.aload_n 0, 1) := by decide +kernel
theorem dX11_swap_78 : decode cX11_swap 78 = .ok (.aload_n 0, 1) := by decide +kernel
theorem dX11_swap_79 : decode cX11_swap 79 = .ok (.getfield 16, 3) := by decide +kernel
theorem dX11_swap_82 : decode cX11_swap 82 = .ok (.invokevirtual 212, 3) := by decide +kernel
theorem dX11_swap_85 : decode cX11_swap 85 = .ok (.invokevirtual 214, 3) := by decide +kernel
theorem dX11_swap_88 : decode cX11_swap 88 = .ok (.aload_n 0, 1) := by decide +kernel
theorem dX11_swap_89 : decode cX11_swap 89 = .ok (.getfield 16, 3) := by decide +kernel
theorem dX11_swap_92 : decode cX11_swap 92 = .ok (.iload_n 2, 1) := by decide +kernel
theorem dX11_swap_93 : decode cX11_swap 93 = .ok (.iload_n 3, 1) := by decide +kernel
theorem dX11_swap_94 : decode cX11_swap 94 = .ok (.invokevirtual 230, 3) := by decide +kernel
theorem dX11_swap_97 : decode cX11_swap 97 = .ok (.iinc 3 1, 3) := by decide +kernel
theorem dX11_swap_100 : decode cX11_swap 100 = .ok (.goto (-50), 3) := by decide +kernel
theorem dX11_swap_103 : decode cX11_swap 103 = .ok (.iinc 2 1, 3) := by decide +kernel
theorem dX11_swap_106 : decode cX11_swap 106 = .ok (.goto (-71), 3) := by decide +kernel
theorem dX11_swap_109 : decode cX11_swap 109 = .ok (.aload_n 0, 1) := by decide +kernel
theorem dX11_swap_110 : decode cX11_swap 110 = .ok (.iload_n 1, 1) := by decide +kernel
theorem dX11_swap_111 : decode cX11_swap 111 = .ok (.invokevirtual 218, 3) := by decide +kernel
theorem dX11_swap_114 : decode cX11_swap 114 = .ok (.ireturn, 1) := by decide +kernel
theorem dX11_which_0 : decode cX11_which 0 = .ok (.iload_n 1, 1) := by decide +kernel
theorem dX11_which_1 : decode cX11_which 1 = .ok (.iconst 0, 1) := by decide +kernel
theorem dX11_which_2 : decode cX11_which 2 = .ok (.iconst 1, 1) := by decide +kernel
theorem dX11_which_3 : decode cX11_which 3 = .ok (.invokestatic 101, 3) := by decide +kernel
theorem dX11_which_6 : decode cX11_which 6 = .ok (.ifCond .ne 6, 3) := by decide +kernel
theorem dX11_which_9 : decode cX11_which 9 = .ok (.bipush (-2), 2) := by decide +kernel
theorem dX11_which_11 : decode cX11_which 11 = .ok (.ireturn, 1) := by decide +kernel
theorem dX11_which_12 : decode cX11_which 12 = .ok (.aload_n 0, 1) := by decide +kernel
theorem dX11_which_13 : decode cX11_which 13 = .ok (.invokevirtual 202, 3) := by decide +kernel
theorem dX11_which_16 : decode cX11_which 16 = .ok (.aload_n 0, 1) := by decide +kernel
theorem dX11_which_17 : decode cX11_which 17 = .ok (.invokevirtual 205, 3) := by decide +kernel
theorem dX11_which_20 : decode cX11_which 20 = .ok (.iconst 0, 1) := by decide +kernel
theorem dX11_which_21 : decode cX11_which 21 = .ok (.istore_n 2, 1) := by decide +kernel
theorem dX11_which_22 : decode cX11_which 22 = .ok (.iload_n 2, 1) := by decide +kernel
theorem dX11_which_23 : decode cX11_which 23 = .ok (.iconst 3, 1) := by decide +kernel
theorem dX11_which_24 : decode cX11_which 24 = .ok (.if_icmp .gt 30, 3) := by decide +kernel
theorem dX11_which_27 : decode cX11_which 27 = .ok (.aload_n 0, 1) := by decide +kernel
theorem dX11_which_28 : decode cX11_which 28 = .ok (.getfield 16, 3) := by decide +kernel
theorem dX11_which_31 : decode cX11_which 31 = .ok (.iload_n 2, 1) := by decide +kernel
theorem dX11_which_32 : decode cX11_which 32 = .ok (.putfield 75, 3) := by decide +kernel
theorem dX11_which_35 : decode cX11_which 35 = .ok (.aload_n 0, 1) := by decide +kernel
theorem dX11_which_36 : decode cX11_which 36 = .ok (.iload_n 2, 1) := by decide +kernel
theorem dX11_which_37 : decode cX11_which 37 = .ok (.aload_n 0, 1) := by decide +kernel
theorem dX11_which_38 : decode cX11_which 38 = .ok (.aload_n 0, 1) := by decide +kernel
theorem dX11_which_39 : decode cX11_which 39 = .ok (.getfield 16, 3) := by decide +kernel
theorem dX11_which_42 : decode cX11_which 42 = .ok (.invokevirtual 212, 3) := by decide +kernel
theorem dX11_which_45 : decode cX11_which 45 = .ok (.invokevirtual 214, 3) := by decide +kernel
theorem dX11_which_48 : decode cX11_which 48 = .ok (.iinc 2 1, 3) := by decide +kernel
theorem dX11_which_51 : decode cX11_which 51 = .ok (.goto (-29), 3) := by decide +kernel
theorem dX11_which_54 : decode cX11_which 54 = .ok (.aload_n 0, 1) := by decide +kernel
theorem dX11_which_55 : decode cX11_which 55 = .ok (.iload_n 1, 1) := by decide +kernel
theorem dX11_which_56 : decode cX11_which 56 = .ok (.invokevirtual 218, 3) := by decide +kernel
theorem dX11_which_59 : decode cX11_which 59 = .ok (.ireturn, 1) := by decide +kernel
theorem dX11_judge_0 : decode cX11_judge 0 = .ok (.aload_n 0, 1) := by decide +kernel
theorem dX11_judge_1 : decode cX11_judge 1 = .ok (.iload_n 1, 1) := by decide +kernel
theorem dX11_judge_2 : decode cX11_judge 2 = .ok (.invokevirtual 233, 3) := by decide +kernel
theorem dX11_judge_5 : decode cX11_judge 5 = .ok (.istore_n 2, 1) := by decide +kernel
theorem dX11_judge_6 : decode cX11_judge 6 = .ok (.iload_n 2, 1) := by decide +kernel
theorem dX11_judge_7 : decode cX11_judge 7 = .ok (.ifCond .eq 7, 3) := by decide +kernel
theorem dX11_judge_10 : decode cX11_judge 10 = .ok (.iload_n 2, 1) := by decide +kernel
theorem dX11_judge_11 : decode cX11_judge 11 = .ok (.goto 12, 3) := by decide +kernel
theorem dX11_judge_14 : decode cX11_judge 14 = .ok (.aload_n 0, 1) := by decide +kernel
theorem dX11_judge_15 : decode cX11_judge 15 = .ok (.iload_n 1, 1) := by decide +kernel
theorem dX11_judge_16 : decode cX11_judge 16 = .ok (.aload_n 0, 1) := by decide +kernel
theorem dX11_judge_17 : decode cX11_judge 17 = .ok (.getfield 10, 3) := by decide +kernel
theorem dX11_judge_20 : decode cX11_judge 20 = .ok (.invokevirtual 236, 3) := by decide +kernel
theorem dX11_judge_23 : decode cX11_judge 23 = .ok (.ireturn, 1) := by decide +kernel
theorem dX11_how_0 : decode cX11_how 0 = .ok (.aload_n 0, 1) := by decide +kernel
theorem dX11_how_1 : decode cX11_how 1 = .ok (.iload_n 1, 1) := by decide +kernel
theorem dX11_how_2 : decode cX11_how 2 = .ok (.invokevirtual 233, 3) := by decide +kernel
theorem dX11_how_5 : decode cX11_how 5 = .ok (.istore_n 2, 1) := by decide +kernel
theorem dX11_how_6 : decode cX11_how 6 = .ok (.iload_n 2, 1) := by decide +kernel
theorem dX11_how_7 : decode cX11_how 7 = .ok (.ifCond .eq 5, 3) := by decide +kernel
theorem dX11_how_10 : decode cX11_how 10 = .ok (.iload_n 2, 1) := by decide +kernel
theorem dX11_how_11 : decode cX11_how 11 = .ok (.ireturn, 1) := by decide +kernel
theorem dX11_how_12 : decode cX11_how 12 = .ok (.aload_n 0, 1) := by decide +kernel
theorem dX11_how_13 : decode cX11_how 13 = .ok (.invokevirtual 202, 3) := by decide +kernel
theorem dX11_how_16 : decode cX11_how 16 = .ok (.iconst 0, 1) := by decide +kernel
theorem dX11_how_17 : decode cX11_how 17 = .ok (.istore_n 3, 1) := by decide +kernel
theorem dX11_how_18 : decode cX11_how 18 = .ok (.iconst 0, 1) := by decide +kernel
theorem dX11_how_19 : decode cX11_how 19 = .ok (.istore 4, 2) := by decide +kernel
theorem dX11_how_21 : decode cX11_how 21 = .ok (.iload 4, 2) := by decide +kernel
theorem dX11_how_23 : decode cX11_how 23 = .ok (.iconst 3, 1) := by decide +kernel
theorem dX11_how_24 : decode cX11_how 24 = .ok (.if_icmp .gt 42, 3) := by decide +kernel
theorem dX11_how_27 : decode cX11_how 27 = .ok (.aload_n 0, 1) := by decide +kernel
theorem dX11_how_28 : decode cX11_how 28 = .ok (.getfield 16, 3) := by decide +kernel
theorem dX11_how_31 : decode cX11_how 31 = .ok (.iload 4, 2) := by decide +kernel
theorem dX11_how_33 : decode cX11_how 33 = .ok (.putfield 75, 3) := by decide +kernel
theorem dX11_how_36 : decode cX11_how 36 = .ok (.iload_n 3, 1) := by decide +kernel
theorem dX11_how_37 : decode cX11_how 37 = .ok (.aload_n 0, 1) := by decide +kernel
theorem dX11_how_38 : decode cX11_how 38 = .ok (.iload_n 1, 1) := by decide +kernel
theorem dX11_how_39 : decode cX11_how 39 = .ok (.aload_n 0, 1) := by decide +kernel
theorem dX11_how_40 : decode cX11_how 40 = .ok (.getfield 16, 3) := by decide +kernel
theorem dX11_how_43 : decode cX11_how 43 = .ok (.invokevirtual 236, 3) := by decide +kernel
theorem dX11_how_46 : decode cX11_how 46 = .ok (.iconst (-1), 1) := by decide +kernel
theorem dX11_how_47 : decode cX11_how 47 = .ok (.if_icmp .ne 10, 3) := by decide +kernel
theorem dX11_how_50 : decode cX11_how 50 = .ok (.iconst 1, 1) := by decide +kernel
theorem dX11_how_51 : decode cX11_how 51 = .ok (.iload 4, 2) := by decide +kernel
theorem dX11_how_53 : decode cX11_how 53 = .ok (.ishl, 1) := by decide +kernel
theorem dX11_how_54 : decode cX11_how 54 = .ok (.goto 4, 3) := by decide +kernel
theorem dX11_how_57 : decode cX11_how 57 = .ok (.iconst 0, 1) := by decide +kernel
theorem dX11_how_58 : decode cX11_how 58 = .ok (.ior, 1) := by decide +kernel
theorem dX11_how_59 : decode cX11_how 59 = .ok (.istore_n 3, 1) := by decide +kernel
theorem dX11_how_60 : decode cX11_how 60 = .ok (.iinc 4 1, 3) := by decide +kernel
theorem dX11_how_63 : decode cX11_how 63 = .ok (.goto (-42), 3) := by decide +kernel
theorem dX11_how_66 : decode cX11_how 66 = .ok (.iload_n 3, 1) := by decide +kernel
theorem dX11_how_67 : decode cX11_how 67 = .ok (.ireturn, 1) := by decide +kernel
theorem dX11_kinds_0 : decode cX11_kinds 0 = .ok (.aload_n 0, 1) := by decide +kernel
theorem dX11_kinds_1 : decode cX11_kinds 1 = .ok (.iload_n 1, 1) := by decide +kernel
theorem dX11_kinds_2 : decode cX11_kinds 2 = .ok (.invokevirtual 233, 3) := by decide +kernel
theorem dX11_kinds_5 : decode cX11_kinds 5 = .ok (.istore 4, 2) := by decide +kernel
theorem dX11_kinds_7 : decode cX11_kinds 7 = .ok (.iload 4, 2) := by decide +kernel
theorem dX11_kinds_9 : decode cX11_kinds 9 = .ok (.ifCond .eq 6, 3) := by decide +kernel
theorem dX11_kinds_12 : decode cX11_kinds 12 = .ok (.iload 4, 2) := by decide +kernel
theorem dX11_kinds_14 : decode cX11_kinds 14 = .ok (.ireturn, 1) := by decide +kernel
theorem dX11_kinds_15 : decode cX11_kinds 15 = .ok (.aload_n 0, 1) := by decide +kernel
theorem dX11_kinds_16 : decode cX11_kinds 16 = .ok (.iload_n 2, 1) := by decide +kernel
theorem dX11_kinds_17 : decode cX11_kinds 17 = .ok (.invokevirtual 126, 3) := by decide +kernel
theorem dX11_kinds_20 : decode cX11_kinds 20 = .ok (.ifCond .ne 6, 3) := by decide +kernel
theorem dX11_kinds_23 : decode cX11_kinds 23 = .ok (.bipush (-5), 2) := by decide +kernel
theorem dX11_kinds_25 : decode cX11_kinds 25 = .ok (.ireturn, 1) := by decide +kernel
theorem dX11_kinds_26 : decode cX11_kinds 26 = .ok (.iload_n 3, 1) := by decide +kernel
theorem dX11_kinds_27 : decode cX11_kinds 27 = .ok (.iconst 0, 1) := by decide +kernel
theorem dX11_kinds_28 : decode cX11_kinds 28 = .ok (.iconst 1, 1) := by decide +kernel
theorem dX11_kinds_29 : decode cX11_kinds 29 = .ok (.invokestatic 101, 3) := by decide +kernel
theorem dX11_kinds_32 : decode cX11_kinds 32 = .ok (.ifCond .ne 6, 3) := by decide +kernel
theorem dX11_kinds_35 : decode cX11_kinds 35 = .ok (.bipush (-7), 2) := by decide +kernel
theorem dX11_kinds_37 : decode cX11_kinds 37 = .ok (.ireturn, 1) := by decide +kernel
theorem dX11_kinds_38 : decode cX11_kinds 38 = .ok (.aload_n 0, 1) := by decide +kernel
theorem dX11_kinds_39 : decode cX11_kinds 39 = .ok (.invokevirtual 202, 3) := by decide +kernel
theorem dX11_kinds_42 : decode cX11_kinds 42 = .ok (.iconst 0, 1) := by decide +kernel
theorem dX11_kinds_43 : decode cX11_kinds 43 = .ok (.istore 5, 2) := by decide +kernel
theorem dX11_kinds_45 : decode cX11_kinds 45 = .ok (.iconst 0, 1) := by decide +kernel
theorem dX11_kinds_46 : decode cX11_kinds 46 = .ok (.istore 6, 2) := by decide +kernel
theorem dX11_kinds_48 : decode cX11_kinds 48 = .ok (.iload 6, 2) := by decide +kernel
theorem dX11_kinds_50 : decode cX11_kinds 50 = .ok (.iload_n 3, 1) := by decide +kernel
theorem dX11_kinds_51 : decode cX11_kinds 51 = .ok (.ifCond .ne 7, 3) := by decide +kernel
theorem dX11_kinds_54 : decode cX11_kinds 54 = .ok (.iconst 5, 1) := by decide +kernel
theorem dX11_kinds_55 : decode cX11_kinds 55 = .ok (.goto 5, 3) := by decide +kernel
theorem dX11_kinds_58 : decode cX11_kinds 58 = .ok (.bipush 9, 2) := by decide +kernel
theorem dX11_kinds_60 : decode cX11_kinds 60 = .ok (.if_icmp .gt 64, 3) := by decide +kernel
theorem dX11_kinds_63 : decode cX11_kinds 63 = .ok (.iload_n 3, 1) := by decide +kernel
theorem dX11_kinds_64 : decode cX11_kinds 64 = .ok (.ifCond .ne 17, 3) := by decide +kernel
theorem dX11_kinds_67 : decode cX11_kinds 67 = .ok (.aload_n 0, 1) := by decide +kernel
theorem dX11_kinds_68 : decode cX11_kinds 68 = .ok (.getfield 16, 3) := by decide +kernel
theorem dX11_kinds_71 : decode cX11_kinds 71 = .ok (.getfield 143, 3) := by decide +kernel
theorem dX11_kinds_74 : decode cX11_kinds 74 = .ok (.iload_n 2, 1) := by decide +kernel
theorem dX11_kinds_75 : decode cX11_kinds 75 = .ok (.iload 6, 2) := by decide +kernel
theorem dX11_kinds_77 : decode cX11_kinds 77 = .ok (.iastore, 1) := by decide +kernel
theorem dX11_kinds_78 : decode cX11_kinds 78 = .ok (.goto 14, 3) := by decide +kernel
theorem dX11_kinds_81 : decode cX11_kinds 81 = .ok (.aload_n 0, 1) := by decide +kernel
theorem dX11_kinds_82 : decode cX11_kinds 82 = .ok (.getfield 16, 3) := by decide +kernel
theorem dX11_kinds_85 : decode cX11_kinds 85 = .ok (.getfield 146, 3) := by decide +kernel
theorem dX11_kinds_88 : decode cX11_kinds 88 = .ok (.iload_n 2, 1) := by decide +kernel
theorem dX11_kinds_89 : decode cX11_kinds 89 = .ok (.iload 6, 2) := by decide +kernel
theorem dX11_kinds_91 : decode cX11_kinds 91 = .ok (.iastore, 1) := by decide +kernel
theorem dX11_kinds_92 : decode cX11_kinds 92 = .ok (.iload 5, 2) := by decide +kernel
theorem dX11_kinds_94 : decode cX11_kinds 94 = .ok (.aload_n 0, 1) := by decide +kernel
theorem dX11_kinds_95 : decode cX11_kinds 95 = .ok (.iload_n 1, 1) := by decide +kernel
theorem dX11_kinds_96 : decode cX11_kinds 96 = .ok (.aload_n 0, 1) := by decide +kernel
theorem dX11_kinds_97 : decode cX11_kinds 97 = .ok (.getfield 16, 3) := by decide +kernel
theorem dX11_kinds_100 : decode cX11_kinds 100 = .ok (.invokevirtual 236, 3) := by decide +kernel
theorem dX11_kinds_103 : decode cX11_kinds 103 = .ok (.iconst (-1), 1) := by decide +kernel
theorem dX11_kinds_104 : decode cX11_kinds 104 = .ok (.if_icmp .ne 10, 3) := by decide +kernel
theorem dX11_kinds_107 : decode cX11_kinds 107 = .ok (.iconst 1, 1) := by decide +kernel
theorem dX11_kinds_108 : decode cX11_kinds 108 = .ok (.iload 6, 2) := by decide +kernel
theorem dX11_kinds_110 : decode cX11_kinds 110 = .ok (.ishl, 1) := by decide +kernel
theorem dX11_kinds_111 : decode cX11_kinds 111 = .ok (.goto 4, 3) := by decide +kernel
theorem dX11_kinds_114 : decode cX11_kinds 114 = .ok (.iconst 0, 1) := by decide +kernel
theorem dX11_kinds_115 : decode cX11_kinds 115 = .ok (.ior, 1) := by decide +kernel
theorem dX11_kinds_116 : decode cX11_kinds 116 = .ok (.istore 5, 2) := by decide +kernel
theorem dX11_kinds_118 : decode cX11_kinds 118 = .ok (.iinc 6 1, 3) := by decide +kernel
theorem dX11_kinds_121 : decode cX11_kinds 121 = .ok (.goto (-73), 3) := by decide +kernel
theorem dX11_kinds_124 : decode cX11_kinds 124 = .ok (.iload 5, 2) := by decide +kernel
theorem dX11_kinds_126 : decode cX11_kinds 126 = .ok (.ireturn, 1) := by decide +kernel
theorem dX11_heats_0 : decode cX11_heats 0 = .ok (.aload_n 0, 1) := by decide +kernel
theorem dX11_heats_1 : decode cX11_heats 1 = .ok (.iload_n 1, 1) := by decide +kernel
theorem dX11_heats_2 : decode cX11_heats 2 = .ok (.invokevirtual 233, 3) := by decide +kernel
theorem dX11_heats_5 : decode cX11_heats 5 = .ok (.istore 4, 2) := by decide +kernel
theorem dX11_heats_7 : decode cX11_heats 7 = .ok (.iload 4, 2) := by decide +kernel
theorem dX11_heats_9 : decode cX11_heats 9 = .ok (.ifCond .eq 6, 3) := by decide +kernel
theorem dX11_heats_12 : decode cX11_heats 12 = .ok (.iload 4, 2) := by decide +kernel
theorem dX11_heats_14 : decode cX11_heats 14 = .ok (.ireturn, 1) := by decide +kernel
theorem dX11_heats_15 : decode cX11_heats 15 = .ok (.iload_n 2, 1) := by decide +kernel
theorem dX11_heats_16 : decode cX11_heats 16 = .ok (.iconst 0, 1) := by decide +kernel
theorem dX11_heats_17 : decode cX11_heats 17 = .ok (.bipush 15, 2) := by decide +kernel
theorem dX11_heats_19 : decode cX11_heats 19 = .ok (.invokestatic 101, 3) := by decide +kernel
theorem dX11_heats_22 : decode cX11_heats 22 = .ok (.ifCond .ne 6, 3) := by decide +kernel
theorem dX11_heats_25 : decode cX11_heats 25 = .ok (.bipush (-6), 2) := by decide +kernel
theorem dX11_heats_27 : decode cX11_heats 27 = .ok (.ireturn, 1) := by decide +kernel
theorem dX11_heats_28 : decode cX11_heats 28 = .ok (.iload_n 3, 1) := by decide +kernel
theorem dX11_heats_29 : decode cX11_heats 29 = .ok (.iconst 0, 1) := by decide +kernel
theorem dX11_heats_30 : decode cX11_heats 30 = .ok (.iconst 2, 1) := by decide +kernel
theorem dX11_heats_31 : decode cX11_heats 31 = .ok (.invokestatic 101, 3) := by decide +kernel
theorem dX11_heats_34 : decode cX11_heats 34 = .ok (.ifCond .ne 6, 3) := by decide +kernel
theorem dX11_heats_37 : decode cX11_heats 37 = .ok (.bipush (-7), 2) := by decide +kernel
theorem dX11_heats_39 : decode cX11_heats 39 = .ok (.ireturn, 1) := by decide +kernel
theorem dX11_heats_40 : decode cX11_heats 40 = .ok (.aload_n 0, 1) := by decide +kernel
theorem dX11_heats_41 : decode cX11_heats 41 = .ok (.invokevirtual 202, 3) := by decide +kernel
theorem dX11_heats_44 : decode cX11_heats 44 = .ok (.iconst 0, 1) := by decide +kernel
theorem dX11_heats_45 : decode cX11_heats 45 = .ok (.istore 5, 2) := by decide +kernel
theorem dX11_heats_47 : decode cX11_heats 47 = .ok (.iconst (-1), 1) := by decide +kernel
theorem dX11_heats_48 : decode cX11_heats 48 = .ok (.istore 6, 2) := by decide +kernel
theorem dX11_heats_50 : decode cX11_heats 50 = .ok (.iconst (-1), 1) := by decide +kernel
theorem dX11_heats_51 : decode cX11_heats 51 = .ok (.istore 7, 2) := by decide +kernel
theorem dX11_heats_53 : decode cX11_heats 53 = .ok (.iconst 0, 1) := by decide +kernel
theorem dX11_heats_54 : decode cX11_heats 54 = .ok (.istore 8, 2) := by decide +kernel
theorem dX11_heats_56 : decode cX11_heats 56 = .ok (.iload 8, 2) := by decide +kernel
theorem dX11_heats_58 : decode cX11_heats 58 = .ok (.bipush 99, 2) := by decide +kernel
theorem dX11_heats_60 : decode cX11_heats 60 = .ok (.if_icmp .gt 55, 3) := by decide +kernel
theorem dX11_heats_63 : decode cX11_heats 63 = .ok (.aload_n 0, 1) := by decide +kernel
theorem dX11_heats_64 : decode cX11_heats 64 = .ok (.getfield 16, 3) := by decide +kernel
theorem dX11_heats_67 : decode cX11_heats 67 = .ok (.getfield 105, 3) := by decide +kernel
theorem dX11_heats_70 : decode cX11_heats 70 = .ok (.iload_n 2, 1) := by decide +kernel
theorem dX11_heats_71 : decode cX11_heats 71 = .ok (.iload 8, 2) := by decide +kernel
theorem dX11_heats_73 : decode cX11_heats 73 = .ok (.iastore, 1) := by decide +kernel
theorem dX11_heats_74 : decode cX11_heats 74 = .ok (.aload_n 0, 1) := by decide +kernel
theorem dX11_heats_75 : decode cX11_heats 75 = .ok (.iload_n 1, 1) := by decide +kernel
theorem dX11_heats_76 : decode cX11_heats 76 = .ok (.aload_n 0, 1) := by decide +kernel
theorem dX11_heats_77 : decode cX11_heats 77 = .ok (.getfield 16, 3) := by decide +kernel
theorem dX11_heats_80 : decode cX11_heats 80 = .ok (.invokevirtual 236, 3) := by decide +kernel
theorem dX11_heats_83 : decode cX11_heats 83 = .ok (.iconst (-1), 1) := by decide +kernel
theorem dX11_heats_84 : decode cX11_heats 84 = .ok (.if_icmp .ne 25, 3) := by decide +kernel
theorem dX11_heats_87 : decode cX11_heats 87 = .ok (.iinc 5 1, 3) := by decide +kernel
theorem dX11_heats_90 : decode cX11_heats 90 = .ok (.iload 6, 2) := by decide +kernel
theorem dX11_heats_92 : decode cX11_heats 92 = .ok (.iconst (-1), 1) := by decide +kernel
theorem dX11_heats_93 : decode cX11_heats 93 = .ok (.if_icmp .ne 8, 3) := by decide +kernel
theorem dX11_heats_96 : decode cX11_heats 96 = .ok (.iload 8, 2) := by decide +kernel
theorem dX11_heats_98 : decode cX11_heats 98 = .ok (.goto 5, 3) := by decide +kernel
theorem dX11_heats_101 : decode cX11_heats 101 = .ok (.iload 6, 2) := by decide +kernel
theorem dX11_heats_103 : decode cX11_heats 103 = .ok (.istore 6, 2) := by decide +kernel
theorem dX11_heats_105 : decode cX11_heats 105 = .ok (.iload 8, 2) := by decide +kernel
theorem dX11_heats_107 : decode cX11_heats 107 = .ok (.istore 7, 2) := by decide +kernel
theorem dX11_heats_109 : decode cX11_heats 109 = .ok (.iinc 8 1, 3) := by decide +kernel
theorem dX11_heats_112 : decode cX11_heats 112 = .ok (.goto (-56), 3) := by decide +kernel
theorem dX11_heats_115 : decode cX11_heats 115 = .ok (.iload_n 3, 1) := by decide +kernel
theorem dX11_heats_116 : decode cX11_heats 116 = .ok (.ifCond .ne 8, 3) := by decide +kernel
theorem dX11_heats_119 : decode cX11_heats 119 = .ok (.iload 5, 2) := by decide +kernel
theorem dX11_heats_121 : decode cX11_heats 121 = .ok (.goto 15, 3) := by decide +kernel
theorem dX11_heats_124 : decode cX11_heats 124 = .ok (.iload_n 3, 1) := by decide +kernel
theorem dX11_heats_125 : decode cX11_heats 125 = .ok (.iconst 1, 1) := by decide +kernel
theorem dX11_heats_126 : decode cX11_heats 126 = .ok (.if_icmp .ne 8, 3) := by decide +kernel
theorem dX11_heats_129 : decode cX11_heats 129 = .ok (.iload 6, 2) := by decide +kernel
theorem dX11_heats_131 : decode cX11_heats 131 = .ok (.goto 5, 3) := by decide +kernel
theorem dX11_heats_134 : decode cX11_heats 134 = .ok (.iload 7, 2) := by decide +kernel
theorem dX11_heats_136 : decode cX11_heats 136 = .ok (.ireturn, 1) := by decide +kernel
theorem dX11_turned_0 : decode cX11_turned 0 = .ok (.aload_n 0, 1) := by decide +kernel
theorem dX11_turned_1 : decode cX11_turned 1 = .ok (.iload_n 1, 1) := by decide +kernel
theorem dX11_turned_2 : decode cX11_turned 2 = .ok (.invokevirtual 233, 3) := by decide +kernel
theorem dX11_turned_5 : decode cX11_turned 5 = .ok (.ifCond .eq 7, 3) := by decide +kernel
theorem dX11_turned_8 : decode cX11_turned 8 = .ok (.ldc2_w 240, 3) := by decide +kernel
theorem dX11_turned_11 : decode cX11_turned 11 = .ok (.lreturn, 1) := by decide +kernel
theorem dX11_turned_12 : decode cX11_turned 12 = .ok (.aload_n 0, 1) := by decide +kernel
theorem dX11_turned_13 : decode cX11_turned 13 = .ok (.invokevirtual 202, 3) := by decide +kernel
theorem dX11_turned_16 : decode cX11_turned 16 = .ok (.lconst 0, 1) := by decide +kernel
theorem dX11_turned_17 : decode cX11_turned 17 = .ok (.lstore_n 2, 1) := by decide +kernel
theorem dX11_turned_18 : decode cX11_turned 18 = .ok (.iconst 0, 1) := by decide +kernel
theorem dX11_turned_19 : decode cX11_turned 19 = .ok (.istore 4, 2) := by decide +kernel
theorem dX11_turned_21 : decode cX11_turned 21 = .ok (.iload 4, 2) := by decide +kernel
theorem dX11_turned_23 : decode cX11_turned 23 = .ok (.aload_n 0, 1) := by decide +kernel
theorem dX11_turned_24 : decode cX11_turned 24 = .ok (.getfield 10, 3) := by decide +kernel
theorem dX11_turned_27 : decode cX11_turned 27 = .ok (.getfield 72, 3) := by decide +kernel
theorem dX11_turned_30 : decode cX11_turned 30 = .ok (.if_icmp .ge 44, 3) := by decide +kernel
theorem dX11_turned_33 : decode cX11_turned 33 = .ok (.aload_n 0, 1) := by decide +kernel
theorem dX11_turned_34 : decode cX11_turned 34 = .ok (.getfield 16, 3) := by decide +kernel
theorem dX11_turned_37 : decode cX11_turned 37 = .ok (.iconst 0, 1) := by decide +kernel
theorem dX11_turned_38 : decode cX11_turned 38 = .ok (.iload 4, 2) := by decide +kernel
theorem dX11_turned_40 : decode cX11_turned 40 = .ok (.iconst 2, 1) := by decide +kernel
theorem dX11_turned_41 : decode cX11_turned 41 = .ok (.invokevirtual 167, 3) := by decide +kernel
theorem dX11_turned_44 : decode cX11_turned 44 = .ok (.lload_n 2, 1) := by decide +kernel
theorem dX11_turned_45 : decode cX11_turned 45 = .ok (.aload_n 0, 1) := by decide +kernel
theorem dX11_turned_46 : decode cX11_turned 46 = .ok (.iload_n 1, 1) := by decide +kernel
theorem dX11_turned_47 : decode cX11_turned 47 = .ok (.aload_n 0, 1) := by decide +kernel
theorem dX11_turned_48 : decode cX11_turned 48 = .ok (.getfield 16, 3) := by decide +kernel
theorem dX11_turned_51 : decode cX11_turned 51 = .ok (.invokevirtual 236, 3) := by decide +kernel
theorem dX11_turned_54 : decode cX11_turned 54 = .ok (.iconst (-1), 1) := by decide +kernel
theorem dX11_turned_55 : decode cX11_turned 55 = .ok (.if_icmp .ne 10, 3) := by decide +kernel
theorem dX11_turned_58 : decode cX11_turned 58 = .ok (.lconst 1, 1) := by decide +kernel
theorem dX11_turned_59 : decode cX11_turned 59 = .ok (.iload 4, 2) := by decide +kernel
theorem dX11_turned_61 : decode cX11_turned 61 = .ok (.lshl, 1) := by decide +kernel
theorem dX11_turned_62 : decode cX11_turned 62 = .ok (.goto 4, 3) := by decide +kernel
theorem dX11_turned_65 : decode cX11_turned 65 = .ok (.lconst 0, 1) := by decide +kernel
theorem dX11_turned_66 : decode cX11_turned 66 = .ok (.lor, 1) := by decide +kernel
theorem dX11_turned_67 : decode cX11_turned 67 = .ok (.lstore_n 2, 1) := by decide +kernel
theorem dX11_turned_68 : decode cX11_turned 68 = .ok (.iinc 4 1, 3) := by decide +kernel
theorem dX11_turned_71 : decode cX11_turned 71 = .ok (.goto (-50), 3) := by decide +kernel
theorem dX11_turned_74 : decode cX11_turned 74 = .ok (.lload_n 2, 1) := by decide +kernel
theorem dX11_turned_75 : decode cX11_turned 75 = .ok (.lreturn, 1) := by decide +kernel
theorem dX11_laws_0 : decode cX11_laws 0 = .ok (.aload_n 0, 1) := by decide +kernel
theorem dX11_laws_1 : decode cX11_laws 1 = .ok (.iload_n 1, 1) := by decide +kernel
theorem dX11_laws_2 : decode cX11_laws 2 = .ok (.invokevirtual 233, 3) := by decide +kernel
theorem dX11_laws_5 : decode cX11_laws 5 = .ok (.istore_n 2, 1) := by decide +kernel
theorem dX11_laws_6 : decode cX11_laws 6 = .ok (.iload_n 2, 1) := by decide +kernel
theorem dX11_laws_7 : decode cX11_laws 7 = .ok (.ifCond .eq 5, 3) := by decide +kernel
theorem dX11_laws_10 : decode cX11_laws 10 = .ok (.iload_n 2, 1) := by decide +kernel
theorem dX11_laws_11 : decode cX11_laws 11 = .ok (.ireturn, 1) := by decide +kernel
theorem dX11_laws_12 : decode cX11_laws 12 = .ok (.aload_n 0, 1) := by decide +kernel
theorem dX11_laws_13 : decode cX11_laws 13 = .ok (.invokevirtual 202, 3) := by decide +kernel
theorem dX11_laws_16 : decode cX11_laws 16 = .ok (.iconst 0, 1) := by decide +kernel
theorem dX11_laws_17 : decode cX11_laws 17 = .ok (.istore_n 3, 1) := by decide +kernel
theorem dX11_laws_18 : decode cX11_laws 18 = .ok (.iconst 0, 1) := by decide +kernel
theorem dX11_laws_19 : decode cX11_laws 19 = .ok (.istore 4, 2) := by decide +kernel
theorem dX11_laws_21 : decode cX11_laws 21 = .ok (.iload 4, 2) := by decide +kernel
theorem dX11_laws_23 : decode cX11_laws 23 = .ok (.aload_n 0, 1) := by decide +kernel
theorem dX11_laws_24 : decode cX11_laws 24 = .ok (.getfield 81, 3) := by decide +kernel
theorem dX11_laws_27 : decode cX11_laws 27 = .ok (.if_icmp .ge 42, 3) := by decide +kernel
theorem dX11_laws_30 : decode cX11_laws 30 = .ok (.aload_n 0, 1) := by decide +kernel
theorem dX11_laws_31 : decode cX11_laws 31 = .ok (.getfield 16, 3) := by decide +kernel
theorem dX11_laws_34 : decode cX11_laws 34 = .ok (.iload 4, 2) := by decide +kernel
theorem dX11_laws_36 : decode cX11_laws 36 = .ok (.putfield 84, 3) := by decide +kernel
theorem dX11_laws_39 : decode cX11_laws 39 = .ok (.iload_n 3, 1) := by decide +kernel
theorem dX11_laws_40 : decode cX11_laws 40 = .ok (.aload_n 0, 1) := by decide +kernel
theorem dX11_laws_41 : decode cX11_laws 41 = .ok (.iload_n 1, 1) := by decide +kernel
theorem dX11_laws_42 : decode cX11_laws 42 = .ok (.aload_n 0, 1) := by decide +kernel
theorem dX11_laws_43 : decode cX11_laws 43 = .ok (.getfield 16, 3) := by decide +kernel
theorem dX11_laws_46 : decode cX11_laws 46 = .ok (.invokevirtual 236, 3) := by decide +kernel
theorem dX11_laws_49 : decode cX11_laws 49 = .ok (.iconst (-1), 1) := by decide +kernel
theorem dX11_laws_50 : decode cX11_laws 50 = .ok (.if_icmp .ne 10, 3) := by decide +kernel
theorem dX11_laws_53 : decode cX11_laws 53 = .ok (.iconst 1, 1) := by decide +kernel
theorem dX11_laws_54 : decode cX11_laws 54 = .ok (.iload 4, 2) := by decide +kernel
theorem dX11_laws_56 : decode cX11_laws 56 = .ok (.ishl, 1) := by decide +kernel
theorem dX11_laws_57 : decode cX11_laws 57 = .ok (.goto 4, 3) := by decide +kernel
theorem dX11_laws_60 : decode cX11_laws 60 = .ok (.iconst 0, 1) := by decide +kernel
theorem dX11_laws_61 : decode cX11_laws 61 = .ok (.ior, 1) := by decide +kernel
theorem dX11_laws_62 : decode cX11_laws 62 = .ok (.istore_n 3, 1) := by decide +kernel
theorem dX11_laws_63 : decode cX11_laws 63 = .ok (.iinc 4 1, 3) := by decide +kernel
theorem dX11_laws_66 : decode cX11_laws 66 = .ok (.goto (-45), 3) := by decide +kernel
theorem dX11_laws_69 : decode cX11_laws 69 = .ok (.iload_n 3, 1) := by decide +kernel
theorem dX11_laws_70 : decode cX11_laws 70 = .ok (.ireturn, 1) := by decide +kernel
theorem dX11_film_0 : decode cX11_film 0 = .ok (.iload_n 1, 1) := by decide +kernel
theorem dX11_film_1 : decode cX11_film 1 = .ok (.iconst 0, 1) := by decide +kernel
theorem dX11_film_2 : decode cX11_film 2 = .ok (.iconst 3, 1) := by decide +kernel
theorem dX11_film_3 : decode cX11_film 3 = .ok (.invokestatic 101, 3) := by decide +kernel
theorem dX11_film_6 : decode cX11_film 6 = .ok (.ifCond .eq 18, 3) := by decide +kernel
theorem dX11_film_9 : decode cX11_film 9 = .ok (.iload_n 2, 1) := by decide +kernel
theorem dX11_film_10 : decode cX11_film 10 = .ok (.iconst 0, 1) := by decide +kernel
theorem dX11_film_11 : decode cX11_film 11 = .ok (.aload_n 0, 1) := by decide +kernel
theorem dX11_film_12 : decode cX11_film 12 = .ok (.getfield 10, 3) := by decide +kernel
theorem dX11_film_15 : decode cX11_film 15 = .ok (.getfield 72, 3) := by decide +kernel
theorem dX11_film_18 : decode cX11_film 18 = .ok (.invokestatic 101, 3) := by decide +kernel
theorem dX11_film_21 : decode cX11_film 21 = .ok (.ifCond .ne 6, 3) := by decide +kernel
theorem dX11_film_24 : decode cX11_film 24 = .ok (.bipush (-2), 2) := by decide +kernel
theorem dX11_film_26 : decode cX11_film 26 = .ok (.ireturn, 1) := by decide +kernel
theorem dX11_film_27 : decode cX11_film 27 = .ok (.aload_n 0, 1) := by decide +kernel
theorem dX11_film_28 : decode cX11_film 28 = .ok (.aload_n 0, 1) := by decide +kernel
theorem dX11_film_29 : decode cX11_film 29 = .ok (.getfield 10, 3) := by decide +kernel
theorem dX11_film_32 : decode cX11_film 32 = .ok (.iload_n 2, 1) := by decide +kernel
theorem dX11_film_33 : decode cX11_film 33 = .ok (.invokevirtual 174, 3) := by decide +kernel
theorem dX11_film_36 : decode cX11_film 36 = .ok (.aload_n 0, 1) := by decide +kernel
theorem dX11_film_37 : decode cX11_film 37 = .ok (.getfield 44, 3) := by decide +kernel
theorem dX11_film_40 : decode cX11_film 40 = .ok (.iload_n 1, 1) := by decide +kernel
theorem dX11_film_41 : decode cX11_film 41 = .ok (.aaload, 1) := by decide +kernel
theorem dX11_film_42 : decode cX11_film 42 = .ok (.iconst 1, 1) := by decide +kernel
theorem dX11_film_43 : decode cX11_film 43 = .ok (.aload_n 0, 1) := by decide +kernel
theorem dX11_film_44 : decode cX11_film 44 = .ok (.getfield 10, 3) := by decide +kernel
theorem dX11_film_47 : decode cX11_film 47 = .ok (.getfield 68, 3) := by decide +kernel
theorem dX11_film_50 : decode cX11_film 50 = .ok (.invokevirtual 242, 3) := by decide +kernel
theorem dX11_film_53 : decode cX11_film 53 = .ok (.iconst 0, 1) := by decide +kernel
theorem dX11_film_54 : decode cX11_film 54 = .ok (.istore_n 3, 1) := by decide +kernel
theorem dX11_film_55 : decode cX11_film 55 = .ok (.iload_n 3, 1) := by decide +kernel
theorem dX11_film_56 : decode cX11_film 56 = .ok (.aload_n 0, 1) := by decide +kernel
theorem dX11_film_57 : decode cX11_film 57 = .ok (.getfield 10, 3) := by decide +kernel
theorem dX11_film_60 : decode cX11_film 60 = .ok (.getfield 68, 3) := by decide +kernel
theorem dX11_film_63 : decode cX11_film 63 = .ok (.if_icmp .ge 28, 3) := by decide +kernel
theorem dX11_film_66 : decode cX11_film 66 = .ok (.aload_n 0, 1) := by decide +kernel
theorem dX11_film_67 : decode cX11_film 67 = .ok (.getfield 44, 3) := by decide +kernel
theorem dX11_film_70 : decode cX11_film 70 = .ok (.iload_n 1, 1) := by decide +kernel
theorem dX11_film_71 : decode cX11_film 71 = .ok (.aaload, 1) := by decide +kernel
theorem dX11_film_72 : decode cX11_film 72 = .ok (.iload_n 3, 1) := by decide +kernel
theorem dX11_film_73 : decode cX11_film 73 = .ok (.aload_n 0, 1) := by decide +kernel
theorem dX11_film_74 : decode cX11_film 74 = .ok (.getfield 25, 3) := by decide +kernel
theorem dX11_film_77 : decode cX11_film 77 = .ok (.getfield 178, 3) := by decide +kernel
theorem dX11_film_80 : decode cX11_film 80 = .ok (.iload_n 3, 1) := by decide +kernel
theorem dX11_film_81 : decode cX11_film 81 = .ok (.iaload, 1) := by decide +kernel
theorem dX11_film_82 : decode cX11_film 82 = .ok (.invokevirtual 245, 3) := by decide +kernel
theorem dX11_film_85 : decode cX11_film 85 = .ok (.iinc 3 1, 3) := by decide +kernel
theorem dX11_film_88 : decode cX11_film 88 = .ok (.goto (-33), 3) := by decide +kernel
theorem dX11_film_91 : decode cX11_film 91 = .ok (.aload_n 0, 1) := by decide +kernel
theorem dX11_film_92 : decode cX11_film 92 = .ok (.getfield 10, 3) := by decide +kernel
theorem dX11_film_95 : decode cX11_film 95 = .ok (.getfield 68, 3) := by decide +kernel
theorem dX11_film_98 : decode cX11_film 98 = .ok (.ireturn, 1) := by decide +kernel
theorem dX11_drawn_0 : decode cX11_drawn 0 = .ok (.iload_n 1, 1) := by decide +kernel
theorem dX11_drawn_1 : decode cX11_drawn 1 = .ok (.iconst 0, 1) := by decide +kernel
theorem dX11_drawn_2 : decode cX11_drawn 2 = .ok (.ldc 248, 2) := by decide +kernel
theorem dX11_drawn_4 : decode cX11_drawn 4 = .ok (.invokestatic 101, 3) := by decide +kernel
theorem dX11_drawn_7 : decode cX11_drawn 7 = .ok (.ifCond .eq 12, 3) := by decide +kernel
theorem dX11_drawn_10 : decode cX11_drawn 10 = .ok (.iload_n 2, 1) := by decide +kernel
theorem dX11_drawn_11 : decode cX11_drawn 11 = .ok (.iconst 0, 1) := by decide +kernel
theorem dX11_drawn_12 : decode cX11_drawn 12 = .ok (.iconst 1, 1) := by decide +kernel
theorem dX11_drawn_13 : decode cX11_drawn 13 = .ok (.invokestatic 101, 3) := by decide +kernel
theorem dX11_drawn_16 : decode cX11_drawn 16 = .ok (.ifCond .ne 6, 3) := by decide +kernel
theorem dX11_drawn_19 : decode cX11_drawn 19 = .ok (.bipush (-2), 2) := by decide +kernel
theorem dX11_drawn_21 : decode cX11_drawn 21 = .ok (.ireturn, 1) := by decide +kernel
theorem dX11_drawn_22 : decode cX11_drawn 22 = .ok (.aload_n 0, 1) := by decide +kernel
theorem dX11_drawn_23 : decode cX11_drawn 23 = .ok (.iload_n 1, 1) := by decide +kernel
theorem dX11_drawn_24 : decode cX11_drawn 24 = .ok (.invokevirtual 249, 3) := by decide +kernel
theorem dX11_drawn_27 : decode cX11_drawn 27 = .ok (.iload_n 2, 1) := by decide +kernel
theorem dX11_drawn_28 : decode cX11_drawn 28 = .ok (.ifCond .ne 14, 3) := by decide +kernel
theorem dX11_drawn_31 : decode cX11_drawn 31 = .ok (.aload_n 0, 1) := by decide +kernel
theorem dX11_drawn_32 : decode cX11_drawn 32 = .ok (.aload_n 0, 1) := by decide +kernel
theorem dX11_drawn_33 : decode cX11_drawn 33 = .ok (.getfield 16, 3) := by decide +kernel
theorem dX11_drawn_36 : decode cX11_drawn 36 = .ok (.invokevirtual 212, 3) := by decide +kernel
theorem dX11_drawn_39 : decode cX11_drawn 39 = .ok (.goto 11, 3) := by decide +kernel
theorem dX11_drawn_42 : decode cX11_drawn 42 = .ok (.aload_n 0, 1) := by decide +kernel
theorem dX11_drawn_43 : decode cX11_drawn 43 = .ok (.aload_n 0, 1) := by decide +kernel
theorem dX11_drawn_44 : decode cX11_drawn 44 = .ok (.getfield 16, 3) := by decide +kernel
theorem dX11_drawn_47 : decode cX11_drawn 47 = .ok (.invokevirtual 208, 3) := by decide +kernel
theorem dX11_drawn_50 : decode cX11_drawn 50 = .ok (.ireturn, 1) := by decide +kernel
theorem dX11_odds_0 : decode cX11_odds 0 = .ok (.iload_n 1, 1) := by decide +kernel
theorem dX11_odds_1 : decode cX11_odds 1 = .ok (.iconst 0, 1) := by decide +kernel
theorem dX11_odds_2 : decode cX11_odds 2 = .ok (.ldc 248, 2) := by decide +kernel
theorem dX11_odds_4 : decode cX11_odds 4 = .ok (.invokestatic 101, 3) := by decide +kernel
theorem dX11_odds_7 : decode cX11_odds 7 = .ok (.ifCond .eq 13, 3) := by decide +kernel
theorem dX11_odds_10 : decode cX11_odds 10 = .ok (.iload_n 2, 1) := by decide +kernel
theorem dX11_odds_11 : decode cX11_odds 11 = .ok (.iconst 1, 1) := by decide +kernel
theorem dX11_odds_12 : decode cX11_odds 12 = .ok (.bipush 20, 2) := by decide +kernel
theorem dX11_odds_14 : decode cX11_odds 14 = .ok (.invokestatic 101, 3) := by decide +kernel
theorem dX11_odds_17 : decode cX11_odds 17 = .ok (.ifCond .ne 7, 3) := by decide +kernel
theorem dX11_odds_20 : decode cX11_odds 20 = .ok (.ldc2_w 240, 3) := by decide +kernel
theorem dX11_odds_23 : decode cX11_odds 23 = .ok (.lreturn, 1) := by decide +kernel
theorem dX11_odds_24 : decode cX11_odds 24 = .ok (.iload_n 3, 1) := by decide +kernel
theorem dX11_odds_25 : decode cX11_odds 25 = .ok (.iconst 0, 1) := by decide +kernel
theorem dX11_odds_26 : decode cX11_odds 26 = .ok (.sipush 999, 3) := by decide +kernel
theorem dX11_odds_29 : decode cX11_odds 29 = .ok (.invokestatic 101, 3) := by decide +kernel
theorem dX11_odds_32 : decode cX11_odds 32 = .ok (.ifCond .eq 13, 3) := by decide +kernel
theorem dX11_odds_35 : decode cX11_odds 35 = .ok (.iload 4, 2) := by decide +kernel
theorem dX11_odds_37 : decode cX11_odds 37 = .ok (.iconst 0, 1) := by decide +kernel
theorem dX11_odds_38 : decode cX11_odds 38 = .ok (.iconst 1, 1) := by decide +kernel
theorem dX11_odds_39 : decode cX11_odds 39 = .ok (.invokestatic 101, 3) := by decide +kernel
theorem dX11_odds_42 : decode cX11_odds 42 = .ok (.ifCond .ne 7, 3) := by decide +kernel
theorem dX11_odds_45 : decode cX11_odds 45 = .ok (.ldc2_w 240, 3) := by decide +kernel
theorem dX11_odds_48 : decode cX11_odds 48 = .ok (.lreturn, 1) := by decide +kernel
theorem dX11_odds_49 : decode cX11_odds 49 = .ok (.iconst 0, 1) := by decide +kernel
theorem dX11_odds_50 : decode cX11_odds 50 = .ok (.istore 5, 2) := by decide +kernel
theorem dX11_odds_52 : decode cX11_odds 52 = .ok (.iconst 0, 1) := by decide +kernel
theorem dX11_odds_53 : decode cX11_odds 53 = .ok (.istore 6, 2) := by decide +kernel
theorem dX11_odds_55 : decode cX11_odds 55 = .ok (.iload 6, 2) := by decide +kernel
theorem dX11_odds_57 : decode cX11_odds 57 = .ok (.iload_n 2, 1) := by decide +kernel
theorem dX11_odds_58 : decode cX11_odds 58 = .ok (.if_icmp .ge 39, 3) := by decide +kernel
theorem dX11_odds_61 : decode cX11_odds 61 = .ok (.aload_n 0, 1) := by decide +kernel
theorem dX11_odds_62 : decode cX11_odds 62 = .ok (.iload_n 1, 1) := by decide +kernel
theorem dX11_odds_63 : decode cX11_odds 63 = .ok (.iload 6, 2) := by decide +kernel
theorem dX11_odds_65 : decode cX11_odds 65 = .ok (.iadd, 1) := by decide +kernel
theorem dX11_odds_66 : decode cX11_odds 66 = .ok (.invokevirtual 249, 3) := by decide +kernel
theorem dX11_odds_69 : decode cX11_odds 69 = .ok (.iload 5, 2) := by decide +kernel
theorem dX11_odds_71 : decode cX11_odds 71 = .ok (.aload_n 0, 1) := by decide +kernel
theorem dX11_odds_72 : decode cX11_odds 72 = .ok (.aload_n 0, 1) := by decide +kernel
theorem dX11_odds_73 : decode cX11_odds 73 = .ok (.getfield 16, 3) := by decide +kernel
theorem dX11_odds_76 : decode cX11_odds 76 = .ok (.invokevirtual 208, 3) := by decide +kernel
theorem dX11_odds_79 : decode cX11_odds 79 = .ok (.iload_n 3, 1) := by decide +kernel
theorem dX11_odds_80 : decode cX11_odds 80 = .ok (.if_icmp .gt 7, 3) := by decide +kernel
theorem dX11_odds_83 : decode cX11_odds 83 = .ok (.iconst 1, 1) := by decide +kernel
theorem dX11_odds_84 : decode cX11_odds 84 = .ok (.goto 4, 3) := by decide +kernel
theorem dX11_odds_87 : decode cX11_odds 87 = .ok (.iconst 0, 1) := by decide +kernel
theorem dX11_odds_88 : decode cX11_odds 88 = .ok (.iadd, 1) := by decide +kernel
theorem dX11_odds_89 : decode cX11_odds 89 = .ok (.istore 5, 2) := by decide +kernel
theorem dX11_odds_91 : decode cX11_odds 91 = .ok (.iinc 6 1, 3) := by decide +kernel
theorem dX11_odds_94 : decode cX11_odds 94 = .ok (.goto (-39), 3) := by decide +kernel
theorem dX11_odds_97 : decode cX11_odds 97 = .ok (.iconst 1, 1) := by decide +kernel
theorem dX11_odds_98 : decode cX11_odds 98 = .ok (.iload 5, 2) := by decide +kernel
theorem dX11_odds_100 : decode cX11_odds 100 = .ok (.iload_n 2, 1) := by decide +kernel
theorem dX11_odds_101 : decode cX11_odds 101 = .ok (.invokestatic 252, 3) := by decide +kernel
theorem dX11_odds_104 : decode cX11_odds 104 = .ok (.invokestatic 255, 3) := by decide +kernel
theorem dX11_odds_107 : decode cX11_odds 107 = .ok (.istore 6, 2) := by decide +kernel
theorem dX11_odds_109 : decode cX11_odds 109 = .ok (.iload 4, 2) := by decide +kernel
theorem dX11_odds_111 : decode cX11_odds 111 = .ok (.ifCond .ne 8, 3) := by decide +kernel
theorem dX11_odds_114 : decode cX11_odds 114 = .ok (.iload 5, 2) := by decide +kernel
theorem dX11_odds_116 : decode cX11_odds 116 = .ok (.goto 4, 3) := by decide +kernel
theorem dX11_odds_119 : decode cX11_odds 119 = .ok (.iload_n 2, 1) := by decide +kernel
theorem dX11_odds_120 : decode cX11_odds 120 = .ok (.iload 6, 2) := by decide +kernel
theorem dX11_odds_122 : decode cX11_odds 122 = .ok (.idiv, 1) := by decide +kernel
theorem dX11_odds_123 : decode cX11_odds 123 = .ok (.i2l, 1) := by decide +kernel
theorem dX11_odds_124 : decode cX11_odds 124 = .ok (.lreturn, 1) := by decide +kernel
theorem dX11_image_0 : decode cX11_image 0 = .ok (.aload_n 0, 1) := by decide +kernel
theorem dX11_image_1 : decode cX11_image 1 = .ok (.getfield 19, 3) := by decide +kernel
theorem dX11_image_4 : decode cX11_image 4 = .ok (.aload_n 0, 1) := by decide +kernel
theorem dX11_image_5 : decode cX11_image 5 = .ok (.getfield 10, 3) := by decide +kernel
theorem dX11_image_8 : decode cX11_image 8 = .ok (.invokevirtual 260, 3) := by decide +kernel
theorem dX11_image_11 : decode cX11_image 11 = .ok (.aload_n 0, 1) := by decide +kernel
theorem dX11_image_12 : decode cX11_image 12 = .ok (.iconst 1, 1) := by decide +kernel
theorem dX11_image_13 : decode cX11_image 13 = .ok (.putfield 262, 3) := by decide +kernel
theorem dX11_image_16 : decode cX11_image 16 = .ok (.aload_n 0, 1) := by decide +kernel
theorem dX11_image_17 : decode cX11_image 17 = .ok (.getfield 10, 3) := by decide +kernel
theorem dX11_image_20 : decode cX11_image 20 = .ok (.getfield 68, 3) := by decide +kernel
theorem dX11_image_23 : decode cX11_image 23 = .ok (.ireturn, 1) := by decide +kernel
theorem dX11_back_0 : decode cX11_back 0 = .ok (.aload_n 0, 1) := by decide +kernel
theorem dX11_back_1 : decode cX11_back 1 = .ok (.getfield 262, 3) := by decide +kernel
theorem dX11_back_4 : decode cX11_back 4 = .ok (.ifCond .ne 6, 3) := by decide +kernel
theorem dX11_back_7 : decode cX11_back 7 = .ok (.bipush (-3), 2) := by decide +kernel
theorem dX11_back_9 : decode cX11_back 9 = .ok (.ireturn, 1) := by decide +kernel
theorem dX11_back_10 : decode cX11_back 10 = .ok (.aload_n 0, 1) := by decide +kernel
theorem dX11_back_11 : decode cX11_back 11 = .ok (.getfield 10, 3) := by decide +kernel
theorem dX11_back_14 : decode cX11_back 14 = .ok (.aload_n 0, 1) := by decide +kernel
theorem dX11_back_15 : decode cX11_back 15 = .ok (.getfield 19, 3) := by decide +kernel
theorem dX11_back_18 : decode cX11_back 18 = .ok (.invokevirtual 260, 3) := by decide +kernel
theorem dX11_back_21 : decode cX11_back 21 = .ok (.aload_n 0, 1) := by decide +kernel
theorem dX11_back_22 : decode cX11_back 22 = .ok (.getfield 10, 3) := by decide +kernel
theorem dX11_back_25 : decode cX11_back 25 = .ok (.getfield 68, 3) := by decide +kernel
theorem dX11_back_28 : decode cX11_back 28 = .ok (.ireturn, 1) := by decide +kernel
theorem dX11_sheet_0 : decode cX11_sheet 0 = .ok (.iload_n 1, 1) := by decide +kernel
theorem dX11_sheet_1 : decode cX11_sheet 1 = .ok (.iconst 0, 1) := by decide +kernel
theorem dX11_sheet_2 : decode cX11_sheet 2 = .ok (.iconst 3, 1) := by decide +kernel
theorem dX11_sheet_3 : decode cX11_sheet 3 = .ok (.invokestatic 101, 3) := by decide +kernel
theorem dX11_sheet_6 : decode cX11_sheet 6 = .ok (.ifCond .eq 12, 3) := by decide +kernel
theorem dX11_sheet_9 : decode cX11_sheet 9 = .ok (.iload_n 2, 1) := by decide +kernel
theorem dX11_sheet_10 : decode cX11_sheet 10 = .ok (.iconst (-1), 1) := by decide +kernel
theorem dX11_sheet_11 : decode cX11_sheet 11 = .ok (.iconst 2, 1) := by decide +kernel
theorem dX11_sheet_12 : decode cX11_sheet 12 = .ok (.invokestatic 101, 3) := by decide +kernel
theorem dX11_sheet_15 : decode cX11_sheet 15 = .ok (.ifCond .ne 6, 3) := by decide +kernel
theorem dX11_sheet_18 : decode cX11_sheet 18 = .ok (.bipush (-2), 2) := by decide +kernel
theorem dX11_sheet_20 : decode cX11_sheet 20 = .ok (.ireturn, 1) := by decide +kernel
theorem dX11_sheet_21 : decode cX11_sheet 21 = .ok (.iload_n 2, 1) := by decide +kernel
theorem dX11_sheet_22 : decode cX11_sheet 22 = .ok (.iconst (-1), 1) := by decide +kernel
theorem dX11_sheet_23 : decode cX11_sheet 23 = .ok (.if_icmp .ne 16, 3) := by decide +kernel
theorem dX11_sheet_26 : decode cX11_sheet 26 = .ok (.aload_n 0, 1) := by decide +kernel
theorem dX11_sheet_27 : decode cX11_sheet 27 = .ok (.getfield 44, 3) := by decide +kernel
theorem dX11_sheet_30 : decode cX11_sheet 30 = .ok (.iload_n 1, 1) := by decide +kernel
theorem dX11_sheet_31 : decode cX11_sheet 31 = .ok (.aaload, 1) := by decide +kernel
theorem dX11_sheet_32 : decode cX11_sheet 32 = .ok (.iconst (-1), 1) := by decide +kernel
theorem dX11_sheet_33 : decode cX11_sheet 33 = .ok (.iconst 0, 1) := by decide +kernel
theorem dX11_sheet_34 : decode cX11_sheet 34 = .ok (.invokevirtual 242, 3) := by decide +kernel
theorem dX11_sheet_37 : decode cX11_sheet 37 = .ok (.iconst 1, 1) := by decide +kernel
theorem dX11_sheet_38 : decode cX11_sheet 38 = .ok (.ireturn, 1) := by decide +kernel
theorem dX11_sheet_39 : decode cX11_sheet 39 = .ok (.iload_n 3, 1) := by decide +kernel
theorem dX11_sheet_40 : decode cX11_sheet 40 = .ok (.bipush 40, 2) := by decide +kernel
theorem dX11_sheet_42 : decode cX11_sheet 42 = .ok (.if_icmp .le 6, 3) := by decide +kernel
theorem dX11_sheet_45 : decode cX11_sheet 45 = .ok (.bipush (-2), 2) := by decide +kernel
theorem dX11_sheet_47 : decode cX11_sheet 47 = .ok (.ireturn, 1) := by decide +kernel
theorem dX11_sheet_48 : decode cX11_sheet 48 = .ok (.iload_n 3, 1) := by decide +kernel
theorem dX11_sheet_49 : decode cX11_sheet 49 = .ok (.ifCond .ge 6, 3) := by decide +kernel
theorem dX11_sheet_52 : decode cX11_sheet 52 = .ok (.bipush (-14), 2) := by decide +kernel
theorem dX11_sheet_54 : decode cX11_sheet 54 = .ok (.ireturn, 1) := by decide +kernel
theorem dX11_sheet_55 : decode cX11_sheet 55 = .ok (.aload_n 0, 1) := by decide +kernel
theorem dX11_sheet_56 : decode cX11_sheet 56 = .ok (.getfield 44, 3) := by decide +kernel
theorem dX11_sheet_59 : decode cX11_sheet 59 = .ok (.iload_n 1, 1) := by decide +kernel
theorem dX11_sheet_60 : decode cX11_sheet 60 = .ok (.aaload, 1) := by decide +kernel
theorem dX11_sheet_61 : decode cX11_sheet 61 = .ok (.iload_n 2, 1) := by decide +kernel
theorem dX11_sheet_62 : decode cX11_sheet 62 = .ok (.iload_n 3, 1) := by decide +kernel
theorem dX11_sheet_63 : decode cX11_sheet 63 = .ok (.invokevirtual 242, 3) := by decide +kernel
theorem dX11_sheet_66 : decode cX11_sheet 66 = .ok (.iconst 1, 1) := by decide +kernel
theorem dX11_sheet_67 : decode cX11_sheet 67 = .ok (.ireturn, 1) := by decide +kernel
theorem dX11_cell_0 : decode cX11_cell 0 = .ok (.iload_n 1, 1) := by decide +kernel
theorem dX11_cell_1 : decode cX11_cell 1 = .ok (.iconst 0, 1) := by decide +kernel
theorem dX11_cell_2 : decode cX11_cell 2 = .ok (.iconst 3, 1) := by decide +kernel
theorem dX11_cell_3 : decode cX11_cell 3 = .ok (.invokestatic 101, 3) := by decide +kernel
theorem dX11_cell_6 : decode cX11_cell 6 = .ok (.ifCond .ne 6, 3) := by decide +kernel
theorem dX11_cell_9 : decode cX11_cell 9 = .ok (.bipush (-2), 2) := by decide +kernel
theorem dX11_cell_11 : decode cX11_cell 11 = .ok (.ireturn, 1) := by decide +kernel
theorem dX11_cell_12 : decode cX11_cell 12 = .ok (.aload_n 0, 1) := by decide +kernel
theorem dX11_cell_13 : decode cX11_cell 13 = .ok (.getfield 44, 3) := by decide +kernel
theorem dX11_cell_16 : decode cX11_cell 16 = .ok (.iload_n 1, 1) := by decide +kernel
theorem dX11_cell_17 : decode cX11_cell 17 = .ok (.aaload, 1) := by decide +kernel
theorem dX11_cell_18 : decode cX11_cell 18 = .ok (.getfield 266, 3) := by decide +kernel
theorem dX11_cell_21 : decode cX11_cell 21 = .ok (.iconst (-1), 1) := by decide +kernel
theorem dX11_cell_22 : decode cX11_cell 22 = .ok (.if_icmp .ne 6, 3) := by decide +kernel
theorem dX11_cell_25 : decode cX11_cell 25 = .ok (.bipush (-11), 2) := by decide +kernel
theorem dX11_cell_27 : decode cX11_cell 27 = .ok (.ireturn, 1) := by decide +kernel
theorem dX11_cell_28 : decode cX11_cell 28 = .ok (.iload_n 2, 1) := by decide +kernel
theorem dX11_cell_29 : decode cX11_cell 29 = .ok (.iconst 0, 1) := by decide +kernel
theorem dX11_cell_30 : decode cX11_cell 30 = .ok (.aload_n 0, 1) := by decide +kernel
theorem dX11_cell_31 : decode cX11_cell 31 = .ok (.getfield 44, 3) := by decide +kernel
theorem dX11_cell_34 : decode cX11_cell 34 = .ok (.iload_n 1, 1) := by decide +kernel
theorem dX11_cell_35 : decode cX11_cell 35 = .ok (.aaload, 1) := by decide +kernel
theorem dX11_cell_36 : decode cX11_cell 36 = .ok (.getfield 269, 3) := by decide +kernel
theorem dX11_cell_39 : decode cX11_cell 39 = .ok (.iconst 1, 1) := by decide +kernel
theorem dX11_cell_40 : decode cX11_cell 40 = .ok (.isub, 1) := by decide +kernel
theorem dX11_cell_41 : decode cX11_cell 41 = .ok (.invokestatic 101, 3) := by decide +kernel
theorem dX11_cell_44 : decode cX11_cell 44 = .ok (.ifCond .ne 6, 3) := by decide +kernel
theorem dX11_cell_47 : decode cX11_cell 47 = .ok (.bipush (-12), 2) := by decide +kernel
theorem dX11_cell_49 : decode cX11_cell 49 = .ok (.ireturn, 1) := by decide +kernel
theorem dX11_cell_50 : decode cX11_cell 50 = .ok (.aload_n 0, 1) := by decide +kernel
theorem dX11_cell_51 : decode cX11_cell 51 = .ok (.getfield 44, 3) := by decide +kernel
theorem dX11_cell_54 : decode cX11_cell 54 = .ok (.iload_n 1, 1) := by decide +kernel
theorem dX11_cell_55 : decode cX11_cell 55 = .ok (.aaload, 1) := by decide +kernel
theorem dX11_cell_56 : decode cX11_cell 56 = .ok (.iload_n 2, 1) := by decide +kernel
theorem dX11_cell_57 : decode cX11_cell 57 = .ok (.iload_n 3, 1) := by decide +kernel
theorem dX11_cell_58 : decode cX11_cell 58 = .ok (.invokevirtual 245, 3) := by decide +kernel
theorem dX11_cell_61 : decode cX11_cell 61 = .ok (.iconst 1, 1) := by decide +kernel
theorem dX11_cell_62 : decode cX11_cell 62 = .ok (.ireturn, 1) := by decide +kernel
theorem dX11_copy_0 : decode cX11_copy 0 = .ok (.iload_n 1, 1) := by decide +kernel
theorem dX11_copy_1 : decode cX11_copy 1 = .ok (.iconst 0, 1) := by decide +kernel
theorem dX11_copy_2 : decode cX11_copy 2 = .ok (.iconst 3, 1) := by decide +kernel
theorem dX11_copy_3 : decode cX11_copy 3 = .ok (.invokestatic 101, 3) := by decide +kernel
theorem dX11_copy_6 : decode cX11_copy 6 = .ok (.ifCond .eq 12, 3) := by decide +kernel
theorem dX11_copy_9 : decode cX11_copy 9 = .ok (.iload_n 3, 1) := by decide +kernel
theorem dX11_copy_10 : decode cX11_copy 10 = .ok (.iconst 0, 1) := by decide +kernel
theorem dX11_copy_11 : decode cX11_copy 11 = .ok (.iconst 3, 1) := by decide +kernel
theorem dX11_copy_12 : decode cX11_copy 12 = .ok (.invokestatic 101, 3) := by decide +kernel
theorem dX11_copy_15 : decode cX11_copy 15 = .ok (.ifCond .ne 6, 3) := by decide +kernel
theorem dX11_copy_18 : decode cX11_copy 18 = .ok (.bipush (-2), 2) := by decide +kernel
theorem dX11_copy_20 : decode cX11_copy 20 = .ok (.ireturn, 1) := by decide +kernel
theorem dX11_copy_21 : decode cX11_copy 21 = .ok (.aload_n 0, 1) := by decide +kernel
theorem dX11_copy_22 : decode cX11_copy 22 = .ok (.getfield 44, 3) := by decide +kernel
theorem dX11_copy_25 : decode cX11_copy 25 = .ok (.iload_n 1, 1) := by decide +kernel
theorem dX11_copy_26 : decode cX11_copy 26 = .ok (.aaload, 1) := by decide +kernel
theorem dX11_copy_27 : decode cX11_copy 27 = .ok (.astore 6, 2) := by decide +kernel
theorem dX11_copy_29 : decode cX11_copy 29 = .ok (.aload_n 0, 1) := by decide +kernel
theorem dX11_copy_30 : decode cX11_copy 30 = .ok (.getfield 44, 3) := by decide +kernel
theorem dX11_copy_33 : decode cX11_copy 33 = .ok (.iload_n 3, 1) := by decide +kernel
theorem dX11_copy_34 : decode cX11_copy 34 = .ok (.aaload, 1) := by decide +kernel
theorem dX11_copy_35 : decode cX11_copy 35 = .ok (.astore 7, 2) := by decide +kernel
theorem dX11_copy_37 : decode cX11_copy 37 = .ok (.aload 6, 2) := by decide +kernel
theorem dX11_copy_39 : decode cX11_copy 39 = .ok (.getfield 266, 3) := by decide +kernel
theorem dX11_copy_42 : decode cX11_copy 42 = .ok (.iconst (-1), 1) := by decide +kernel
theorem dX11_copy_43 : decode cX11_copy 43 = .ok (.if_icmp .eq 12, 3) := by decide +kernel
theorem dX11_copy_46 : decode cX11_copy 46 = .ok (.aload 7, 2) := by decide +kernel
theorem dX11_copy_48 : decode cX11_copy 48 = .ok (.getfield 266, 3) := by decide +kernel
theorem dX11_copy_51 : decode cX11_copy 51 = .ok (.iconst (-1), 1) := by decide +kernel
theorem dX11_copy_52 : decode cX11_copy 52 = .ok (.if_icmp .ne 6, 3) := by decide +kernel
theorem dX11_copy_55 : decode cX11_copy 55 = .ok (.bipush (-11), 2) := by decide +kernel
theorem dX11_copy_57 : decode cX11_copy 57 = .ok (.ireturn, 1) := by decide +kernel
theorem dX11_copy_58 : decode cX11_copy 58 = .ok (.aload 6, 2) := by decide +kernel
theorem dX11_copy_60 : decode cX11_copy 60 = .ok (.getfield 266, 3) := by decide +kernel
theorem dX11_copy_63 : decode cX11_copy 63 = .ok (.aload 7, 2) := by decide +kernel
theorem dX11_copy_65 : decode cX11_copy 65 = .ok (.getfield 266, 3) := by decide +kernel
theorem dX11_copy_68 : decode cX11_copy 68 = .ok (.if_icmp .eq 6, 3) := by decide +kernel
theorem dX11_copy_71 : decode cX11_copy 71 = .ok (.bipush (-13), 2) := by decide +kernel
theorem dX11_copy_73 : decode cX11_copy 73 = .ok (.ireturn, 1) := by decide +kernel
theorem dX11_copy_74 : decode cX11_copy 74 = .ok (.iload_n 2, 1) := by decide +kernel
theorem dX11_copy_75 : decode cX11_copy 75 = .ok (.ifCond .lt 38, 3) := by decide +kernel
theorem dX11_copy_78 : decode cX11_copy 78 = .ok (.iload 4, 2) := by decide +kernel
theorem dX11_copy_80 : decode cX11_copy 80 = .ok (.ifCond .lt 33, 3) := by decide +kernel
theorem dX11_copy_83 : decode cX11_copy 83 = .ok (.iload 5, 2) := by decide +kernel
theorem dX11_copy_85 : decode cX11_copy 85 = .ok (.ifCond .lt 28, 3) := by decide +kernel
theorem dX11_copy_88 : decode cX11_copy 88 = .ok (.iload 5, 2) := by decide +kernel
theorem dX11_copy_90 : decode cX11_copy 90 = .ok (.aload 6, 2) := by decide +kernel
theorem dX11_copy_92 : decode cX11_copy 92 = .ok (.getfield 269, 3) := by decide +kernel
theorem dX11_copy_95 : decode cX11_copy 95 = .ok (.iload_n 2, 1) := by decide +kernel
theorem dX11_copy_96 : decode cX11_copy 96 = .ok (.isub, 1) := by decide +kernel
theorem dX11_copy_97 : decode cX11_copy 97 = .ok (.if_icmp .gt 16, 3) := by decide +kernel
theorem dX11_copy_100 : decode cX11_copy 100 = .ok (.iload 5, 2) := by decide +kernel
theorem dX11_copy_102 : decode cX11_copy 102 = .ok (.aload 7, 2) := by decide +kernel
theorem dX11_copy_104 : decode cX11_copy 104 = .ok (.getfield 269, 3) := by decide +kernel
theorem dX11_copy_107 : decode cX11_copy 107 = .ok (.iload 4, 2) := by decide +kernel
theorem dX11_copy_109 : decode cX11_copy 109 = .ok (.isub, 1) := by decide +kernel
theorem dX11_copy_110 : decode cX11_copy 110 = .ok (.if_icmp .le 6, 3) := by decide +kernel
theorem dX11_copy_113 : decode cX11_copy 113 = .ok (.bipush (-12), 2) := by decide +kernel
theorem dX11_copy_115 : decode cX11_copy 115 = .ok (.ireturn, 1) := by decide +kernel
theorem dX11_copy_116 : decode cX11_copy 116 = .ok (.aload 6, 2) := by decide +kernel
theorem dX11_copy_118 : decode cX11_copy 118 = .ok (.getfield 270, 3) := by decide +kernel
theorem dX11_copy_121 : decode cX11_copy 121 = .ok (.iload_n 2, 1) := by decide +kernel
theorem dX11_copy_122 : decode cX11_copy 122 = .ok (.aload 7, 2) := by decide +kernel
theorem dX11_copy_124 : decode cX11_copy 124 = .ok (.getfield 270, 3) := by decide +kernel
theorem dX11_copy_127 : decode cX11_copy 127 = .ok (.iload 4, 2) := by decide +kernel
theorem dX11_copy_129 : decode cX11_copy 129 = .ok (.iload 5, 2) := by decide +kernel
theorem dX11_copy_131 : decode cX11_copy 131 = .ok (.invokestatic 273, 3) := by decide +kernel
theorem dX11_copy_134 : decode cX11_copy 134 = .ok (.iload 5, 2) := by decide +kernel
theorem dX11_copy_136 : decode cX11_copy 136 = .ok (.ireturn, 1) := by decide +kernel
theorem dX11_cakesBy_0 : decode cX11_cakesBy 0 = .ok (.iload_n 1, 1) := by decide +kernel
theorem dX11_cakesBy_1 : decode cX11_cakesBy 1 = .ok (.iconst 0, 1) := by decide +kernel
theorem dX11_cakesBy_2 : decode cX11_cakesBy 2 = .ok (.iconst 3, 1) := by decide +kernel
theorem dX11_cakesBy_3 : decode cX11_cakesBy 3 = .ok (.invokestatic 101, 3) := by decide +kernel
theorem dX11_cakesBy_6 : decode cX11_cakesBy 6 = .ok (.ifCond .eq 23, 3) := by decide +kernel
theorem dX11_cakesBy_9 : decode cX11_cakesBy 9 = .ok (.iload_n 2, 1) := by decide +kernel
theorem dX11_cakesBy_10 : decode cX11_cakesBy 10 = .ok (.iconst 0, 1) := by decide +kernel
theorem dX11_cakesBy_11 : decode cX11_cakesBy 11 = .ok (.iconst 2, 1) := by decide +kernel
theorem dX11_cakesBy_12 : decode cX11_cakesBy 12 = .ok (.invokestatic 101, 3) := by decide +kernel
theorem dX11_cakesBy_15 : decode cX11_cakesBy 15 = .ok (.ifCond .eq 14, 3) := by decide +kernel
theorem dX11_cakesBy_18 : decode cX11_cakesBy 18 = .ok (.iload 4, 2) := by decide +kernel
theorem dX11_cakesBy_20 : decode cX11_cakesBy 20 = .ok (.iconst 0, 1) := by decide +kernel
theorem dX11_cakesBy_21 : decode cX11_cakesBy 21 = .ok (.bipush 8, 2) := by decide +kernel
theorem dX11_cakesBy_23 : decode cX11_cakesBy 23 = .ok (.invokestatic 101, 3) := by decide +kernel
theorem dX11_cakesBy_26 : decode cX11_cakesBy 26 = .ok (.ifCond .ne 6, 3) := by decide +kernel
theorem dX11_cakesBy_29 : decode cX11_cakesBy 29 = .ok (.bipush (-2), 2) := by decide +kernel
theorem dX11_cakesBy_31 : decode cX11_cakesBy 31 = .ok (.ireturn, 1) := by decide +kernel
theorem dX11_cakesBy_32 : decode cX11_cakesBy 32 = .ok (.aload_n 0, 1) := by decide +kernel
theorem dX11_cakesBy_33 : decode cX11_cakesBy 33 = .ok (.getfield 44, 3) := by decide +kernel
theorem dX11_cakesBy_36 : decode cX11_cakesBy 36 = .ok (.iload_n 1, 1) := by decide +kernel
theorem dX11_cakesBy_37 : decode cX11_cakesBy 37 = .ok (.aaload, 1) := by decide +kernel
theorem dX11_cakesBy_38 : decode cX11_cakesBy 38 = .ok (.astore 5, 2) := by decide +kernel
theorem dX11_cakesBy_40 : decode cX11_cakesBy 40 = .ok (.aload 5, 2) := by decide +kernel
theorem dX11_cakesBy_42 : decode cX11_cakesBy 42 = .ok (.getfield 266, 3) := by decide +kernel
theorem dX11_cakesBy_45 : decode cX11_cakesBy 45 = .ok (.iconst (-1), 1) := by decide +kernel
theorem dX11_cakesBy_46 : decode cX11_cakesBy 46 = .ok (.if_icmp .ne 6, 3) := by decide +kernel
theorem dX11_cakesBy_49 : decode cX11_cakesBy 49 = .ok (.bipush (-11), 2) := by decide +kernel
theorem dX11_cakesBy_51 : decode cX11_cakesBy 51 = .ok (.ireturn, 1) := by decide +kernel
theorem dX11_cakesBy_52 : decode cX11_cakesBy 52 = .ok (.aload 5, 2) := by decide +kernel
theorem dX11_cakesBy_54 : decode cX11_cakesBy 54 = .ok (.getfield 266, 3) := by decide +kernel
theorem dX11_cakesBy_57 : decode cX11_cakesBy 57 = .ok (.iload_n 2, 1) := by decide +kernel
theorem dX11_cakesBy_58 : decode cX11_cakesBy 58 = .ok (.if_icmp .eq 6, 3) := by decide +kernel
theorem dX11_cakesBy_61 : decode cX11_cakesBy 61 = .ok (.bipush (-13), 2) := by decide +kernel
theorem dX11_cakesBy_63 : decode cX11_cakesBy 63 = .ok (.ireturn, 1) := by decide +kernel
theorem dX11_cakesBy_64 : decode cX11_cakesBy 64 = .ok (.iconst 0, 1) := by decide +kernel
theorem dX11_cakesBy_65 : decode cX11_cakesBy 65 = .ok (.istore 6, 2) := by decide +kernel
theorem dX11_cakesBy_67 : decode cX11_cakesBy 67 = .ok (.iconst 0, 1) := by decide +kernel
theorem dX11_cakesBy_68 : decode cX11_cakesBy 68 = .ok (.istore 7, 2) := by decide +kernel
theorem dX11_cakesBy_70 : decode cX11_cakesBy 70 = .ok (.iload 7, 2) := by decide +kernel
theorem dX11_cakesBy_72 : decode cX11_cakesBy 72 = .ok (.iload 4, 2) := by decide +kernel
theorem dX11_cakesBy_74 : decode cX11_cakesBy 74 = .ok (.if_icmp .ge 82, 3) := by decide +kernel
theorem dX11_cakesBy_77 : decode cX11_cakesBy 77 = .ok (.iload_n 3, 1) := by decide +kernel
theorem dX11_cakesBy_78 : decode cX11_cakesBy 78 = .ok (.ifCond .lt 19, 3) := by decide +kernel
theorem dX11_cakesBy_81 : decode cX11_cakesBy 81 = .ok (.iload_n 3, 1) := by decide +kernel
theorem dX11_cakesBy_82 : decode cX11_cakesBy 82 = .ok (.aload 5, 2) := by decide +kernel
theorem dX11_cakesBy_84 : decode cX11_cakesBy 84 = .ok (.getfield 269, 3) := by decide +kernel
theorem dX11_cakesBy_87 : decode cX11_cakesBy 87 = .ok (.iconst 3, 1) := by decide +kernel
theorem dX11_cakesBy_88 : decode cX11_cakesBy 88 = .ok (.iload 7, 2) := by decide +kernel
theorem dX11_cakesBy_90 : decode cX11_cakesBy 90 = .ok (.iconst 1, 1) := by decide +kernel
theorem dX11_cakesBy_91 : decode cX11_cakesBy 91 = .ok (.iadd, 1) := by decide +kernel
theorem dX11_cakesBy_92 : decode cX11_cakesBy 92 = .ok (.imul, 1) := by decide +kernel
theorem dX11_cakesBy_93 : decode cX11_cakesBy 93 = .ok (.isub, 1) := by decide +kernel
theorem dX11_cakesBy_94 : decode cX11_cakesBy 94 = .ok (.if_icmp .le 6, 3) := by decide +kernel
theorem dX11_cakesBy_97 : decode cX11_cakesBy 97 = .ok (.bipush (-12), 2) := by decide +kernel
theorem dX11_cakesBy_99 : decode cX11_cakesBy 99 = .ok (.ireturn, 1) := by decide +kernel
theorem dX11_cakesBy_100 : decode cX11_cakesBy 100 = .ok (.iload_n 3, 1) := by decide +kernel
theorem dX11_cakesBy_101 : decode cX11_cakesBy 101 = .ok (.iconst 3, 1) := by decide +kernel
theorem dX11_cakesBy_102 : decode cX11_cakesBy 102 = .ok (.iload 7, 2) := by decide +kernel
theorem dX11_cakesBy_104 : decode cX11_cakesBy 104 = .ok (.imul, 1) := by decide +kernel
theorem dX11_cakesBy_105 : decode cX11_cakesBy 105 = .ok (.iadd, 1) := by decide +kernel
theorem dX11_cakesBy_106 : decode cX11_cakesBy 106 = .ok (.istore 8, 2) := by decide +kernel
theorem dX11_cakesBy_108 : decode cX11_cakesBy 108 = .ok (.iload 6, 2) := by decide +kernel
theorem dX11_cakesBy_110 : decode cX11_cakesBy 110 = .ok (.aload_n 0, 1) := by decide +kernel
theorem dX11_cakesBy_111 : decode cX11_cakesBy 111 = .ok (.aload 5, 2) := by decide +kernel
theorem dX11_cakesBy_113 : decode cX11_cakesBy 113 = .ok (.iload 8, 2) := by decide +kernel
theorem dX11_cakesBy_115 : decode cX11_cakesBy 115 = .ok (.invokevirtual 279, 3) := by decide +kernel
theorem dX11_cakesBy_118 : decode cX11_cakesBy 118 = .ok (.aload 5, 2) := by decide +kernel
theorem dX11_cakesBy_120 : decode cX11_cakesBy 120 = .ok (.iload 8, 2) := by decide +kernel
theorem dX11_cakesBy_122 : decode cX11_cakesBy 122 = .ok (.iconst 1, 1) := by decide +kernel
theorem dX11_cakesBy_123 : decode cX11_cakesBy 123 = .ok (.iadd, 1) := by decide +kernel
theorem dX11_cakesBy_124 : decode cX11_cakesBy 124 = .ok (.invokevirtual 279, 3) := by decide +kernel
theorem dX11_cakesBy_127 : decode cX11_cakesBy 127 = .ok (.aload 5, 2) := by decide +kernel
theorem dX11_cakesBy_129 : decode cX11_cakesBy 129 = .ok (.iload 8, 2) := by decide +kernel
theorem dX11_cakesBy_131 : decode cX11_cakesBy 131 = .ok (.iconst 2, 1) := by decide +kernel
theorem dX11_cakesBy_132 : decode cX11_cakesBy 132 = .ok (.iadd, 1) := by decide +kernel
theorem dX11_cakesBy_133 : decode cX11_cakesBy 133 = .ok (.invokevirtual 279, 3) := by decide +kernel
theorem dX11_cakesBy_136 : decode cX11_cakesBy 136 = .ok (.invokevirtual 282, 3) := by decide +kernel
theorem dX11_cakesBy_139 : decode cX11_cakesBy 139 = .ok (.ifCond .lt 7, 3) := by decide +kernel
theorem dX11_cakesBy_142 : decode cX11_cakesBy 142 = .ok (.iconst 1, 1) := by decide +kernel
theorem dX11_cakesBy_143 : decode cX11_cakesBy 143 = .ok (.goto 4, 3) := by decide +kernel
theorem dX11_cakesBy_146 : decode cX11_cakesBy 146 = .ok (.iconst 0, 1) := by decide +kernel
theorem dX11_cakesBy_147 : decode cX11_cakesBy 147 = .ok (.iadd, 1) := by decide +kernel
theorem dX11_cakesBy_148 : decode cX11_cakesBy 148 = .ok (.istore 6, 2) := by decide +kernel
theorem dX11_cakesBy_150 : decode cX11_cakesBy 150 = .ok (.iinc 7 1, 3) := by decide +kernel
theorem dX11_cakesBy_153 : decode cX11_cakesBy 153 = .ok (.goto (-83), 3) := by decide +kernel
theorem dX11_cakesBy_156 : decode cX11_cakesBy 156 = .ok (.iload 6, 2) := by decide +kernel
theorem dX11_cakesBy_158 : decode cX11_cakesBy 158 = .ok (.ireturn, 1) := by decide +kernel
theorem dX11_taken_0 : decode cX11_taken 0 = .ok (.iload_n 2, 1) := by decide +kernel
theorem dX11_taken_1 : decode cX11_taken 1 = .ok (.iconst 0, 1) := by decide +kernel
theorem dX11_taken_2 : decode cX11_taken 2 = .ok (.bipush 6, 2) := by decide +kernel
theorem dX11_taken_4 : decode cX11_taken 4 = .ok (.invokestatic 101, 3) := by decide +kernel
theorem dX11_taken_7 : decode cX11_taken 7 = .ok (.ifCond .ne 6, 3) := by decide +kernel
theorem dX11_taken_10 : decode cX11_taken 10 = .ok (.bipush (-2), 2) := by decide +kernel
theorem dX11_taken_12 : decode cX11_taken 12 = .ok (.ireturn, 1) := by decide +kernel
theorem dX11_taken_13 : decode cX11_taken 13 = .ok (.iload_n 1, 1) := by decide +kernel
theorem dX11_taken_14 : decode cX11_taken 14 = .ok (.iconst 0, 1) := by decide +kernel
theorem dX11_taken_15 : decode cX11_taken 15 = .ok (.bipush 31, 2) := by decide +kernel
theorem dX11_taken_17 : decode cX11_taken 17 = .ok (.invokestatic 101, 3) := by decide +kernel
theorem dX11_taken_20 : decode cX11_taken 20 = .ok (.ifCond .ne 6, 3) := by decide +kernel
theorem dX11_taken_23 : decode cX11_taken 23 = .ok (.bipush (-12), 2) := by decide +kernel
theorem dX11_taken_25 : decode cX11_taken 25 = .ok (.ireturn, 1) := by decide +kernel
theorem dX11_taken_26 : decode cX11_taken 26 = .ok (.iload_n 1, 1) := by decide +kernel
theorem dX11_taken_27 : decode cX11_taken 27 = .ok (.bipush 16, 2) := by decide +kernel
theorem dX11_taken_29 : decode cX11_taken 29 = .ok (.if_icmp .lt 27, 3) := by decide +kernel
theorem dX11_taken_32 : decode cX11_taken 32 = .ok (.iload_n 2, 1) := by decide +kernel
theorem dX11_taken_33 : decode cX11_taken 33 = .ok (.bipush 6, 2) := by decide +kernel
theorem dX11_taken_35 : decode cX11_taken 35 = .ok (.if_icmp .ne 18, 3) := by decide +kernel
theorem dX11_taken_38 : decode cX11_taken 38 = .ok (.aload_n 0, 1) := by decide +kernel
theorem dX11_taken_39 : decode cX11_taken 39 = .ok (.getfield 10, 3) := by decide +kernel
theorem dX11_taken_42 : decode cX11_taken 42 = .ok (.getfield 105, 3) := by decide +kernel
theorem dX11_taken_45 : decode cX11_taken 45 = .ok (.iload_n 1, 1) := by decide +kernel
theorem dX11_taken_46 : decode cX11_taken 46 = .ok (.bipush 16, 2) := by decide +kernel
theorem dX11_taken_48 : decode cX11_taken 48 = .ok (.isub, 1) := by decide +kernel
theorem dX11_taken_49 : decode cX11_taken 49 = .ok (.iaload, 1) := by decide +kernel
theorem dX11_taken_50 : decode cX11_taken 50 = .ok (.goto 5, 3) := by decide +kernel
theorem dX11_taken_53 : decode cX11_taken 53 = .ok (.bipush (-13), 2) := by decide +kernel
theorem dX11_taken_55 : decode cX11_taken 55 = .ok (.ireturn, 1) := by decide +kernel
theorem dX11_taken_56 : decode cX11_taken 56 = .ok (.aload_n 0, 1) := by decide +kernel
theorem dX11_taken_57 : decode cX11_taken 57 = .ok (.getfield 10, 3) := by decide +kernel
theorem dX11_taken_60 : decode cX11_taken 60 = .ok (.iload_n 1, 1) := by decide +kernel
theorem dX11_taken_61 : decode cX11_taken 61 = .ok (.invokevirtual 140, 3) := by decide +kernel
theorem dX11_taken_64 : decode cX11_taken 64 = .ok (.istore_n 3, 1) := by decide +kernel
theorem dX11_taken_65 : decode cX11_taken 65 = .ok (.iload_n 3, 1) := by decide +kernel
theorem dX11_taken_66 : decode cX11_taken 66 = .ok (.iconst (-1), 1) := by decide +kernel
theorem dX11_taken_67 : decode cX11_taken 67 = .ok (.if_icmp .ne 6, 3) := by decide +kernel
theorem dX11_taken_70 : decode cX11_taken 70 = .ok (.bipush (-11), 2) := by decide +kernel
theorem dX11_taken_72 : decode cX11_taken 72 = .ok (.ireturn, 1) := by decide +kernel
theorem dX11_taken_73 : decode cX11_taken 73 = .ok (.aload_n 0, 1) := by decide +kernel
theorem dX11_taken_74 : decode cX11_taken 74 = .ok (.getfield 25, 3) := by decide +kernel
theorem dX11_taken_77 : decode cX11_taken 77 = .ok (.aload_n 0, 1) := by decide +kernel
theorem dX11_taken_78 : decode cX11_taken 78 = .ok (.getfield 10, 3) := by decide +kernel
theorem dX11_taken_81 : decode cX11_taken 81 = .ok (.getfield 143, 3) := by decide +kernel
theorem dX11_taken_84 : decode cX11_taken 84 = .ok (.iload_n 3, 1) := by decide +kernel
theorem dX11_taken_85 : decode cX11_taken 85 = .ok (.iaload, 1) := by decide +kernel
theorem dX11_taken_86 : decode cX11_taken 86 = .ok (.invokevirtual 155, 3) := by decide +kernel
theorem dX11_taken_89 : decode cX11_taken 89 = .ok (.iload_n 2, 1) := by decide +kernel
theorem dX11_taken_90 : decode cX11_taken 90 = .ok (.invokestatic 286, 3) := by decide +kernel
theorem dX11_taken_93 : decode cX11_taken 93 = .ok (.ifCond .eq 7, 3) := by decide +kernel
theorem dX11_taken_96 : decode cX11_taken 96 = .ok (.iload_n 3, 1) := by decide +kernel
theorem dX11_taken_97 : decode cX11_taken 97 = .ok (.goto 5, 3) := by decide +kernel
theorem dX11_taken_100 : decode cX11_taken 100 = .ok (.bipush (-13), 2) := by decide +kernel
theorem dX11_taken_102 : decode cX11_taken 102 = .ok (.ireturn, 1) := by decide +kernel
theorem dX11_within_0 : decode cX11_within 0 = .ok (.iload_n 0, 1) := by decide +kernel
theorem dX11_within_1 : decode cX11_within 1 = .ok (.iload_n 1, 1) := by decide +kernel
theorem dX11_within_2 : decode cX11_within 2 = .ok (.if_icmp .lt 12, 3) := by decide +kernel
theorem dX11_within_5 : decode cX11_within 5 = .ok (.iload_n 0, 1) := by decide +kernel
theorem dX11_within_6 : decode cX11_within 6 = .ok (.iload_n 2, 1) := by decide +kernel
theorem dX11_within_7 : decode cX11_within 7 = .ok (.if_icmp .gt 7, 3) := by decide +kernel
theorem dX11_within_10 : decode cX11_within 10 = .ok (.iconst 1, 1) := by decide +kernel
theorem dX11_within_11 : decode cX11_within 11 = .ok (.goto 4, 3) := by decide +kernel
theorem dX11_within_14 : decode cX11_within 14 = .ok (.iconst 0, 1) := by decide +kernel
theorem dX11_within_15 : decode cX11_within 15 = .ok (.ireturn, 1) := by decide +kernel
theorem dX11_isByte_0 : decode cX11_isByte 0 = .ok (.iload_n 0, 1) := by decide +kernel
theorem dX11_isByte_1 : decode cX11_isByte 1 = .ok (.iconst 0, 1) := by decide +kernel
theorem dX11_isByte_2 : decode cX11_isByte 2 = .ok (.sipush 255, 3) := by decide +kernel
theorem dX11_isByte_5 : decode cX11_isByte 5 = .ok (.invokestatic 101, 3) := by decide +kernel
theorem dX11_isByte_8 : decode cX11_isByte 8 = .ok (.ireturn, 1) := by decide +kernel
theorem dX11_isCake_0 : decode cX11_isCake 0 = .ok (.iload_n 1, 1) := by decide +kernel
theorem dX11_isCake_1 : decode cX11_isCake 1 = .ok (.iconst 0, 1) := by decide +kernel
theorem dX11_isCake_2 : decode cX11_isCake 2 = .ok (.aload_n 0, 1) := by decide +kernel
theorem dX11_isCake_3 : decode cX11_isCake 3 = .ok (.getfield 10, 3) := by decide +kernel
theorem dX11_isCake_6 : decode cX11_isCake 6 = .ok (.getfield 68, 3) := by decide +kernel
theorem dX11_isCake_9 : decode cX11_isCake 9 = .ok (.iconst 1, 1) := by decide +kernel
theorem dX11_isCake_10 : decode cX11_isCake 10 = .ok (.isub, 1) := by decide +kernel
theorem dX11_isCake_11 : decode cX11_isCake 11 = .ok (.invokestatic 101, 3) := by decide +kernel
theorem dX11_isCake_14 : decode cX11_isCake 14 = .ok (.ireturn, 1) := by decide +kernel
theorem dX11_isOf_0 : decode cX11_isOf 0 = .ok (.iload_n 1, 1) := by decide +kernel
theorem dX11_isOf_1 : decode cX11_isOf 1 = .ok (.tableswitch 74 0 5 #[39, 49, 54, 59, 64, 69], 39) := by decide +kernel
theorem dX11_isOf_40 : decode cX11_isOf 40 = .ok (.aload_n 0, 1) := by decide +kernel
theorem dX11_isOf_41 : decode cX11_isOf 41 = .ok (.ifnull 7, 3) := by decide +kernel
theorem dX11_isOf_44 : decode cX11_isOf 44 = .ok (.iconst 1, 1) := by decide +kernel
theorem dX11_isOf_45 : decode cX11_isOf 45 = .ok (.goto 4, 3) := by decide +kernel
theorem dX11_isOf_48 : decode cX11_isOf 48 = .ok (.iconst 0, 1) := by decide +kernel
theorem dX11_isOf_49 : decode cX11_isOf 49 = .ok (.ireturn, 1) := by decide +kernel
theorem dX11_isOf_50 : decode cX11_isOf 50 = .ok (.aload_n 0, 1) := by decide +kernel
theorem dX11_isOf_51 : decode cX11_isOf 51 = .ok (.instanceof 290, 3) := by decide +kernel
theorem dX11_isOf_54 : decode cX11_isOf 54 = .ok (.ireturn, 1) := by decide +kernel
theorem dX11_isOf_55 : decode cX11_isOf 55 = .ok (.aload_n 0, 1) := by decide +kernel
theorem dX11_isOf_56 : decode cX11_isOf 56 = .ok (.instanceof 292, 3) := by decide +kernel
theorem dX11_isOf_59 : decode cX11_isOf 59 = .ok (.ireturn, 1) := by decide +kernel
theorem dX11_isOf_60 : decode cX11_isOf 60 = .ok (.aload_n 0, 1) := by decide +kernel
theorem dX11_isOf_61 : decode cX11_isOf 61 = .ok (.instanceof 294, 3) := by decide +kernel
theorem dX11_isOf_64 : decode cX11_isOf 64 = .ok (.ireturn, 1) := by decide +kernel
theorem dX11_isOf_65 : decode cX11_isOf 65 = .ok (.aload_n 0, 1) := by decide +kernel
theorem dX11_isOf_66 : decode cX11_isOf 66 = .ok (.instanceof 296, 3) := by decide +kernel
theorem dX11_isOf_69 : decode cX11_isOf 69 = .ok (.ireturn, 1) := by decide +kernel
theorem dX11_isOf_70 : decode cX11_isOf 70 = .ok (.aload_n 0, 1) := by decide +kernel
theorem dX11_isOf_71 : decode cX11_isOf 71 = .ok (.instanceof 298, 3) := by decide +kernel
theorem dX11_isOf_74 : decode cX11_isOf 74 = .ok (.ireturn, 1) := by decide +kernel
theorem dX11_isOf_75 : decode cX11_isOf 75 = .ok (.iconst 0, 1) := by decide +kernel
theorem dX11_isOf_76 : decode cX11_isOf 76 = .ok (.ireturn, 1) := by decide +kernel
theorem dX11_spotUnder_0 : decode cX11_spotUnder 0 = .ok (.iload_n 0, 1) := by decide +kernel
theorem dX11_spotUnder_1 : decode cX11_spotUnder 1 = .ok (.iconst 3, 1) := by decide +kernel
theorem dX11_spotUnder_2 : decode cX11_spotUnder 2 = .ok (.iand, 1) := by decide +kernel
theorem dX11_spotUnder_3 : decode cX11_spotUnder 3 = .ok (.istore_n 2, 1) := by decide +kernel
theorem dX11_spotUnder_4 : decode cX11_spotUnder 4 = .ok (.iload_n 0, 1) := by decide +kernel
theorem dX11_spotUnder_5 : decode cX11_spotUnder 5 = .ok (.iconst 2, 1) := by decide +kernel
theorem dX11_spotUnder_6 : decode cX11_spotUnder 6 = .ok (.ishr, 1) := by decide +kernel
theorem dX11_spotUnder_7 : decode cX11_spotUnder 7 = .ok (.iconst 3, 1) := by decide +kernel
theorem dX11_spotUnder_8 : decode cX11_spotUnder 8 = .ok (.iand, 1) := by decide +kernel
theorem dX11_spotUnder_9 : decode cX11_spotUnder 9 = .ok (.istore_n 3, 1) := by decide +kernel
theorem dX11_spotUnder_10 : decode cX11_spotUnder 10 = .ok (.iconst 0, 1) := by decide +kernel
theorem dX11_spotUnder_11 : decode cX11_spotUnder 11 = .ok (.istore 4, 2) := by decide +kernel
theorem dX11_spotUnder_13 : decode cX11_spotUnder 13 = .ok (.iload 4, 2) := by decide +kernel
theorem dX11_spotUnder_15 : decode cX11_spotUnder 15 = .ok (.iload_n 1, 1) := by decide +kernel
theorem dX11_spotUnder_16 : decode cX11_spotUnder 16 = .ok (.if_icmp .ge 19, 3) := by decide +kernel
theorem dX11_spotUnder_19 : decode cX11_spotUnder 19 = .ok (.iload_n 2, 1) := by decide +kernel
theorem dX11_spotUnder_20 : decode cX11_spotUnder 20 = .ok (.istore 5, 2) := by decide +kernel
theorem dX11_spotUnder_22 : decode cX11_spotUnder 22 = .ok (.iconst 3, 1) := by decide +kernel
theorem dX11_spotUnder_23 : decode cX11_spotUnder 23 = .ok (.iload_n 3, 1) := by decide +kernel
theorem dX11_spotUnder_24 : decode cX11_spotUnder 24 = .ok (.isub, 1) := by decide +kernel
theorem dX11_spotUnder_25 : decode cX11_spotUnder 25 = .ok (.istore_n 2, 1) := by decide +kernel
theorem dX11_spotUnder_26 : decode cX11_spotUnder 26 = .ok (.iload 5, 2) := by decide +kernel
theorem dX11_spotUnder_28 : decode cX11_spotUnder 28 = .ok (.istore_n 3, 1) := by decide +kernel
theorem dX11_spotUnder_29 : decode cX11_spotUnder 29 = .ok (.iinc 4 1, 3) := by decide +kernel
theorem dX11_spotUnder_32 : decode cX11_spotUnder 32 = .ok (.goto (-19), 3) := by decide +kernel
theorem dX11_spotUnder_35 : decode cX11_spotUnder 35 = .ok (.iconst 4, 1) := by decide +kernel
theorem dX11_spotUnder_36 : decode cX11_spotUnder 36 = .ok (.iload_n 3, 1) := by decide +kernel
theorem dX11_spotUnder_37 : decode cX11_spotUnder 37 = .ok (.iconst 3, 1) := by decide +kernel
theorem dX11_spotUnder_38 : decode cX11_spotUnder 38 = .ok (.iand, 1) := by decide +kernel
theorem dX11_spotUnder_39 : decode cX11_spotUnder 39 = .ok (.imul, 1) := by decide +kernel
theorem dX11_spotUnder_40 : decode cX11_spotUnder 40 = .ok (.iload_n 2, 1) := by decide +kernel
theorem dX11_spotUnder_41 : decode cX11_spotUnder 41 = .ok (.iconst 3, 1) := by decide +kernel
theorem dX11_spotUnder_42 : decode cX11_spotUnder 42 = .ok (.iand, 1) := by decide +kernel
theorem dX11_spotUnder_43 : decode cX11_spotUnder 43 = .ok (.iadd, 1) := by decide +kernel
theorem dX11_spotUnder_44 : decode cX11_spotUnder 44 = .ok (.ireturn, 1) := by decide +kernel
theorem dX11_commonDivisor_0 : decode cX11_commonDivisor 0 = .ok (.iload_n 0, 1) := by decide +kernel
theorem dX11_commonDivisor_1 : decode cX11_commonDivisor 1 = .ok (.istore_n 2, 1) := by decide +kernel
theorem dX11_commonDivisor_2 : decode cX11_commonDivisor 2 = .ok (.iload_n 1, 1) := by decide +kernel
theorem dX11_commonDivisor_3 : decode cX11_commonDivisor 3 = .ok (.istore_n 3, 1) := by decide +kernel
theorem dX11_commonDivisor_4 : decode cX11_commonDivisor 4 = .ok (.iconst 0, 1) := by decide +kernel
theorem dX11_commonDivisor_5 : decode cX11_commonDivisor 5 = .ok (.istore 4, 2) := by decide +kernel
theorem dX11_commonDivisor_7 : decode cX11_commonDivisor 7 = .ok (.iload 4, 2) := by decide +kernel
theorem dX11_commonDivisor_9 : decode cX11_commonDivisor 9 = .ok (.bipush 100, 2) := by decide +kernel
theorem dX11_commonDivisor_11 : decode cX11_commonDivisor 11 = .ok (.if_icmp .ge 23, 3) := by decide +kernel
theorem dX11_commonDivisor_14 : decode cX11_commonDivisor 14 = .ok (.iload_n 3, 1) := by decide +kernel
theorem dX11_commonDivisor_15 : decode cX11_commonDivisor 15 = .ok (.ifCond .eq 19, 3) := by decide +kernel
theorem dX11_commonDivisor_18 : decode cX11_commonDivisor 18 = .ok (.iload_n 2, 1) := by decide +kernel
theorem dX11_commonDivisor_19 : decode cX11_commonDivisor 19 = .ok (.iload_n 3, 1) := by decide +kernel
theorem dX11_commonDivisor_20 : decode cX11_commonDivisor 20 = .ok (.irem, 1) := by decide +kernel
theorem dX11_commonDivisor_21 : decode cX11_commonDivisor 21 = .ok (.istore 5, 2) := by decide +kernel
theorem dX11_commonDivisor_23 : decode cX11_commonDivisor 23 = .ok (.iload_n 3, 1) := by decide +kernel
theorem dX11_commonDivisor_24 : decode cX11_commonDivisor 24 = .ok (.istore_n 2, 1) := by decide +kernel
theorem dX11_commonDivisor_25 : decode cX11_commonDivisor 25 = .ok (.iload 5, 2) := by decide +kernel
theorem dX11_commonDivisor_27 : decode cX11_commonDivisor 27 = .ok (.istore_n 3, 1) := by decide +kernel
theorem dX11_commonDivisor_28 : decode cX11_commonDivisor 28 = .ok (.iinc 4 1, 3) := by decide +kernel
theorem dX11_commonDivisor_31 : decode cX11_commonDivisor 31 = .ok (.goto (-24), 3) := by decide +kernel
theorem dX11_commonDivisor_34 : decode cX11_commonDivisor 34 = .ok (.iload_n 2, 1) := by decide +kernel
theorem dX11_commonDivisor_35 : decode cX11_commonDivisor 35 = .ok (.ireturn, 1) := by decide +kernel
theorem dX11_imagine_0 : decode cX11_imagine 0 = .ok (.aload_n 0, 1) := by decide +kernel
theorem dX11_imagine_1 : decode cX11_imagine 1 = .ok (.getfield 16, 3) := by decide +kernel
theorem dX11_imagine_4 : decode cX11_imagine 4 = .ok (.aload_n 0, 1) := by decide +kernel
theorem dX11_imagine_5 : decode cX11_imagine 5 = .ok (.getfield 10, 3) := by decide +kernel
theorem dX11_imagine_8 : decode cX11_imagine 8 = .ok (.invokevirtual 260, 3) := by decide +kernel
theorem dX11_imagine_11 : decode cX11_imagine 11 = .ok (.return_, 1) := by decide +kernel
theorem dX11_imagineDrawn_0 : decode cX11_imagineDrawn 0 = .ok (.aload_n 0, 1) := by decide +kernel
theorem dX11_imagineDrawn_1 : decode cX11_imagineDrawn 1 = .ok (.invokevirtual 202, 3) := by decide +kernel
theorem dX11_imagineDrawn_4 : decode cX11_imagineDrawn 4 = .ok (.iload_n 1, 1) := by decide +kernel
theorem dX11_imagineDrawn_5 : decode cX11_imagineDrawn 5 = .ok (.i2l, 1) := by decide +kernel
theorem dX11_imagineDrawn_6 : decode cX11_imagineDrawn 6 = .ok (.lconst 1, 1) := by decide +kernel
theorem dX11_imagineDrawn_7 : decode cX11_imagineDrawn 7 = .ok (.ladd, 1) := by decide +kernel
theorem dX11_imagineDrawn_8 : decode cX11_imagineDrawn 8 = .ok (.lstore_n 2, 1) := by decide +kernel
theorem dX11_imagineDrawn_9 : decode cX11_imagineDrawn 9 = .ok (.iconst 0, 1) := by decide +kernel
theorem dX11_imagineDrawn_10 : decode cX11_imagineDrawn 10 = .ok (.istore 4, 2) := by decide +kernel
theorem dX11_imagineDrawn_12 : decode cX11_imagineDrawn 12 = .ok (.iload 4, 2) := by decide +kernel
theorem dX11_imagineDrawn_14 : decode cX11_imagineDrawn 14 = .ok (.bipush 16, 2) := by decide +kernel
theorem dX11_imagineDrawn_16 : decode cX11_imagineDrawn 16 = .ok (.if_icmp .ge 35, 3) := by decide +kernel
theorem dX11_imagineDrawn_19 : decode cX11_imagineDrawn 19 = .ok (.lload_n 2, 1) := by decide +kernel
theorem dX11_imagineDrawn_20 : decode cX11_imagineDrawn 20 = .ok (.ldc2_w 300, 3) := by decide +kernel
theorem dX11_imagineDrawn_23 : decode cX11_imagineDrawn 23 = .ok (.lmul, 1) := by decide +kernel
theorem dX11_imagineDrawn_24 : decode cX11_imagineDrawn 24 = .ok (.ldc2_w 302, 3) := by decide +kernel
theorem dX11_imagineDrawn_27 : decode cX11_imagineDrawn 27 = .ok (.lrem, 1) := by decide +kernel
theorem dX11_imagineDrawn_28 : decode cX11_imagineDrawn 28 = .ok (.lstore_n 2, 1) := by decide +kernel
theorem dX11_imagineDrawn_29 : decode cX11_imagineDrawn 29 = .ok (.aload_n 0, 1) := by decide +kernel
theorem dX11_imagineDrawn_30 : decode cX11_imagineDrawn 30 = .ok (.getfield 16, 3) := by decide +kernel
theorem dX11_imagineDrawn_33 : decode cX11_imagineDrawn 33 = .ok (.getfield 105, 3) := by decide +kernel
theorem dX11_imagineDrawn_36 : decode cX11_imagineDrawn 36 = .ok (.iload 4, 2) := by decide +kernel
theorem dX11_imagineDrawn_38 : decode cX11_imagineDrawn 38 = .ok (.lload_n 2, 1) := by decide +kernel
theorem dX11_imagineDrawn_39 : decode cX11_imagineDrawn 39 = .ok (.ldc2_w 304, 3) := by decide +kernel
theorem dX11_imagineDrawn_42 : decode cX11_imagineDrawn 42 = .ok (.lrem, 1) := by decide +kernel
theorem dX11_imagineDrawn_43 : decode cX11_imagineDrawn 43 = .ok (.l2i, 1) := by decide +kernel
theorem dX11_imagineDrawn_44 : decode cX11_imagineDrawn 44 = .ok (.iastore, 1) := by decide +kernel
theorem dX11_imagineDrawn_45 : decode cX11_imagineDrawn 45 = .ok (.iinc 4 1, 3) := by decide +kernel
theorem dX11_imagineDrawn_48 : decode cX11_imagineDrawn 48 = .ok (.goto (-36), 3) := by decide +kernel
theorem dX11_imagineDrawn_51 : decode cX11_imagineDrawn 51 = .ok (.return_, 1) := by decide +kernel
theorem dX11_startBaking_0 : decode cX11_startBaking 0 = .ok (.aload_n 1, 1) := by decide +kernel
theorem dX11_startBaking_1 : decode cX11_startBaking 1 = .ok (.getfield 84, 3) := by decide +kernel
theorem dX11_startBaking_4 : decode cX11_startBaking 4 = .ok (.iconst 0, 1) := by decide +kernel
theorem dX11_startBaking_5 : decode cX11_startBaking 5 = .ok (.iconst 5, 1) := by decide +kernel
theorem dX11_startBaking_6 : decode cX11_startBaking 6 = .ok (.invokestatic 101, 3) := by decide +kernel
theorem dX11_startBaking_9 : decode cX11_startBaking 9 = .ok (.ifCond .eq 15, 3) := by decide +kernel
theorem dX11_startBaking_12 : decode cX11_startBaking 12 = .ok (.aload_n 0, 1) := by decide +kernel
theorem dX11_startBaking_13 : decode cX11_startBaking 13 = .ok (.getfield 38, 3) := by decide +kernel
theorem dX11_startBaking_16 : decode cX11_startBaking 16 = .ok (.aload_n 1, 1) := by decide +kernel
theorem dX11_startBaking_17 : decode cX11_startBaking 17 = .ok (.getfield 84, 3) := by decide +kernel
theorem dX11_startBaking_20 : decode cX11_startBaking 20 = .ok (.aaload, 1) := by decide +kernel
theorem dX11_startBaking_21 : decode cX11_startBaking 21 = .ok (.goto 4, 3) := by decide +kernel
theorem dX11_startBaking_24 : decode cX11_startBaking 24 = .ok (.aconst_null, 1) := by decide +kernel
theorem dX11_startBaking_25 : decode cX11_startBaking 25 = .ok (.astore_n 2, 1) := by decide +kernel
theorem dX11_startBaking_26 : decode cX11_startBaking 26 = .ok (.aload_n 0, 1) := by decide +kernel
theorem dX11_startBaking_27 : decode cX11_startBaking 27 = .ok (.getfield 25, 3) := by decide +kernel
theorem dX11_startBaking_30 : decode cX11_startBaking 30 = .ok (.aload_n 1, 1) := by decide +kernel
theorem dX11_startBaking_31 : decode cX11_startBaking 31 = .ok (.aload_n 2, 1) := by decide +kernel
theorem dX11_startBaking_32 : decode cX11_startBaking 32 = .ok (.invokevirtual 306, 3) := by decide +kernel
theorem dX11_startBaking_35 : decode cX11_startBaking 35 = .ok (.return_, 1) := by decide +kernel
theorem dX11_bake_0 : decode cX11_bake 0 = .ok (.aload_n 0, 1) := by decide +kernel
theorem dX11_bake_1 : decode cX11_bake 1 = .ok (.aload_n 1, 1) := by decide +kernel
theorem dX11_bake_2 : decode cX11_bake 2 = .ok (.invokevirtual 129, 3) := by decide +kernel
theorem dX11_bake_5 : decode cX11_bake 5 = .ok (.iconst 0, 1) := by decide +kernel
theorem dX11_bake_6 : decode cX11_bake 6 = .ok (.istore_n 3, 1) := by decide +kernel
theorem dX11_bake_7 : decode cX11_bake 7 = .ok (.iload_n 3, 1) := by decide +kernel
theorem dX11_bake_8 : decode cX11_bake 8 = .ok (.iload_n 2, 1) := by decide +kernel
theorem dX11_bake_9 : decode cX11_bake 9 = .ok (.if_icmp .ge 16, 3) := by decide +kernel
theorem dX11_bake_12 : decode cX11_bake 12 = .ok (.aload_n 0, 1) := by decide +kernel
theorem dX11_bake_13 : decode cX11_bake 13 = .ok (.getfield 25, 3) := by decide +kernel
theorem dX11_bake_16 : decode cX11_bake 16 = .ok (.invokevirtual 221, 3) := by decide +kernel
theorem dX11_bake_19 : decode cX11_bake 19 = .ok (.iinc 3 1, 3) := by decide +kernel
theorem dX11_bake_22 : decode cX11_bake 22 = .ok (.goto (-15), 3) := by decide +kernel
theorem dX11_bake_25 : decode cX11_bake 25 = .ok (.return_, 1) := by decide +kernel
theorem dX11_badnessOf_0 : decode cX11_badnessOf 0 = .ok (.aload_n 0, 1) := by decide +kernel
theorem dX11_badnessOf_1 : decode cX11_badnessOf 1 = .ok (.aload_n 1, 1) := by decide +kernel
theorem dX11_badnessOf_2 : decode cX11_badnessOf 2 = .ok (.aload_n 1, 1) := by decide +kernel
theorem dX11_badnessOf_3 : decode cX11_badnessOf 3 = .ok (.getfield 72, 3) := by decide +kernel
theorem dX11_badnessOf_6 : decode cX11_badnessOf 6 = .ok (.invokevirtual 174, 3) := by decide +kernel
theorem dX11_badnessOf_9 : decode cX11_badnessOf 9 = .ok (.aload_n 0, 1) := by decide +kernel
theorem dX11_badnessOf_10 : decode cX11_badnessOf 10 = .ok (.getfield 25, 3) := by decide +kernel
theorem dX11_badnessOf_13 : decode cX11_badnessOf 13 = .ok (.invokevirtual 181, 3) := by decide +kernel
theorem dX11_badnessOf_16 : decode cX11_badnessOf 16 = .ok (.ireturn, 1) := by decide +kernel
theorem dX11_apartOf_0 : decode cX11_apartOf 0 = .ok (.aload_n 0, 1) := by decide +kernel
theorem dX11_apartOf_1 : decode cX11_apartOf 1 = .ok (.aload_n 1, 1) := by decide +kernel
theorem dX11_apartOf_2 : decode cX11_apartOf 2 = .ok (.aload_n 1, 1) := by decide +kernel
theorem dX11_apartOf_3 : decode cX11_apartOf 3 = .ok (.getfield 72, 3) := by decide +kernel
theorem dX11_apartOf_6 : decode cX11_apartOf 6 = .ok (.invokevirtual 174, 3) := by decide +kernel
theorem dX11_apartOf_9 : decode cX11_apartOf 9 = .ok (.aload_n 0, 1) := by decide +kernel
theorem dX11_apartOf_10 : decode cX11_apartOf 10 = .ok (.getfield 25, 3) := by decide +kernel
theorem dX11_apartOf_13 : decode cX11_apartOf 13 = .ok (.invokevirtual 184, 3) := by decide +kernel
theorem dX11_apartOf_16 : decode cX11_apartOf 16 = .ok (.ireturn, 1) := by decide +kernel
theorem dX11_weighNone_0 : decode cX11_weighNone 0 = .ok (.aload_n 0, 1) := by decide +kernel
theorem dX11_weighNone_1 : decode cX11_weighNone 1 = .ok (.iconst (-1), 1) := by decide +kernel
theorem dX11_weighNone_2 : decode cX11_weighNone 2 = .ok (.putfield 310, 3) := by decide +kernel
theorem dX11_weighNone_5 : decode cX11_weighNone 5 = .ok (.aload_n 0, 1) := by decide +kernel
theorem dX11_weighNone_6 : decode cX11_weighNone 6 = .ok (.iconst (-1), 1) := by decide +kernel
theorem dX11_weighNone_7 : decode cX11_weighNone 7 = .ok (.putfield 227, 3) := by decide +kernel
theorem dX11_weighNone_10 : decode cX11_weighNone 10 = .ok (.aload_n 0, 1) := by decide +kernel
theorem dX11_weighNone_11 : decode cX11_weighNone 11 = .ok (.iconst 0, 1) := by decide +kernel
theorem dX11_weighNone_12 : decode cX11_weighNone 12 = .ok (.putfield 313, 3) := by decide +kernel
theorem dX11_weighNone_15 : decode cX11_weighNone 15 = .ok (.return_, 1) := by decide +kernel
theorem dX11_weigh_0 : decode cX11_weigh 0 = .ok (.aload_n 0, 1) := by decide +kernel
theorem dX11_weigh_1 : decode cX11_weigh 1 = .ok (.getfield 313, 3) := by decide +kernel
theorem dX11_weigh_4 : decode cX11_weigh 4 = .ok (.ifCond .eq 11, 3) := by decide +kernel
theorem dX11_weigh_7 : decode cX11_weigh 7 = .ok (.iload_n 2, 1) := by decide +kernel
theorem dX11_weigh_8 : decode cX11_weigh 8 = .ok (.aload_n 0, 1) := by decide +kernel
theorem dX11_weigh_9 : decode cX11_weigh 9 = .ok (.getfield 227, 3) := by decide +kernel
theorem dX11_weigh_12 : decode cX11_weigh 12 = .ok (.if_icmp .ge 18, 3) := by decide +kernel
theorem dX11_weigh_15 : decode cX11_weigh 15 = .ok (.aload_n 0, 1) := by decide +kernel
theorem dX11_weigh_16 : decode cX11_weigh 16 = .ok (.iload_n 1, 1) := by decide +kernel
theorem dX11_weigh_17 : decode cX11_weigh 17 = .ok (.putfield 310, 3) := by decide +kernel
theorem dX11_weigh_20 : decode cX11_weigh 20 = .ok (.aload_n 0, 1) := by decide +kernel
theorem dX11_weigh_21 : decode cX11_weigh 21 = .ok (.iload_n 2, 1) := by decide +kernel
theorem dX11_weigh_22 : decode cX11_weigh 22 = .ok (.putfield 227, 3) := by decide +kernel
theorem dX11_weigh_25 : decode cX11_weigh 25 = .ok (.aload_n 0, 1) := by decide +kernel
theorem dX11_weigh_26 : decode cX11_weigh 26 = .ok (.iconst 1, 1) := by decide +kernel
theorem dX11_weigh_27 : decode cX11_weigh 27 = .ok (.putfield 313, 3) := by decide +kernel
theorem dX11_weigh_30 : decode cX11_weigh 30 = .ok (.return_, 1) := by decide +kernel
theorem dX11_lightest_0 : decode cX11_lightest 0 = .ok (.iload_n 1, 1) := by decide +kernel
theorem dX11_lightest_1 : decode cX11_lightest 1 = .ok (.ifCond .ne 10, 3) := by decide +kernel
theorem dX11_lightest_4 : decode cX11_lightest 4 = .ok (.aload_n 0, 1) := by decide +kernel
theorem dX11_lightest_5 : decode cX11_lightest 5 = .ok (.getfield 310, 3) := by decide +kernel
theorem dX11_lightest_8 : decode cX11_lightest 8 = .ok (.goto 7, 3) := by decide +kernel
theorem dX11_lightest_11 : decode cX11_lightest 11 = .ok (.aload_n 0, 1) := by decide +kernel
theorem dX11_lightest_12 : decode cX11_lightest 12 = .ok (.getfield 227, 3) := by decide +kernel
theorem dX11_lightest_15 : decode cX11_lightest 15 = .ok (.ireturn, 1) := by decide +kernel
theorem dX11_refusal_0 : decode cX11_refusal 0 = .ok (.iload_n 1, 1) := by decide +kernel
theorem dX11_refusal_1 : decode cX11_refusal 1 = .ok (.iconst 0, 1) := by decide +kernel
theorem dX11_refusal_2 : decode cX11_refusal 2 = .ok (.iconst 3, 1) := by decide +kernel
theorem dX11_refusal_3 : decode cX11_refusal 3 = .ok (.invokestatic 101, 3) := by decide +kernel
theorem dX11_refusal_6 : decode cX11_refusal 6 = .ok (.ifCond .ne 6, 3) := by decide +kernel
theorem dX11_refusal_9 : decode cX11_refusal 9 = .ok (.bipush (-2), 2) := by decide +kernel
theorem dX11_refusal_11 : decode cX11_refusal 11 = .ok (.ireturn, 1) := by decide +kernel
theorem dX11_refusal_12 : decode cX11_refusal 12 = .ok (.aload_n 0, 1) := by decide +kernel
theorem dX11_refusal_13 : decode cX11_refusal 13 = .ok (.getfield 44, 3) := by decide +kernel
theorem dX11_refusal_16 : decode cX11_refusal 16 = .ok (.iload_n 1, 1) := by decide +kernel
theorem dX11_refusal_17 : decode cX11_refusal 17 = .ok (.aaload, 1) := by decide +kernel
theorem dX11_refusal_18 : decode cX11_refusal 18 = .ok (.getfield 266, 3) := by decide +kernel
theorem dX11_refusal_21 : decode cX11_refusal 21 = .ok (.iconst (-1), 1) := by decide +kernel
theorem dX11_refusal_22 : decode cX11_refusal 22 = .ok (.if_icmp .ne 6, 3) := by decide +kernel
theorem dX11_refusal_25 : decode cX11_refusal 25 = .ok (.bipush (-11), 2) := by decide +kernel
theorem dX11_refusal_27 : decode cX11_refusal 27 = .ok (.ireturn, 1) := by decide +kernel
theorem dX11_refusal_28 : decode cX11_refusal 28 = .ok (.aload_n 0, 1) := by decide +kernel
theorem dX11_refusal_29 : decode cX11_refusal 29 = .ok (.getfield 44, 3) := by decide +kernel
theorem dX11_refusal_32 : decode cX11_refusal 32 = .ok (.iload_n 1, 1) := by decide +kernel
theorem dX11_refusal_33 : decode cX11_refusal 33 = .ok (.aaload, 1) := by decide +kernel
theorem dX11_refusal_34 : decode cX11_refusal 34 = .ok (.getfield 269, 3) := by decide +kernel
theorem dX11_refusal_37 : decode cX11_refusal 37 = .ok (.aload_n 0, 1) := by decide +kernel
theorem dX11_refusal_38 : decode cX11_refusal 38 = .ok (.getfield 10, 3) := by decide +kernel
theorem dX11_refusal_41 : decode cX11_refusal 41 = .ok (.getfield 68, 3) := by decide +kernel
theorem dX11_refusal_44 : decode cX11_refusal 44 = .ok (.if_icmp .eq 8, 3) := by decide +kernel
theorem dX11_refusal_47 : decode cX11_refusal 47 = .ok (.bipush (-2), 2) := by decide +kernel
theorem dX11_refusal_49 : decode cX11_refusal 49 = .ok (.goto 4, 3) := by decide +kernel
theorem dX11_refusal_52 : decode cX11_refusal 52 = .ok (.iconst 0, 1) := by decide +kernel
theorem dX11_refusal_53 : decode cX11_refusal 53 = .ok (.ireturn, 1) := by decide +kernel
theorem dX11_firstOtherwise_0 : decode cX11_firstOtherwise 0 = .ok (.aload_n 0, 1) := by decide +kernel
theorem dX11_firstOtherwise_1 : decode cX11_firstOtherwise 1 = .ok (.aload_n 2, 1) := by decide +kernel
theorem dX11_firstOtherwise_2 : decode cX11_firstOtherwise 2 = .ok (.aload_n 2, 1) := by decide +kernel
theorem dX11_firstOtherwise_3 : decode cX11_firstOtherwise 3 = .ok (.getfield 72, 3) := by decide +kernel
theorem dX11_firstOtherwise_6 : decode cX11_firstOtherwise 6 = .ok (.invokevirtual 174, 3) := by decide +kernel
theorem dX11_firstOtherwise_9 : decode cX11_firstOtherwise 9 = .ok (.iconst 0, 1) := by decide +kernel
theorem dX11_firstOtherwise_10 : decode cX11_firstOtherwise 10 = .ok (.istore_n 3, 1) := by decide +kernel
theorem dX11_firstOtherwise_11 : decode cX11_firstOtherwise 11 = .ok (.iload_n 3, 1) := by decide +kernel
theorem dX11_firstOtherwise_12 : decode cX11_firstOtherwise 12 = .ok (.aload_n 2, 1) := by decide +kernel
theorem dX11_firstOtherwise_13 : decode cX11_firstOtherwise 13 = .ok (.getfield 68, 3) := by decide +kernel
theorem dX11_firstOtherwise_16 : decode cX11_firstOtherwise 16 = .ok (.if_icmp .ge 33, 3) := by decide +kernel
theorem dX11_firstOtherwise_19 : decode cX11_firstOtherwise 19 = .ok (.aload_n 0, 1) := by decide +kernel
theorem dX11_firstOtherwise_20 : decode cX11_firstOtherwise 20 = .ok (.getfield 44, 3) := by decide +kernel
theorem dX11_firstOtherwise_23 : decode cX11_firstOtherwise 23 = .ok (.iload_n 1, 1) := by decide +kernel
theorem dX11_firstOtherwise_24 : decode cX11_firstOtherwise 24 = .ok (.aaload, 1) := by decide +kernel
theorem dX11_firstOtherwise_25 : decode cX11_firstOtherwise 25 = .ok (.iload_n 3, 1) := by decide +kernel
theorem dX11_firstOtherwise_26 : decode cX11_firstOtherwise 26 = .ok (.invokevirtual 279, 3) := by decide +kernel
theorem dX11_firstOtherwise_29 : decode cX11_firstOtherwise 29 = .ok (.aload_n 0, 1) := by decide +kernel
theorem dX11_firstOtherwise_30 : decode cX11_firstOtherwise 30 = .ok (.getfield 25, 3) := by decide +kernel
theorem dX11_firstOtherwise_33 : decode cX11_firstOtherwise 33 = .ok (.getfield 178, 3) := by decide +kernel
theorem dX11_firstOtherwise_36 : decode cX11_firstOtherwise 36 = .ok (.iload_n 3, 1) := by decide +kernel
theorem dX11_firstOtherwise_37 : decode cX11_firstOtherwise 37 = .ok (.iaload, 1) := by decide +kernel
theorem dX11_firstOtherwise_38 : decode cX11_firstOtherwise 38 = .ok (.if_icmp .eq 5, 3) := by decide +kernel
theorem dX11_firstOtherwise_41 : decode cX11_firstOtherwise 41 = .ok (.iload_n 3, 1) := by decide +kernel
theorem dX11_firstOtherwise_42 : decode cX11_firstOtherwise 42 = .ok (.ireturn, 1) := by decide +kernel
theorem dX11_firstOtherwise_43 : decode cX11_firstOtherwise 43 = .ok (.iinc 3 1, 3) := by decide +kernel
theorem dX11_firstOtherwise_46 : decode cX11_firstOtherwise 46 = .ok (.goto (-35), 3) := by decide +kernel
theorem dX11_firstOtherwise_49 : decode cX11_firstOtherwise 49 = .ok (.iconst (-1), 1) := by decide +kernel
theorem dX11_firstOtherwise_50 : decode cX11_firstOtherwise 50 = .ok (.ireturn, 1) := by decide +kernel
theorem dX12_init_0 : decode cX12_init 0 = .ok (.aload_n 0, 1) := by decide +kernel
theorem dX12_init_1 : decode cX12_init 1 = .ok (.invokespecial 1, 3) := by decide +kernel
theorem dX12_init_4 : decode cX12_init 4 = .ok (.aload_n 0, 1) := by decide +kernel
theorem dX12_init_5 : decode cX12_init 5 = .ok (.bipush 16, 2) := by decide +kernel
theorem dX12_init_7 : decode cX12_init 7 = .ok (.newarray .int, 2) := by decide +kernel
theorem dX12_init_9 : decode cX12_init 9 = .ok (.dup, 1) := by decide +kernel
theorem dX12_init_10 : decode cX12_init 10 = .ok (.iconst 0, 1) := by decide +kernel
theorem dX12_init_11 : decode cX12_init 11 = .ok (.bipush 10, 2) := by decide +kernel
theorem dX12_init_13 : decode cX12_init 13 = .ok (.iastore, 1) := by decide +kernel
theorem dX12_init_14 : decode cX12_init 14 = .ok (.dup, 1) := by decide +kernel
theorem dX12_init_15 : decode cX12_init 15 = .ok (.iconst 1, 1) := by decide +kernel
theorem dX12_init_16 : decode cX12_init 16 = .ok (.bipush 10, 2) := by decide +kernel
theorem dX12_init_18 : decode cX12_init 18 = .ok (.iastore, 1) := by decide +kernel
theorem dX12_init_19 : decode cX12_init 19 = .ok (.dup, 1) := by decide +kernel
theorem dX12_init_20 : decode cX12_init 20 = .ok (.iconst 2, 1) := by decide +kernel
theorem dX12_init_21 : decode cX12_init 21 = .ok (.bipush 10, 2) := by decide +kernel
theorem dX12_init_23 : decode cX12_init 23 = .ok (.iastore, 1) := by decide +kernel
theorem dX12_init_24 : decode cX12_init 24 = .ok (.dup, 1) := by decide +kernel
theorem dX12_init_25 : decode cX12_init 25 = .ok (.iconst 3, 1) := by decide +kernel
theorem dX12_init_26 : decode cX12_init 26 = .ok (.bipush 10, 2) := by decide +kernel
theorem dX12_init_28 : decode cX12_init 28 = .ok (.iastore, 1) := by decide +kernel
theorem dX12_init_29 : decode cX12_init 29 = .ok (.dup, 1) := by decide +kernel
theorem dX12_init_30 : decode cX12_init 30 = .ok (.iconst 4, 1) := by decide +kernel
theorem dX12_init_31 : decode cX12_init 31 = .ok (.bipush 10, 2) := by decide +kernel
theorem dX12_init_33 : decode cX12_init 33 = .ok (.iastore, 1) := by decide +kernel
theorem dX12_init_34 : decode cX12_init 34 = .ok (.dup, 1) := by decide +kernel
theorem dX12_init_35 : decode cX12_init 35 = .ok (.iconst 5, 1) := by decide +kernel
theorem dX12_init_36 : decode cX12_init 36 = .ok (.bipush 10, 2) := by decide +kernel
theorem dX12_init_38 : decode cX12_init 38 = .ok (.iastore, 1) := by decide +kernel
theorem dX12_init_39 : decode cX12_init 39 = .ok (.dup, 1) := by decide +kernel
theorem dX12_init_40 : decode cX12_init 40 = .ok (.bipush 6, 2) := by decide +kernel
theorem dX12_init_42 : decode cX12_init 42 = .ok (.bipush 10, 2) := by decide +kernel
theorem dX12_init_44 : decode cX12_init 44 = .ok (.iastore, 1) := by decide +kernel
theorem dX12_init_45 : decode cX12_init 45 = .ok (.dup, 1) := by decide +kernel
theorem dX12_init_46 : decode cX12_init 46 = .ok (.bipush 7, 2) := by decide +kernel
theorem dX12_init_48 : decode cX12_init 48 = .ok (.bipush 10, 2) := by decide +kernel
theorem dX12_init_50 : decode cX12_init 50 = .ok (.iastore, 1) := by decide +kernel
theorem dX12_init_51 : decode cX12_init 51 = .ok (.dup, 1) := by decide +kernel
theorem dX12_init_52 : decode cX12_init 52 = .ok (.bipush 8, 2) := by decide +kernel
theorem dX12_init_54 : decode cX12_init 54 = .ok (.bipush 10, 2) := by decide +kernel
theorem dX12_init_56 : decode cX12_init 56 = .ok (.iastore, 1) := by decide +kernel
theorem dX12_init_57 : decode cX12_init 57 = .ok (.dup, 1) := by decide +kernel
theorem dX12_init_58 : decode cX12_init 58 = .ok (.bipush 9, 2) := by decide +kernel
theorem dX12_init_60 : decode cX12_init 60 = .ok (.bipush 10, 2) := by decide +kernel
theorem dX12_init_62 : decode cX12_init 62 = .ok (.iastore, 1) := by decide +kernel
theorem dX12_init_63 : decode cX12_init 63 = .ok (.dup, 1) := by decide +kernel
theorem dX12_init_64 : decode cX12_init 64 = .ok (.bipush 10, 2) := by decide +kernel
theorem dX12_init_66 : decode cX12_init 66 = .ok (.bipush 10, 2) := by decide +kernel
theorem dX12_init_68 : decode cX12_init 68 = .ok (.iastore, 1) := by decide +kernel
theorem dX12_init_69 : decode cX12_init 69 = .ok (.dup, 1) := by decide +kernel
theorem dX12_init_70 : decode cX12_init 70 = .ok (.bipush 11, 2) := by decide +kernel
theorem dX12_init_72 : decode cX12_init 72 = .ok (.bipush 10, 2) := by decide +kernel
theorem dX12_init_74 : decode cX12_init 74 = .ok (.iastore, 1) := by decide +kernel
theorem dX12_init_75 : decode cX12_init 75 = .ok (.dup, 1) := by decide +kernel
theorem dX12_init_76 : decode cX12_init 76 = .ok (.bipush 12, 2) := by decide +kernel
theorem dX12_init_78 : decode cX12_init 78 = .ok (.bipush 10, 2) := by decide +kernel
theorem dX12_init_80 : decode cX12_init 80 = .ok (.iastore, 1) := by decide +kernel
theorem dX12_init_81 : decode cX12_init 81 = .ok (.dup, 1) := by decide +kernel
theorem dX12_init_82 : decode cX12_init 82 = .ok (.bipush 13, 2) := by decide +kernel
theorem dX12_init_84 : decode cX12_init 84 = .ok (.bipush 10, 2) := by decide +kernel
theorem dX12_init_86 : decode cX12_init 86 = .ok (.iastore, 1) := by decide +kernel
theorem dX12_init_87 : decode cX12_init 87 = .ok (.dup, 1) := by decide +kernel
theorem dX12_init_88 : decode cX12_init 88 = .ok (.bipush 14, 2) := by decide +kernel
theorem dX12_init_90 : decode cX12_init 90 = .ok (.bipush 10, 2) := by decide +kernel
theorem dX12_init_92 : decode cX12_init 92 = .ok (.iastore, 1) := by decide +kernel
theorem dX12_init_93 : decode cX12_init 93 = .ok (.dup, 1) := by decide +kernel
theorem dX12_init_94 : decode cX12_init 94 = .ok (.bipush 15, 2) := by decide +kernel
theorem dX12_init_96 : decode cX12_init 96 = .ok (.bipush 10, 2) := by decide +kernel
theorem dX12_init_98 : decode cX12_init 98 = .ok (.iastore, 1) := by decide +kernel
theorem dX12_init_99 : decode cX12_init 99 = .ok (.putfield 7, 3) := by decide +kernel
theorem dX12_init_102 : decode cX12_init 102 = .ok (.aload_n 0, 1) := by decide +kernel
theorem dX12_init_103 : decode cX12_init 103 = .ok (.bipush 20, 2) := by decide +kernel
theorem dX12_init_105 : decode cX12_init 105 = .ok (.putfield 13, 3) := by decide +kernel
theorem dX12_init_108 : decode cX12_init 108 = .ok (.aload_n 0, 1) := by decide +kernel
theorem dX12_init_109 : decode cX12_init 109 = .ok (.bipush 8, 2) := by decide +kernel
theorem dX12_init_111 : decode cX12_init 111 = .ok (.newarray .int, 2) := by decide +kernel
theorem dX12_init_113 : decode cX12_init 113 = .ok (.putfield 17, 3) := by decide +kernel
theorem dX12_init_116 : decode cX12_init 116 = .ok (.aload_n 0, 1) := by decide +kernel
theorem dX12_init_117 : decode cX12_init 117 = .ok (.bipush 8, 2) := by decide +kernel
theorem dX12_init_119 : decode cX12_init 119 = .ok (.newarray .int, 2) := by decide +kernel
theorem dX12_init_121 : decode cX12_init 121 = .ok (.putfield 20, 3) := by decide +kernel
theorem dX12_init_124 : decode cX12_init 124 = .ok (.aload_n 0, 1) := by decide +kernel
theorem dX12_init_125 : decode cX12_init 125 = .ok (.bipush 8, 2) := by decide +kernel
theorem dX12_init_127 : decode cX12_init 127 = .ok (.newarray .int, 2) := by decide +kernel
theorem dX12_init_129 : decode cX12_init 129 = .ok (.putfield 23, 3) := by decide +kernel
theorem dX12_init_132 : decode cX12_init 132 = .ok (.aload_n 0, 1) := by decide +kernel
theorem dX12_init_133 : decode cX12_init 133 = .ok (.bipush 8, 2) := by decide +kernel
theorem dX12_init_135 : decode cX12_init 135 = .ok (.newarray .int, 2) := by decide +kernel
theorem dX12_init_137 : decode cX12_init 137 = .ok (.putfield 26, 3) := by decide +kernel
theorem dX12_init_140 : decode cX12_init 140 = .ok (.aload_n 0, 1) := by decide +kernel
theorem dX12_init_141 : decode cX12_init 141 = .ok (.bipush 6, 2) := by decide +kernel
theorem dX12_init_143 : decode cX12_init 143 = .ok (.newarray .int, 2) := by decide +kernel
theorem dX12_init_145 : decode cX12_init 145 = .ok (.putfield 29, 3) := by decide +kernel
theorem dX12_init_148 : decode cX12_init 148 = .ok (.aload_n 0, 1) := by decide +kernel
theorem dX12_init_149 : decode cX12_init 149 = .ok (.bipush 6, 2) := by decide +kernel
theorem dX12_init_151 : decode cX12_init 151 = .ok (.newarray .int, 2) := by decide +kernel
theorem dX12_init_153 : decode cX12_init 153 = .ok (.putfield 32, 3) := by decide +kernel
theorem dX12_init_156 : decode cX12_init 156 = .ok (.aload_n 0, 1) := by decide +kernel
theorem dX12_init_157 : decode cX12_init 157 = .ok (.sipush 160, 3) := by decide +kernel
theorem dX12_init_160 : decode cX12_init 160 = .ok (.newarray .int, 2) := by decide +kernel
theorem dX12_init_162 : decode cX12_init 162 = .ok (.putfield 35, 3) := by decide +kernel
theorem dX12_init_165 : decode cX12_init 165 = .ok (.aload_n 0, 1) := by decide +kernel
theorem dX12_init_166 : decode cX12_init 166 = .ok (.sipush 1200, 3) := by decide +kernel
theorem dX12_init_169 : decode cX12_init 169 = .ok (.newarray .int, 2) := by decide +kernel
theorem dX12_init_171 : decode cX12_init 171 = .ok (.putfield 38, 3) := by decide +kernel
theorem dX12_init_174 : decode cX12_init 174 = .ok (.aload_n 0, 1) := by decide +kernel
theorem dX12_init_175 : decode cX12_init 175 = .ok (.bipush 24, 2) := by decide +kernel
theorem dX12_init_177 : decode cX12_init 177 = .ok (.newarray .int, 2) := by decide +kernel
theorem dX12_init_179 : decode cX12_init 179 = .ok (.putfield 41, 3) := by decide +kernel
theorem dX12_init_182 : decode cX12_init 182 = .ok (.aload_n 0, 1) := by decide +kernel
theorem dX12_init_183 : decode cX12_init 183 = .ok (.bipush 36, 2) := by decide +kernel
theorem dX12_init_185 : decode cX12_init 185 = .ok (.newarray .int, 2) := by decide +kernel
theorem dX12_init_187 : decode cX12_init 187 = .ok (.putfield 44, 3) := by decide +kernel
theorem dX12_init_190 : decode cX12_init 190 = .ok (.aload_n 0, 1) := by decide +kernel
theorem dX12_init_191 : decode cX12_init 191 = .ok (.iconst 4, 1) := by decide +kernel
theorem dX12_init_192 : decode cX12_init 192 = .ok (.newarray .int, 2) := by decide +kernel
theorem dX12_init_194 : decode cX12_init 194 = .ok (.dup, 1) := by decide +kernel
theorem dX12_init_195 : decode cX12_init 195 = .ok (.iconst 0, 1) := by decide +kernel
theorem dX12_init_196 : decode cX12_init 196 = .ok (.iconst (-1), 1) := by decide +kernel
theorem dX12_init_197 : decode cX12_init 197 = .ok (.iastore, 1) := by decide +kernel
theorem dX12_init_198 : decode cX12_init 198 = .ok (.dup, 1) := by decide +kernel
theorem dX12_init_199 : decode cX12_init 199 = .ok (.iconst 1, 1) := by decide +kernel
theorem dX12_init_200 : decode cX12_init 200 = .ok (.iconst (-1), 1) := by decide +kernel
theorem dX12_init_201 : decode cX12_init 201 = .ok (.iastore, 1) := by decide +kernel
theorem dX12_init_202 : decode cX12_init 202 = .ok (.dup, 1) := by decide +kernel
theorem dX12_init_203 : decode cX12_init 203 = .ok (.iconst 2, 1) := by decide +kernel
theorem dX12_init_204 : decode cX12_init 204 = .ok (.iconst (-1), 1) := by decide +kernel
theorem dX12_init_205 : decode cX12_init 205 = .ok (.iastore, 1) := by decide +kernel
theorem dX12_init_206 : decode cX12_init 206 = .ok (.dup, 1) := by decide +kernel
theorem dX12_init_207 : decode cX12_init 207 = .ok (.iconst 3, 1) := by decide +kernel
theorem dX12_init_208 : decode cX12_init 208 = .ok (.iconst (-1), 1) := by decide +kernel
theorem dX12_init_209 : decode cX12_init 209 = .ok (.iastore, 1) := by decide +kernel
theorem dX12_init_210 : decode cX12_init 210 = .ok (.putfield 47, 3) := by decide +kernel
theorem dX12_init_213 : decode cX12_init 213 = .ok (.aload_n 0, 1) := by decide +kernel
theorem dX12_init_214 : decode cX12_init 214 = .ok (.iconst 4, 1) := by decide +kernel
theorem dX12_init_215 : decode cX12_init 215 = .ok (.newarray .int, 2) := by decide +kernel
theorem dX12_init_217 : decode cX12_init 217 = .ok (.putfield 50, 3) := by decide +kernel
theorem dX12_init_220 : decode cX12_init 220 = .ok (.aload_n 0, 1) := by decide +kernel
theorem dX12_init_221 : decode cX12_init 221 = .ok (.sipush 160, 3) := by decide +kernel
theorem dX12_init_224 : decode cX12_init 224 = .ok (.newarray .int, 2) := by decide +kernel
theorem dX12_init_226 : decode cX12_init 226 = .ok (.putfield 53, 3) := by decide +kernel
theorem dX12_init_229 : decode cX12_init 229 = .ok (.aload_n 0, 1) := by decide +kernel
theorem dX12_init_230 : decode cX12_init 230 = .ok (.bipush 53, 2) := by decide +kernel
theorem dX12_init_232 : decode cX12_init 232 = .ok (.newarray .int, 2) := by decide +kernel
theorem dX12_init_234 : decode cX12_init 234 = .ok (.dup, 1) := by decide +kernel
theorem dX12_init_235 : decode cX12_init 235 = .ok (.iconst 0, 1) := by decide +kernel
theorem dX12_init_236 : decode cX12_init 236 = .ok (.bipush 98, 2) := by decide +kernel
theorem dX12_init_238 : decode cX12_init 238 = .ok (.iastore, 1) := by decide +kernel
theorem dX12_init_239 : decode cX12_init 239 = .ok (.dup, 1) := by decide +kernel
theorem dX12_init_240 : decode cX12_init 240 = .ok (.iconst 1, 1) := by decide +kernel
theorem dX12_init_241 : decode cX12_init 241 = .ok (.bipush 114, 2) := by decide +kernel
theorem dX12_init_243 : decode cX12_init 243 = .ok (.iastore, 1) := by decide +kernel
theorem dX12_init_244 : decode cX12_init 244 = .ok (.dup, 1) := by decide +kernel
theorem dX12_init_245 : decode cX12_init 245 = .ok (.iconst 2, 1) := by decide +kernel
theorem dX12_init_246 : decode cX12_init 246 = .ok (.bipush 111, 2) := by decide +kernel
theorem dX12_init_248 : decode cX12_init 248 = .ok (.iastore, 1) := by decide +kernel
theorem dX12_init_249 : decode cX12_init 249 = .ok (.dup, 1) := by decide +kernel
theorem dX12_init_250 : decode cX12_init 250 = .ok (.iconst 3, 1) := by decide +kernel
theorem dX12_init_251 : decode cX12_init 251 = .ok (.bipush 119, 2) := by decide +kernel
theorem dX12_init_253 : decode cX12_init 253 = .ok (.iastore, 1) := by decide +kernel
theorem dX12_init_254 : decode cX12_init 254 = .ok (.dup, 1) := by decide +kernel
theorem dX12_init_255 : decode cX12_init 255 = .ok (.iconst 4, 1) := by decide +kernel
theorem dX12_init_256 : decode cX12_init 256 = .ok (.bipush 110, 2) := by decide +kernel
theorem dX12_init_258 : decode cX12_init 258 = .ok (.iastore, 1) := by decide +kernel
theorem dX12_init_259 : decode cX12_init 259 = .ok (.dup, 1) := by decide +kernel
theorem dX12_init_260 : decode cX12_init 260 = .ok (.iconst 5, 1) := by decide +kernel
theorem dX12_init_261 : decode cX12_init 261 = .ok (.bipush 115, 2) := by decide +kernel
theorem dX12_init_263 : decode cX12_init 263 = .ok (.iastore, 1) := by decide +kernel
theorem dX12_init_264 : decode cX12_init 264 = .ok (.dup, 1) := by decide +kernel
theorem dX12_init_265 : decode cX12_init 265 = .ok (.bipush 6, 2) := by decide +kernel
theorem dX12_init_267 : decode cX12_init 267 = .ok (.bipush 32, 2) := by decide +kernel
theorem dX12_init_269 : decode cX12_init 269 = .ok (.iastore, 1) := by decide +kernel
theorem dX12_init_270 : decode cX12_init 270 = .ok (.dup, 1) := by decide +kernel
theorem dX12_init_271 : decode cX12_init 271 = .ok (.bipush 7, 2) := by decide +kernel
theorem dX12_init_273 : decode cX12_init 273 = .ok (.bipush 104, 2) := by decide +kernel
theorem dX12_init_275 : decode cX12_init 275 = .ok (.iastore, 1) := by decide +kernel
theorem dX12_init_276 : decode cX12_init 276 = .ok (.dup, 1) := by decide +kernel
theorem dX12_init_277 : decode cX12_init 277 = .ok (.bipush 8, 2) := by decide +kernel
theorem dX12_init_279 : decode cX12_init 279 = .ok (.bipush 101, 2) := by decide +kernel
theorem dX12_init_281 : decode cX12_init 281 = .ok (.iastore, 1) := by decide +kernel
theorem dX12_init_282 : decode cX12_init 282 = .ok (.dup, 1) := by decide +kernel
theorem dX12_init_283 : decode cX12_init 283 = .ok (.bipush 9, 2) := by decide +kernel
theorem dX12_init_285 : decode cX12_init 285 = .ok (.bipush 97, 2) := by decide +kernel
theorem dX12_init_287 : decode cX12_init 287 = .ok (.iastore, 1) := by decide +kernel
theorem dX12_init_288 : decode cX12_init 288 = .ok (.dup, 1) := by decide +kernel
theorem dX12_init_289 : decode cX12_init 289 = .ok (.bipush 10, 2) := by decide +kernel
theorem dX12_init_291 : decode cX12_init 291 = .ok (.bipush 116, 2) := by decide +kernel
theorem dX12_init_293 : decode cX12_init 293 = .ok (.iastore, 1) := by decide +kernel
theorem dX12_init_294 : decode cX12_init 294 = .ok (.dup, 1) := by decide +kernel
theorem dX12_init_295 : decode cX12_init 295 = .ok (.bipush 11, 2) := by decide +kernel
theorem dX12_init_297 : decode cX12_init 297 = .ok (.bipush 32, 2) := by decide +kernel
theorem dX12_init_299 : decode cX12_init 299 = .ok (.iastore, 1) := by decide +kernel
theorem dX12_init_300 : decode cX12_init 300 = .ok (.dup, 1) := by decide +kernel
theorem dX12_init_301 : decode cX12_init 301 = .ok (.bipush 12, 2) := by decide +kernel
theorem dX12_init_303 : decode cX12_init 303 = .ok (.bipush 42, 2) := by decide +kernel
theorem dX12_init_305 : decode cX12_init 305 = .ok (.iastore, 1) := by decide +kernel
theorem dX12_init_306 : decode cX12_init 306 = .ok (.dup, 1) := by decide +kernel
theorem dX12_init_307 : decode cX12_init 307 = .ok (.bipush 13, 2) := by decide +kernel
theorem dX12_init_309 : decode cX12_init 309 = .ok (.bipush 32, 2) := by decide +kernel
theorem dX12_init_311 : decode cX12_init 311 = .ok (.iastore, 1) := by decide +kernel
theorem dX12_init_312 : decode cX12_init 312 = .ok (.dup, 1) := by decide +kernel
theorem dX12_init_313 : decode cX12_init 313 = .ok (.bipush 14, 2) := by decide +kernel
theorem dX12_init_315 : decode cX12_init 315 = .ok (.bipush 50, 2) := by decide +kernel
theorem dX12_init_317 : decode cX12_init 317 = .ok (.iastore, 1) := by decide +kernel
theorem dX12_init_318 : decode cX12_init 318 = .ok (.dup, 1) := by decide +kernel
theorem dX12_init_319 : decode cX12_init 319 = .ok (.bipush 15, 2) := by decide +kernel
theorem dX12_init_321 : decode cX12_init 321 = .ok (.bipush 32, 2) := by decide +kernel
theorem dX12_init_323 : decode cX12_init 323 = .ok (.iastore, 1) := by decide +kernel
theorem dX12_init_324 : decode cX12_init 324 = .ok (.dup, 1) := by decide +kernel
theorem dX12_init_325 : decode cX12_init 325 = .ok (.bipush 16, 2) := by decide +kernel
theorem dX12_init_327 : decode cX12_init 327 = .ok (.bipush 59, 2) := by decide +kernel
theorem dX12_init_329 : decode cX12_init 329 = .ok (.iastore, 1) := by decide +kernel
theorem dX12_init_330 : decode cX12_init 330 = .ok (.dup, 1) := by decide +kernel
theorem dX12_init_331 : decode cX12_init 331 = .ok (.bipush 17, 2) := by decide +kernel
theorem dX12_init_333 : decode cX12_init 333 = .ok (.bipush 32, 2) := by decide +kernel
theorem dX12_init_335 : decode cX12_init 335 = .ok (.iastore, 1) := by decide +kernel
theorem dX12_init_336 : decode cX12_init 336 = .ok (.dup, 1) := by decide +kernel
theorem dX12_init_337 : decode cX12_init 337 = .ok (.bipush 18, 2) := by decide +kernel
theorem dX12_init_339 : decode cX12_init 339 = .ok (.bipush 99, 2) := by decide +kernel
theorem dX12_init_341 : decode cX12_init 341 = .ok (.iastore, 1) := by decide +kernel
theorem dX12_init_342 : decode cX12_init 342 = .ok (.dup, 1) := by decide +kernel
theorem dX12_init_343 : decode cX12_init 343 = .ok (.bipush 19, 2) := by decide +kernel
theorem dX12_init_345 : decode cX12_init 345 = .ok (.bipush 111, 2) := by decide +kernel
theorem dX12_init_347 : decode cX12_init 347 = .ok (.iastore, 1) := by decide +kernel
theorem dX12_init_348 : decode cX12_init 348 = .ok (.dup, 1) := by decide +kernel
theorem dX12_init_349 : decode cX12_init 349 = .ok (.bipush 20, 2) := by decide +kernel
theorem dX12_init_351 : decode cX12_init 351 = .ok (.bipush 111, 2) := by decide +kernel
theorem dX12_init_353 : decode cX12_init 353 = .ok (.iastore, 1) := by decide +kernel
theorem dX12_init_354 : decode cX12_init 354 = .ok (.dup, 1) := by decide +kernel
theorem dX12_init_355 : decode cX12_init 355 = .ok (.bipush 21, 2) := by decide +kernel
theorem dX12_init_357 : decode cX12_init 357 = .ok (.bipush 108, 2) := by decide +kernel
theorem dX12_init_359 : decode cX12_init 359 = .ok (.iastore, 1) := by decide +kernel
theorem dX12_init_360 : decode cX12_init 360 = .ok (.dup, 1) := by decide +kernel
theorem dX12_init_361 : decode cX12_init 361 = .ok (.bipush 22, 2) := by decide +kernel
theorem dX12_init_363 : decode cX12_init 363 = .ok (.bipush 115, 2) := by decide +kernel
theorem dX12_init_365 : decode cX12_init 365 = .ok (.iastore, 1) := by decide +kernel
theorem dX12_init_366 : decode cX12_init 366 = .ok (.dup, 1) := by decide +kernel
theorem dX12_init_367 : decode cX12_init 367 = .ok (.bipush 23, 2) := by decide +kernel
theorem dX12_init_369 : decode cX12_init 369 = .ok (.bipush 32, 2) := by decide +kernel
theorem dX12_init_371 : decode cX12_init 371 = .ok (.iastore, 1) := by decide +kernel
theorem dX12_init_372 : decode cX12_init 372 = .ok (.dup, 1) := by decide +kernel
theorem dX12_init_373 : decode cX12_init 373 = .ok (.bipush 24, 2) := by decide +kernel
theorem dX12_init_375 : decode cX12_init 375 = .ok (.bipush 40, 2) := by decide +kernel
theorem dX12_init_377 : decode cX12_init 377 = .ok (.iastore, 1) := by decide +kernel
theorem dX12_init_378 : decode cX12_init 378 = .ok (.dup, 1) := by decide +kernel
theorem dX12_init_379 : decode cX12_init 379 = .ok (.bipush 25, 2) := by decide +kernel
theorem dX12_init_381 : decode cX12_init 381 = .ok (.bipush 32, 2) := by decide +kernel
theorem dX12_init_383 : decode cX12_init 383 = .ok (.iastore, 1) := by decide +kernel
theorem dX12_init_384 : decode cX12_init 384 = .ok (.dup, 1) := by decide +kernel
theorem dX12_init_385 : decode cX12_init 385 = .ok (.bipush 26, 2) := by decide +kernel
theorem dX12_init_387 : decode cX12_init 387 = .ok (.bipush 115, 2) := by decide +kernel
theorem dX12_init_389 : decode cX12_init 389 = .ok (.iastore, 1) := by decide +kernel
theorem dX12_init_390 : decode cX12_init 390 = .ok (.dup, 1) := by decide +kernel
theorem dX12_init_391 : decode cX12_init 391 = .ok (.bipush 27, 2) := by decide +kernel
theorem dX12_init_393 : decode cX12_init 393 = .ok (.bipush 105, 2) := by decide +kernel
theorem dX12_init_395 : decode cX12_init 395 = .ok (.iastore, 1) := by decide +kernel
theorem dX12_init_396 : decode cX12_init 396 = .ok (.dup, 1) := by decide +kernel
theorem dX12_init_397 : decode cX12_init 397 = .ok (.bipush 28, 2) := by decide +kernel
theorem dX12_init_399 : decode cX12_init 399 = .ok (.bipush 110, 2) := by decide +kernel
theorem dX12_init_401 : decode cX12_init 401 = .ok (.iastore, 1) := by decide +kernel
theorem dX12_init_402 : decode cX12_init 402 = .ok (.dup, 1) := by decide +kernel
theorem dX12_init_403 : decode cX12_init 403 = .ok (.bipush 29, 2) := by decide +kernel
theorem dX12_init_405 : decode cX12_init 405 = .ok (.bipush 99, 2) := by decide +kernel
theorem dX12_init_407 : decode cX12_init 407 = .ok (.iastore, 1) := by decide +kernel
theorem dX12_init_408 : decode cX12_init 408 = .ok (.dup, 1) := by decide +kernel
theorem dX12_init_409 : decode cX12_init 409 = .ok (.bipush 30, 2) := by decide +kernel
theorem dX12_init_411 : decode cX12_init 411 = .ok (.bipush 101, 2) := by decide +kernel
theorem dX12_init_413 : decode cX12_init 413 = .ok (.iastore, 1) := by decide +kernel
theorem dX12_init_414 : decode cX12_init 414 = .ok (.dup, 1) := by decide +kernel
theorem dX12_init_415 : decode cX12_init 415 = .ok (.bipush 31, 2) := by decide +kernel
theorem dX12_init_417 : decode cX12_init 417 = .ok (.bipush 32, 2) := by decide +kernel
theorem dX12_init_419 : decode cX12_init 419 = .ok (.iastore, 1) := by decide +kernel
theorem dX12_init_420 : decode cX12_init 420 = .ok (.dup, 1) := by decide +kernel
theorem dX12_init_421 : decode cX12_init 421 = .ok (.bipush 32, 2) := by decide +kernel
theorem dX12_init_423 : decode cX12_init 423 = .ok (.bipush 60, 2) := by decide +kernel
theorem dX12_init_425 : decode cX12_init 425 = .ok (.iastore, 1) := by decide +kernel
theorem dX12_init_426 : decode cX12_init 426 = .ok (.dup, 1) := by decide +kernel
theorem dX12_init_427 : decode cX12_init 427 = .ok (.bipush 33, 2) := by decide +kernel
theorem dX12_init_429 : decode cX12_init 429 = .ok (.bipush 32, 2) := by decide +kernel
theorem dX12_init_431 : decode cX12_init 431 = .ok (.iastore, 1) := by decide +kernel
theorem dX12_init_432 : decode cX12_init 432 = .ok (.dup, 1) := by decide +kernel
theorem dX12_init_433 : decode cX12_init 433 = .ok (.bipush 34, 2) := by decide +kernel
theorem dX12_init_435 : decode cX12_init 435 = .ok (.bipush 51, 2) := by decide +kernel
theorem dX12_init_437 : decode cX12_init 437 = .ok (.iastore, 1) := by decide +kernel
theorem dX12_init_438 : decode cX12_init 438 = .ok (.dup, 1) := by decide +kernel
theorem dX12_init_439 : decode cX12_init 439 = .ok (.bipush 35, 2) := by decide +kernel
theorem dX12_init_441 : decode cX12_init 441 = .ok (.bipush 32, 2) := by decide +kernel
theorem dX12_init_443 : decode cX12_init 443 = .ok (.iastore, 1) := by decide +kernel
theorem dX12_init_444 : decode cX12_init 444 = .ok (.dup, 1) := by decide +kernel
theorem dX12_init_445 : decode cX12_init 445 = .ok (.bipush 36, 2) := by decide +kernel
theorem dX12_init_447 : decode cX12_init 447 = .ok (.bipush 41, 2) := by decide +kernel
theorem dX12_init_449 : decode cX12_init 449 = .ok (.iastore, 1) := by decide +kernel
theorem dX12_init_450 : decode cX12_init 450 = .ok (.dup, 1) := by decide +kernel
theorem dX12_init_451 : decode cX12_init 451 = .ok (.bipush 37, 2) := by decide +kernel
theorem dX12_init_453 : decode cX12_init 453 = .ok (.bipush 32, 2) := by decide +kernel
theorem dX12_init_455 : decode cX12_init 455 = .ok (.iastore, 1) := by decide +kernel
theorem dX12_init_456 : decode cX12_init 456 = .ok (.dup, 1) := by decide +kernel
theorem dX12_init_457 : decode cX12_init 457 = .ok (.bipush 38, 2) := by decide +kernel
theorem dX12_init_459 : decode cX12_init 459 = .ok (.bipush 42, 2) := by decide +kernel
theorem dX12_init_461 : decode cX12_init 461 = .ok (.iastore, 1) := by decide +kernel
theorem dX12_init_462 : decode cX12_init 462 = .ok (.dup, 1) := by decide +kernel
theorem dX12_init_463 : decode cX12_init 463 = .ok (.bipush 39, 2) := by decide +kernel
theorem dX12_init_465 : decode cX12_init 465 = .ok (.bipush 32, 2) := by decide +kernel
theorem dX12_init_467 : decode cX12_init 467 = .ok (.iastore, 1) := by decide +kernel
theorem dX12_init_468 : decode cX12_init 468 = .ok (.dup, 1) := by decide +kernel
theorem dX12_init_469 : decode cX12_init 469 = .ok (.bipush 40, 2) := by decide +kernel
theorem dX12_init_471 : decode cX12_init 471 = .ok (.bipush 53, 2) := by decide +kernel
theorem dX12_init_473 : decode cX12_init 473 = .ok (.iastore, 1) := by decide +kernel
theorem dX12_init_474 : decode cX12_init 474 = .ok (.dup, 1) := by decide +kernel
theorem dX12_init_475 : decode cX12_init 475 = .ok (.bipush 41, 2) := by decide +kernel
theorem dX12_init_477 : decode cX12_init 477 = .ok (.bipush 32, 2) := by decide +kernel
theorem dX12_init_479 : decode cX12_init 479 = .ok (.iastore, 1) := by decide +kernel
theorem dX12_init_480 : decode cX12_init 480 = .ok (.dup, 1) := by decide +kernel
theorem dX12_init_481 : decode cX12_init 481 = .ok (.bipush 42, 2) := by decide +kernel
theorem dX12_init_483 : decode cX12_init 483 = .ok (.bipush 59, 2) := by decide +kernel
theorem dX12_init_485 : decode cX12_init 485 = .ok (.iastore, 1) := by decide +kernel
theorem dX12_init_486 : decode cX12_init 486 = .ok (.dup, 1) := by decide +kernel
theorem dX12_init_487 : decode cX12_init 487 = .ok (.bipush 43, 2) := by decide +kernel
theorem dX12_init_489 : decode cX12_init 489 = .ok (.bipush 32, 2) := by decide +kernel
theorem dX12_init_491 : decode cX12_init 491 = .ok (.iastore, 1) := by decide +kernel
theorem dX12_init_492 : decode cX12_init 492 = .ok (.dup, 1) := by decide +kernel
theorem dX12_init_493 : decode cX12_init 493 = .ok (.bipush 44, 2) := by decide +kernel
theorem dX12_init_495 : decode cX12_init 495 = .ok (.bipush 109, 2) := by decide +kernel
theorem dX12_init_497 : decode cX12_init 497 = .ok (.iastore, 1) := by decide +kernel
theorem dX12_init_498 : decode cX12_init 498 = .ok (.dup, 1) := by decide +kernel
theorem dX12_init_499 : decode cX12_init 499 = .ok (.bipush 45, 2) := by decide +kernel
theorem dX12_init_501 : decode cX12_init 501 = .ok (.bipush 105, 2) := by decide +kernel
theorem dX12_init_503 : decode cX12_init 503 = .ok (.iastore, 1) := by decide +kernel
theorem dX12_init_504 : decode cX12_init 504 = .ok (.dup, 1) := by decide +kernel
theorem dX12_init_505 : decode cX12_init 505 = .ok (.bipush 46, 2) := by decide +kernel
theorem dX12_init_507 : decode cX12_init 507 = .ok (.bipush 110, 2) := by decide +kernel
theorem dX12_init_509 : decode cX12_init 509 = .ok (.iastore, 1) := by decide +kernel
theorem dX12_init_510 : decode cX12_init 510 = .ok (.dup, 1) := by decide +kernel
theorem dX12_init_511 : decode cX12_init 511 = .ok (.bipush 47, 2) := by decide +kernel
theorem dX12_init_513 : decode cX12_init 513 = .ok (.bipush 100, 2) := by decide +kernel
theorem dX12_init_515 : decode cX12_init 515 = .ok (.iastore, 1) := by decide +kernel
theorem dX12_init_516 : decode cX12_init 516 = .ok (.dup, 1) := by decide +kernel
theorem dX12_init_517 : decode cX12_init 517 = .ok (.bipush 48, 2) := by decide +kernel
theorem dX12_init_519 : decode cX12_init 519 = .ok (.bipush 115, 2) := by decide +kernel
theorem dX12_init_521 : decode cX12_init 521 = .ok (.iastore, 1) := by decide +kernel
theorem dX12_init_522 : decode cX12_init 522 = .ok (.dup, 1) := by decide +kernel
theorem dX12_init_523 : decode cX12_init 523 = .ok (.bipush 49, 2) := by decide +kernel
theorem dX12_init_525 : decode cX12_init 525 = .ok (.bipush 32, 2) := by decide +kernel
theorem dX12_init_527 : decode cX12_init 527 = .ok (.iastore, 1) := by decide +kernel
theorem dX12_init_528 : decode cX12_init 528 = .ok (.dup, 1) := by decide +kernel
theorem dX12_init_529 : decode cX12_init 529 = .ok (.bipush 50, 2) := by decide +kernel
theorem dX12_init_531 : decode cX12_init 531 = .ok (.bipush 49, 2) := by decide +kernel
theorem dX12_init_533 : decode cX12_init 533 = .ok (.iastore, 1) := by decide +kernel
theorem dX12_init_534 : decode cX12_init 534 = .ok (.dup, 1) := by decide +kernel
theorem dX12_init_535 : decode cX12_init 535 = .ok (.bipush 51, 2) := by decide +kernel
theorem dX12_init_537 : decode cX12_init 537 = .ok (.bipush 32, 2) := by decide +kernel
theorem dX12_init_539 : decode cX12_init 539 = .ok (.iastore, 1) := by decide +kernel
theorem dX12_init_540 : decode cX12_init 540 = .ok (.dup, 1) := by decide +kernel
theorem dX12_init_541 : decode cX12_init 541 = .ok (.bipush 52, 2) := by decide +kernel
theorem dX12_init_543 : decode cX12_init 543 = .ok (.bipush 59, 2) := by decide +kernel
theorem dX12_init_545 : decode cX12_init 545 = .ok (.iastore, 1) := by decide +kernel
theorem dX12_init_546 : decode cX12_init 546 = .ok (.putfield 56, 3) := by decide +kernel
theorem dX12_init_549 : decode cX12_init 549 = .ok (.aload_n 0, 1) := by decide +kernel
theorem dX12_init_550 : decode cX12_init 550 = .ok (.bipush 96, 2) := by decide +kernel
theorem dX12_init_552 : decode cX12_init 552 = .ok (.newarray .int, 2) := by decide +kernel
theorem dX12_init_554 : decode cX12_init 554 = .ok (.dup, 1) := by decide +kernel
theorem dX12_init_555 : decode cX12_init 555 = .ok (.iconst 0, 1) := by decide +kernel
theorem dX12_init_556 : decode cX12_init 556 = .ok (.bipush 98, 2) := by decide +kernel
theorem dX12_init_558 : decode cX12_init 558 = .ok (.iastore, 1) := by decide +kernel
theorem dX12_init_559 : decode cX12_init 559 = .ok (.dup, 1) := by decide +kernel
theorem dX12_init_560 : decode cX12_init 560 = .ok (.iconst 1, 1) := by decide +kernel
theorem dX12_init_561 : decode cX12_init 561 = .ok (.bipush 114, 2) := by decide +kernel
theorem dX12_init_563 : decode cX12_init 563 = .ok (.iastore, 1) := by decide +kernel
theorem dX12_init_564 : decode cX12_init 564 = .ok (.dup, 1) := by decide +kernel
theorem dX12_init_565 : decode cX12_init 565 = .ok (.iconst 2, 1) := by decide +kernel
theorem dX12_init_566 : decode cX12_init 566 = .ok (.bipush 111, 2) := by decide +kernel
theorem dX12_init_568 : decode cX12_init 568 = .ok (.iastore, 1) := by decide +kernel
theorem dX12_init_569 : decode cX12_init 569 = .ok (.dup, 1) := by decide +kernel
theorem dX12_init_570 : decode cX12_init 570 = .ok (.iconst 3, 1) := by decide +kernel
theorem dX12_init_571 : decode cX12_init 571 = .ok (.bipush 119, 2) := by decide +kernel
theorem dX12_init_573 : decode cX12_init 573 = .ok (.iastore, 1) := by decide +kernel
theorem dX12_init_574 : decode cX12_init 574 = .ok (.dup, 1) := by decide +kernel
theorem dX12_init_575 : decode cX12_init 575 = .ok (.iconst 4, 1) := by decide +kernel
theorem dX12_init_576 : decode cX12_init 576 = .ok (.bipush 110, 2) := by decide +kernel
theorem dX12_init_578 : decode cX12_init 578 = .ok (.iastore, 1) := by decide +kernel
theorem dX12_init_579 : decode cX12_init 579 = .ok (.dup, 1) := by decide +kernel
theorem dX12_init_580 : decode cX12_init 580 = .ok (.iconst 5, 1) := by decide +kernel
theorem dX12_init_581 : decode cX12_init 581 = .ok (.bipush 115, 2) := by decide +kernel
theorem dX12_init_583 : decode cX12_init 583 = .ok (.iastore, 1) := by decide +kernel
theorem dX12_init_584 : decode cX12_init 584 = .ok (.dup, 1) := by decide +kernel
theorem dX12_init_585 : decode cX12_init 585 = .ok (.bipush 6, 2) := by decide +kernel
theorem dX12_init_587 : decode cX12_init 587 = .ok (.bipush 32, 2) := by decide +kernel
theorem dX12_init_589 : decode cX12_init 589 = .ok (.iastore, 1) := by decide +kernel
theorem dX12_init_590 : decode cX12_init 590 = .ok (.dup, 1) := by decide +kernel
theorem dX12_init_591 : decode cX12_init 591 = .ok (.bipush 7, 2) := by decide +kernel
theorem dX12_init_593 : decode cX12_init 593 = .ok (.bipush 32, 2) := by decide +kernel
theorem dX12_init_595 : decode cX12_init 595 = .ok (.iastore, 1) := by decide +kernel
theorem dX12_init_596 : decode cX12_init 596 = .ok (.dup, 1) := by decide +kernel
theorem dX12_init_597 : decode cX12_init 597 = .ok (.bipush 8, 2) := by decide +kernel
theorem dX12_init_599 : decode cX12_init 599 = .ok (.bipush 99, 2) := by decide +kernel
theorem dX12_init_601 : decode cX12_init 601 = .ok (.iastore, 1) := by decide +kernel
theorem dX12_init_602 : decode cX12_init 602 = .ok (.dup, 1) := by decide +kernel
theorem dX12_init_603 : decode cX12_init 603 = .ok (.bipush 9, 2) := by decide +kernel
theorem dX12_init_605 : decode cX12_init 605 = .ok (.bipush 111, 2) := by decide +kernel
theorem dX12_init_607 : decode cX12_init 607 = .ok (.iastore, 1) := by decide +kernel
theorem dX12_init_608 : decode cX12_init 608 = .ok (.dup, 1) := by decide +kernel
theorem dX12_init_609 : decode cX12_init 609 = .ok (.bipush 10, 2) := by decide +kernel
theorem dX12_init_611 : decode cX12_init 611 = .ok (.bipush 111, 2) := by decide +kernel
theorem dX12_init_613 : decode cX12_init 613 = .ok (.iastore, 1) := by decide +kernel
theorem dX12_init_614 : decode cX12_init 614 = .ok (.dup, 1) := by decide +kernel
theorem dX12_init_615 : decode cX12_init 615 = .ok (.bipush 11, 2) := by decide +kernel
theorem dX12_init_617 : decode cX12_init 617 = .ok (.bipush 108, 2) := by decide +kernel
theorem dX12_init_619 : decode cX12_init 619 = .ok (.iastore, 1) := by decide +kernel
theorem dX12_init_620 : decode cX12_init 620 = .ok (.dup, 1) := by decide +kernel
theorem dX12_init_621 : decode cX12_init 621 = .ok (.bipush 12, 2) := by decide +kernel
theorem dX12_init_623 : decode cX12_init 623 = .ok (.bipush 115, 2) := by decide +kernel
theorem dX12_init_625 : decode cX12_init 625 = .ok (.iastore, 1) := by decide +kernel
theorem dX12_init_626 : decode cX12_init 626 = .ok (.dup, 1) := by decide +kernel
theorem dX12_init_627 : decode cX12_init 627 = .ok (.bipush 13, 2) := by decide +kernel
theorem dX12_init_629 : decode cX12_init 629 = .ok (.bipush 32, 2) := by decide +kernel
theorem dX12_init_631 : decode cX12_init 631 = .ok (.iastore, 1) := by decide +kernel
theorem dX12_init_632 : decode cX12_init 632 = .ok (.dup, 1) := by decide +kernel
theorem dX12_init_633 : decode cX12_init 633 = .ok (.bipush 14, 2) := by decide +kernel
theorem dX12_init_635 : decode cX12_init 635 = .ok (.bipush 32, 2) := by decide +kernel
theorem dX12_init_637 : decode cX12_init 637 = .ok (.iastore, 1) := by decide +kernel
theorem dX12_init_638 : decode cX12_init 638 = .ok (.dup, 1) := by decide +kernel
theorem dX12_init_639 : decode cX12_init 639 = .ok (.bipush 15, 2) := by decide +kernel
theorem dX12_init_641 : decode cX12_init 641 = .ok (.bipush 32, 2) := by decide +kernel
theorem dX12_init_643 : decode cX12_init 643 = .ok (.iastore, 1) := by decide +kernel
theorem dX12_init_644 : decode cX12_init 644 = .ok (.dup, 1) := by decide +kernel
theorem dX12_init_645 : decode cX12_init 645 = .ok (.bipush 16, 2) := by decide +kernel
theorem dX12_init_647 : decode cX12_init 647 = .ok (.bipush 109, 2) := by decide +kernel
theorem dX12_init_649 : decode cX12_init 649 = .ok (.iastore, 1) := by decide +kernel
theorem dX12_init_650 : decode cX12_init 650 = .ok (.dup, 1) := by decide +kernel
theorem dX12_init_651 : decode cX12_init 651 = .ok (.bipush 17, 2) := by decide +kernel
theorem dX12_init_653 : decode cX12_init 653 = .ok (.bipush 105, 2) := by decide +kernel
theorem dX12_init_655 : decode cX12_init 655 = .ok (.iastore, 1) := by decide +kernel
theorem dX12_init_656 : decode cX12_init 656 = .ok (.dup, 1) := by decide +kernel
theorem dX12_init_657 : decode cX12_init 657 = .ok (.bipush 18, 2) := by decide +kernel
theorem dX12_init_659 : decode cX12_init 659 = .ok (.bipush 110, 2) := by decide +kernel
theorem dX12_init_661 : decode cX12_init 661 = .ok (.iastore, 1) := by decide +kernel
theorem dX12_init_662 : decode cX12_init 662 = .ok (.dup, 1) := by decide +kernel
theorem dX12_init_663 : decode cX12_init 663 = .ok (.bipush 19, 2) := by decide +kernel
theorem dX12_init_665 : decode cX12_init 665 = .ok (.bipush 100, 2) := by decide +kernel
theorem dX12_init_667 : decode cX12_init 667 = .ok (.iastore, 1) := by decide +kernel
theorem dX12_init_668 : decode cX12_init 668 = .ok (.dup, 1) := by decide +kernel
theorem dX12_init_669 : decode cX12_init 669 = .ok (.bipush 20, 2) := by decide +kernel
theorem dX12_init_671 : decode cX12_init 671 = .ok (.bipush 115, 2) := by decide +kernel
theorem dX12_init_673 : decode cX12_init 673 = .ok (.iastore, 1) := by decide +kernel
theorem dX12_init_674 : decode cX12_init 674 = .ok (.dup, 1) := by decide +kernel
theorem dX12_init_675 : decode cX12_init 675 = .ok (.bipush 21, 2) := by decide +kernel
theorem dX12_init_677 : decode cX12_init 677 = .ok (.bipush 32, 2) := by decide +kernel
theorem dX12_init_679 : decode cX12_init 679 = .ok (.iastore, 1) := by decide +kernel
theorem dX12_init_680 : decode cX12_init 680 = .ok (.dup, 1) := by decide +kernel
theorem dX12_init_681 : decode cX12_init 681 = .ok (.bipush 22, 2) := by decide +kernel
theorem dX12_init_683 : decode cX12_init 683 = .ok (.bipush 32, 2) := by decide +kernel
theorem dX12_init_685 : decode cX12_init 685 = .ok (.iastore, 1) := by decide +kernel
theorem dX12_init_686 : decode cX12_init 686 = .ok (.dup, 1) := by decide +kernel
theorem dX12_init_687 : decode cX12_init 687 = .ok (.bipush 23, 2) := by decide +kernel
theorem dX12_init_689 : decode cX12_init 689 = .ok (.bipush 32, 2) := by decide +kernel
theorem dX12_init_691 : decode cX12_init 691 = .ok (.iastore, 1) := by decide +kernel
theorem dX12_init_692 : decode cX12_init 692 = .ok (.dup, 1) := by decide +kernel
theorem dX12_init_693 : decode cX12_init 693 = .ok (.bipush 24, 2) := by decide +kernel
theorem dX12_init_695 : decode cX12_init 695 = .ok (.bipush 104, 2) := by decide +kernel
theorem dX12_init_697 : decode cX12_init 697 = .ok (.iastore, 1) := by decide +kernel
theorem dX12_init_698 : decode cX12_init 698 = .ok (.dup, 1) := by decide +kernel
theorem dX12_init_699 : decode cX12_init 699 = .ok (.bipush 25, 2) := by decide +kernel
theorem dX12_init_701 : decode cX12_init 701 = .ok (.bipush 101, 2) := by decide +kernel
theorem dX12_init_703 : decode cX12_init 703 = .ok (.iastore, 1) := by decide +kernel
theorem dX12_init_704 : decode cX12_init 704 = .ok (.dup, 1) := by decide +kernel
theorem dX12_init_705 : decode cX12_init 705 = .ok (.bipush 26, 2) := by decide +kernel
theorem dX12_init_707 : decode cX12_init 707 = .ok (.bipush 97, 2) := by decide +kernel
theorem dX12_init_709 : decode cX12_init 709 = .ok (.iastore, 1) := by decide +kernel
theorem dX12_init_710 : decode cX12_init 710 = .ok (.dup, 1) := by decide +kernel
theorem dX12_init_711 : decode cX12_init 711 = .ok (.bipush 27, 2) := by decide +kernel
theorem dX12_init_713 : decode cX12_init 713 = .ok (.bipush 116, 2) := by decide +kernel
theorem dX12_init_715 : decode cX12_init 715 = .ok (.iastore, 1) := by decide +kernel
theorem dX12_init_716 : decode cX12_init 716 = .ok (.dup, 1) := by decide +kernel
theorem dX12_init_717 : decode cX12_init 717 = .ok (.bipush 28, 2) := by decide +kernel
theorem dX12_init_719 : decode cX12_init 719 = .ok (.bipush 32, 2) := by decide +kernel
theorem dX12_init_721 : decode cX12_init 721 = .ok (.iastore, 1) := by decide +kernel
theorem dX12_init_722 : decode cX12_init 722 = .ok (.dup, 1) := by decide +kernel
theorem dX12_init_723 : decode cX12_init 723 = .ok (.bipush 29, 2) := by decide +kernel
theorem dX12_init_725 : decode cX12_init 725 = .ok (.bipush 32, 2) := by decide +kernel
theorem dX12_init_727 : decode cX12_init 727 = .ok (.iastore, 1) := by decide +kernel
theorem dX12_init_728 : decode cX12_init 728 = .ok (.dup, 1) := by decide +kernel
theorem dX12_init_729 : decode cX12_init 729 = .ok (.bipush 30, 2) := by decide +kernel
theorem dX12_init_731 : decode cX12_init 731 = .ok (.bipush 32, 2) := by decide +kernel
theorem dX12_init_733 : decode cX12_init 733 = .ok (.iastore, 1) := by decide +kernel
theorem dX12_init_734 : decode cX12_init 734 = .ok (.dup, 1) := by decide +kernel
theorem dX12_init_735 : decode cX12_init 735 = .ok (.bipush 31, 2) := by decide +kernel
theorem dX12_init_737 : decode cX12_init 737 = .ok (.bipush 32, 2) := by decide +kernel
theorem dX12_init_739 : decode cX12_init 739 = .ok (.iastore, 1) := by decide +kernel
theorem dX12_init_740 : decode cX12_init 740 = .ok (.dup, 1) := by decide +kernel
theorem dX12_init_741 : decode cX12_init 741 = .ok (.bipush 32, 2) := by decide +kernel
theorem dX12_init_743 : decode cX12_init 743 = .ok (.bipush 109, 2) := by decide +kernel
theorem dX12_init_745 : decode cX12_init 745 = .ok (.iastore, 1) := by decide +kernel
theorem dX12_init_746 : decode cX12_init 746 = .ok (.dup, 1) := by decide +kernel
theorem dX12_init_747 : decode cX12_init 747 = .ok (.bipush 33, 2) := by decide +kernel
theorem dX12_init_749 : decode cX12_init 749 = .ok (.bipush 105, 2) := by decide +kernel
theorem dX12_init_751 : decode cX12_init 751 = .ok (.iastore, 1) := by decide +kernel
theorem dX12_init_752 : decode cX12_init 752 = .ok (.dup, 1) := by decide +kernel
theorem dX12_init_753 : decode cX12_init 753 = .ok (.bipush 34, 2) := by decide +kernel
theorem dX12_init_755 : decode cX12_init 755 = .ok (.bipush 110, 2) := by decide +kernel
theorem dX12_init_757 : decode cX12_init 757 = .ok (.iastore, 1) := by decide +kernel
theorem dX12_init_758 : decode cX12_init 758 = .ok (.dup, 1) := by decide +kernel
theorem dX12_init_759 : decode cX12_init 759 = .ok (.bipush 35, 2) := by decide +kernel
theorem dX12_init_761 : decode cX12_init 761 = .ok (.bipush 117, 2) := by decide +kernel
theorem dX12_init_763 : decode cX12_init 763 = .ok (.iastore, 1) := by decide +kernel
theorem dX12_init_764 : decode cX12_init 764 = .ok (.dup, 1) := by decide +kernel
theorem dX12_init_765 : decode cX12_init 765 = .ok (.bipush 36, 2) := by decide +kernel
theorem dX12_init_767 : decode cX12_init 767 = .ok (.bipush 116, 2) := by decide +kernel
theorem dX12_init_769 : decode cX12_init 769 = .ok (.iastore, 1) := by decide +kernel
theorem dX12_init_770 : decode cX12_init 770 = .ok (.dup, 1) := by decide +kernel
theorem dX12_init_771 : decode cX12_init 771 = .ok (.bipush 37, 2) := by decide +kernel
theorem dX12_init_773 : decode cX12_init 773 = .ok (.bipush 101, 2) := by decide +kernel
theorem dX12_init_775 : decode cX12_init 775 = .ok (.iastore, 1) := by decide +kernel
theorem dX12_init_776 : decode cX12_init 776 = .ok (.dup, 1) := by decide +kernel
theorem dX12_init_777 : decode cX12_init 777 = .ok (.bipush 38, 2) := by decide +kernel
theorem dX12_init_779 : decode cX12_init 779 = .ok (.bipush 32, 2) := by decide +kernel
theorem dX12_init_781 : decode cX12_init 781 = .ok (.iastore, 1) := by decide +kernel
theorem dX12_init_782 : decode cX12_init 782 = .ok (.dup, 1) := by decide +kernel
theorem dX12_init_783 : decode cX12_init 783 = .ok (.bipush 39, 2) := by decide +kernel
theorem dX12_init_785 : decode cX12_init 785 = .ok (.bipush 32, 2) := by decide +kernel
theorem dX12_init_787 : decode cX12_init 787 = .ok (.iastore, 1) := by decide +kernel
theorem dX12_init_788 : decode cX12_init 788 = .ok (.dup, 1) := by decide +kernel
theorem dX12_init_789 : decode cX12_init 789 = .ok (.bipush 40, 2) := by decide +kernel
theorem dX12_init_791 : decode cX12_init 791 = .ok (.bipush 98, 2) := by decide +kernel
theorem dX12_init_793 : decode cX12_init 793 = .ok (.iastore, 1) := by decide +kernel
theorem dX12_init_794 : decode cX12_init 794 = .ok (.dup, 1) := by decide +kernel
theorem dX12_init_795 : decode cX12_init 795 = .ok (.bipush 41, 2) := by decide +kernel
theorem dX12_init_797 : decode cX12_init 797 = .ok (.bipush 114, 2) := by decide +kernel
theorem dX12_init_799 : decode cX12_init 799 = .ok (.iastore, 1) := by decide +kernel
theorem dX12_init_800 : decode cX12_init 800 = .ok (.dup, 1) := by decide +kernel
theorem dX12_init_801 : decode cX12_init 801 = .ok (.bipush 42, 2) := by decide +kernel
theorem dX12_init_803 : decode cX12_init 803 = .ok (.bipush 111, 2) := by decide +kernel
theorem dX12_init_805 : decode cX12_init 805 = .ok (.iastore, 1) := by decide +kernel
theorem dX12_init_806 : decode cX12_init 806 = .ok (.dup, 1) := by decide +kernel
theorem dX12_init_807 : decode cX12_init 807 = .ok (.bipush 43, 2) := by decide +kernel
theorem dX12_init_809 : decode cX12_init 809 = .ok (.bipush 119, 2) := by decide +kernel
theorem dX12_init_811 : decode cX12_init 811 = .ok (.iastore, 1) := by decide +kernel
theorem dX12_init_812 : decode cX12_init 812 = .ok (.dup, 1) := by decide +kernel
theorem dX12_init_813 : decode cX12_init 813 = .ok (.bipush 44, 2) := by decide +kernel
theorem dX12_init_815 : decode cX12_init 815 = .ok (.bipush 110, 2) := by decide +kernel
theorem dX12_init_817 : decode cX12_init 817 = .ok (.iastore, 1) := by decide +kernel
theorem dX12_init_818 : decode cX12_init 818 = .ok (.dup, 1) := by decide +kernel
theorem dX12_init_819 : decode cX12_init 819 = .ok (.bipush 45, 2) := by decide +kernel
theorem dX12_init_821 : decode cX12_init 821 = .ok (.bipush 32, 2) := by decide +kernel
theorem dX12_init_823 : decode cX12_init 823 = .ok (.iastore, 1) := by decide +kernel
theorem dX12_init_824 : decode cX12_init 824 = .ok (.dup, 1) := by decide +kernel
theorem dX12_init_825 : decode cX12_init 825 = .ok (.bipush 46, 2) := by decide +kernel
theorem dX12_init_827 : decode cX12_init 827 = .ok (.bipush 32, 2) := by decide +kernel
theorem dX12_init_829 : decode cX12_init 829 = .ok (.iastore, 1) := by decide +kernel
theorem dX12_init_830 : decode cX12_init 830 = .ok (.dup, 1) := by decide +kernel
theorem dX12_init_831 : decode cX12_init 831 = .ok (.bipush 47, 2) := by decide +kernel
theorem dX12_init_833 : decode cX12_init 833 = .ok (.bipush 32, 2) := by decide +kernel
theorem dX12_init_835 : decode cX12_init 835 = .ok (.iastore, 1) := by decide +kernel
theorem dX12_init_836 : decode cX12_init 836 = .ok (.dup, 1) := by decide +kernel
theorem dX12_init_837 : decode cX12_init 837 = .ok (.bipush 48, 2) := by decide +kernel
theorem dX12_init_839 : decode cX12_init 839 = .ok (.bipush 109, 2) := by decide +kernel
theorem dX12_init_841 : decode cX12_init 841 = .ok (.iastore, 1) := by decide +kernel
theorem dX12_init_842 : decode cX12_init 842 = .ok (.dup, 1) := by decide +kernel
theorem dX12_init_843 : decode cX12_init 843 = .ok (.bipush 49, 2) := by decide +kernel
theorem dX12_init_845 : decode cX12_init 845 = .ok (.bipush 111, 2) := by decide +kernel
theorem dX12_init_847 : decode cX12_init 847 = .ok (.iastore, 1) := by decide +kernel
theorem dX12_init_848 : decode cX12_init 848 = .ok (.dup, 1) := by decide +kernel
theorem dX12_init_849 : decode cX12_init 849 = .ok (.bipush 50, 2) := by decide +kernel
theorem dX12_init_851 : decode cX12_init 851 = .ok (.bipush 114, 2) := by decide +kernel
theorem dX12_init_853 : decode cX12_init 853 = .ok (.iastore, 1) := by decide +kernel
theorem dX12_init_854 : decode cX12_init 854 = .ok (.dup, 1) := by decide +kernel
theorem dX12_init_855 : decode cX12_init 855 = .ok (.bipush 51, 2) := by decide +kernel
theorem dX12_init_857 : decode cX12_init 857 = .ok (.bipush 101, 2) := by decide +kernel
theorem dX12_init_859 : decode cX12_init 859 = .ok (.iastore, 1) := by decide +kernel
theorem dX12_init_860 : decode cX12_init 860 = .ok (.dup, 1) := by decide +kernel
theorem dX12_init_861 : decode cX12_init 861 = .ok (.bipush 52, 2) := by decide +kernel
theorem dX12_init_863 : decode cX12_init 863 = .ok (.bipush 32, 2) := by decide +kernel
theorem dX12_init_865 : decode cX12_init 865 = .ok (.iastore, 1) := by decide +kernel
theorem dX12_init_866 : decode cX12_init 866 = .ok (.dup, 1) := by decide +kernel
theorem dX12_init_867 : decode cX12_init 867 = .ok (.bipush 53, 2) := by decide +kernel
theorem dX12_init_869 : decode cX12_init 869 = .ok (.bipush 32, 2) := by decide +kernel
theorem dX12_init_871 : decode cX12_init 871 = .ok (.iastore, 1) := by decide +kernel
theorem dX12_init_872 : decode cX12_init 872 = .ok (.dup, 1) := by decide +kernel
theorem dX12_init_873 : decode cX12_init 873 = .ok (.bipush 54, 2) := by decide +kernel
theorem dX12_init_875 : decode cX12_init 875 = .ok (.bipush 32, 2) := by decide +kernel
theorem dX12_init_877 : decode cX12_init 877 = .ok (.iastore, 1) := by decide +kernel
theorem dX12_init_878 : decode cX12_init 878 = .ok (.dup, 1) := by decide +kernel
theorem dX12_init_879 : decode cX12_init 879 = .ok (.bipush 55, 2) := by decide +kernel
theorem dX12_init_881 : decode cX12_init 881 = .ok (.bipush 32, 2) := by decide +kernel
theorem dX12_init_883 : decode cX12_init 883 = .ok (.iastore, 1) := by decide +kernel
theorem dX12_init_884 : decode cX12_init 884 = .ok (.dup, 1) := by decide +kernel
theorem dX12_init_885 : decode cX12_init 885 = .ok (.bipush 56, 2) := by decide +kernel
theorem dX12_init_887 : decode cX12_init 887 = .ok (.bipush 115, 2) := by decide +kernel
theorem dX12_init_889 : decode cX12_init 889 = .ok (.iastore, 1) := by decide +kernel
theorem dX12_init_890 : decode cX12_init 890 = .ok (.dup, 1) := by decide +kernel
theorem dX12_init_891 : decode cX12_init 891 = .ok (.bipush 57, 2) := by decide +kernel
theorem dX12_init_893 : decode cX12_init 893 = .ok (.bipush 105, 2) := by decide +kernel
theorem dX12_init_895 : decode cX12_init 895 = .ok (.iastore, 1) := by decide +kernel
theorem dX12_init_896 : decode cX12_init 896 = .ok (.dup, 1) := by decide +kernel
theorem dX12_init_897 : decode cX12_init 897 = .ok (.bipush 58, 2) := by decide +kernel
theorem dX12_init_899 : decode cX12_init 899 = .ok (.bipush 110, 2) := by decide +kernel
theorem dX12_init_901 : decode cX12_init 901 = .ok (.iastore, 1) := by decide +kernel
theorem dX12_init_902 : decode cX12_init 902 = .ok (.dup, 1) := by decide +kernel
theorem dX12_init_903 : decode cX12_init 903 = .ok (.bipush 59, 2) := by decide +kernel
theorem dX12_init_905 : decode cX12_init 905 = .ok (.bipush 99, 2) := by decide +kernel
theorem dX12_init_907 : decode cX12_init 907 = .ok (.iastore, 1) := by decide +kernel
theorem dX12_init_908 : decode cX12_init 908 = .ok (.dup, 1) := by decide +kernel
theorem dX12_init_909 : decode cX12_init 909 = .ok (.bipush 60, 2) := by decide +kernel
theorem dX12_init_911 : decode cX12_init 911 = .ok (.bipush 101, 2) := by decide +kernel
theorem dX12_init_913 : decode cX12_init 913 = .ok (.iastore, 1) := by decide +kernel
theorem dX12_init_914 : decode cX12_init 914 = .ok (.dup, 1) := by decide +kernel
theorem dX12_init_915 : decode cX12_init 915 = .ok (.bipush 61, 2) := by decide +kernel
theorem dX12_init_917 : decode cX12_init 917 = .ok (.bipush 32, 2) := by decide +kernel
theorem dX12_init_919 : decode cX12_init 919 = .ok (.iastore, 1) := by decide +kernel
theorem dX12_init_920 : decode cX12_init 920 = .ok (.dup, 1) := by decide +kernel
theorem dX12_init_921 : decode cX12_init 921 = .ok (.bipush 62, 2) := by decide +kernel
theorem dX12_init_923 : decode cX12_init 923 = .ok (.bipush 32, 2) := by decide +kernel
theorem dX12_init_925 : decode cX12_init 925 = .ok (.iastore, 1) := by decide +kernel
theorem dX12_init_926 : decode cX12_init 926 = .ok (.dup, 1) := by decide +kernel
theorem dX12_init_927 : decode cX12_init 927 = .ok (.bipush 63, 2) := by decide +kernel
theorem dX12_init_929 : decode cX12_init 929 = .ok (.bipush 32, 2) := by decide +kernel
theorem dX12_init_931 : decode cX12_init 931 = .ok (.iastore, 1) := by decide +kernel
theorem dX12_init_932 : decode cX12_init 932 = .ok (.dup, 1) := by decide +kernel
theorem dX12_init_933 : decode cX12_init 933 = .ok (.bipush 64, 2) := by decide +kernel
theorem dX12_init_935 : decode cX12_init 935 = .ok (.bipush 111, 2) := by decide +kernel
theorem dX12_init_937 : decode cX12_init 937 = .ok (.iastore, 1) := by decide +kernel
theorem dX12_init_938 : decode cX12_init 938 = .ok (.dup, 1) := by decide +kernel
theorem dX12_init_939 : decode cX12_init 939 = .ok (.bipush 65, 2) := by decide +kernel
theorem dX12_init_941 : decode cX12_init 941 = .ok (.bipush 112, 2) := by decide +kernel
theorem dX12_init_943 : decode cX12_init 943 = .ok (.iastore, 1) := by decide +kernel
theorem dX12_init_944 : decode cX12_init 944 = .ok (.dup, 1) := by decide +kernel
theorem dX12_init_945 : decode cX12_init 945 = .ok (.bipush 66, 2) := by decide +kernel
theorem dX12_init_947 : decode cX12_init 947 = .ok (.bipush 101, 2) := by decide +kernel
theorem dX12_init_949 : decode cX12_init 949 = .ok (.iastore, 1) := by decide +kernel
theorem dX12_init_950 : decode cX12_init 950 = .ok (.dup, 1) := by decide +kernel
theorem dX12_init_951 : decode cX12_init 951 = .ok (.bipush 67, 2) := by decide +kernel
theorem dX12_init_953 : decode cX12_init 953 = .ok (.bipush 110, 2) := by decide +kernel
theorem dX12_init_955 : decode cX12_init 955 = .ok (.iastore, 1) := by decide +kernel
theorem dX12_init_956 : decode cX12_init 956 = .ok (.dup, 1) := by decide +kernel
theorem dX12_init_957 : decode cX12_init 957 = .ok (.bipush 68, 2) := by decide +kernel
theorem dX12_init_959 : decode cX12_init 959 = .ok (.bipush 105, 2) := by decide +kernel
theorem dX12_init_961 : decode cX12_init 961 = .ok (.iastore, 1) := by decide +kernel
theorem dX12_init_962 : decode cX12_init 962 = .ok (.dup, 1) := by decide +kernel
theorem dX12_init_963 : decode cX12_init 963 = .ok (.bipush 69, 2) := by decide +kernel
theorem dX12_init_965 : decode cX12_init 965 = .ok (.bipush 110, 2) := by decide +kernel
theorem dX12_init_967 : decode cX12_init 967 = .ok (.iastore, 1) := by decide +kernel
theorem dX12_init_968 : decode cX12_init 968 = .ok (.dup, 1) := by decide +kernel
theorem dX12_init_969 : decode cX12_init 969 = .ok (.bipush 70, 2) := by decide +kernel
theorem dX12_init_971 : decode cX12_init 971 = .ok (.bipush 103, 2) := by decide +kernel
theorem dX12_init_973 : decode cX12_init 973 = .ok (.iastore, 1) := by decide +kernel
theorem dX12_init_974 : decode cX12_init 974 = .ok (.dup, 1) := by decide +kernel
theorem dX12_init_975 : decode cX12_init 975 = .ok (.bipush 71, 2) := by decide +kernel
theorem dX12_init_977 : decode cX12_init 977 = .ok (.bipush 115, 2) := by decide +kernel
theorem dX12_init_979 : decode cX12_init 979 = .ok (.iastore, 1) := by decide +kernel
theorem dX12_init_980 : decode cX12_init 980 = .ok (.dup, 1) := by decide +kernel
theorem dX12_init_981 : decode cX12_init 981 = .ok (.bipush 72, 2) := by decide +kernel
theorem dX12_init_983 : decode cX12_init 983 = .ok (.bipush 111, 2) := by decide +kernel
theorem dX12_init_985 : decode cX12_init 985 = .ok (.iastore, 1) := by decide +kernel
theorem dX12_init_986 : decode cX12_init 986 = .ok (.dup, 1) := by decide +kernel
theorem dX12_init_987 : decode cX12_init 987 = .ok (.bipush 73, 2) := by decide +kernel
theorem dX12_init_989 : decode cX12_init 989 = .ok (.bipush 114, 2) := by decide +kernel
theorem dX12_init_991 : decode cX12_init 991 = .ok (.iastore, 1) := by decide +kernel
theorem dX12_init_992 : decode cX12_init 992 = .ok (.dup, 1) := by decide +kernel
theorem dX12_init_993 : decode cX12_init 993 = .ok (.bipush 74, 2) := by decide +kernel
theorem dX12_init_995 : decode cX12_init 995 = .ok (.bipush 32, 2) := by decide +kernel
theorem dX12_init_997 : decode cX12_init 997 = .ok (.iastore, 1) := by decide +kernel
theorem dX12_init_998 : decode cX12_init 998 = .ok (.dup, 1) := by decide +kernel
theorem dX12_init_999 : decode cX12_init 999 = .ok (.bipush 75, 2) := by decide +kernel
theorem dX12_init_1001 : decode cX12_init 1001 = .ok (.bipush 32, 2) := by decide +kernel
theorem dX12_init_1003 : decode cX12_init 1003 = .ok (.iastore, 1) := by decide +kernel
theorem dX12_init_1004 : decode cX12_init 1004 = .ok (.dup, 1) := by decide +kernel
theorem dX12_init_1005 : decode cX12_init 1005 = .ok (.bipush 76, 2) := by decide +kernel
theorem dX12_init_1007 : decode cX12_init 1007 = .ok (.bipush 32, 2) := by decide +kernel
theorem dX12_init_1009 : decode cX12_init 1009 = .ok (.iastore, 1) := by decide +kernel
theorem dX12_init_1010 : decode cX12_init 1010 = .ok (.dup, 1) := by decide +kernel
theorem dX12_init_1011 : decode cX12_init 1011 = .ok (.bipush 77, 2) := by decide +kernel
theorem dX12_init_1013 : decode cX12_init 1013 = .ok (.bipush 32, 2) := by decide +kernel
theorem dX12_init_1015 : decode cX12_init 1015 = .ok (.iastore, 1) := by decide +kernel
theorem dX12_init_1016 : decode cX12_init 1016 = .ok (.dup, 1) := by decide +kernel
theorem dX12_init_1017 : decode cX12_init 1017 = .ok (.bipush 78, 2) := by decide +kernel
theorem dX12_init_1019 : decode cX12_init 1019 = .ok (.bipush 32, 2) := by decide +kernel
theorem dX12_init_1021 : decode cX12_init 1021 = .ok (.iastore, 1) := by decide +kernel
theorem dX12_init_1022 : decode cX12_init 1022 = .ok (.dup, 1) := by decide +kernel
theorem dX12_init_1023 : decode cX12_init 1023 = .ok (.bipush 79, 2) := by decide +kernel
theorem dX12_init_1025 : decode cX12_init 1025 = .ok (.bipush 32, 2) := by decide +kernel
theorem dX12_init_1027 : decode cX12_init 1027 = .ok (.iastore, 1) := by decide +kernel
theorem dX12_init_1028 : decode cX12_init 1028 = .ok (.dup, 1) := by decide +kernel
theorem dX12_init_1029 : decode cX12_init 1029 = .ok (.bipush 80, 2) := by decide +kernel
theorem dX12_init_1031 : decode cX12_init 1031 = .ok (.bipush 97, 2) := by decide +kernel
theorem dX12_init_1033 : decode cX12_init 1033 = .ok (.iastore, 1) := by decide +kernel
theorem dX12_init_1034 : decode cX12_init 1034 = .ok (.dup, 1) := by decide +kernel
theorem dX12_init_1035 : decode cX12_init 1035 = .ok (.bipush 81, 2) := by decide +kernel
theorem dX12_init_1037 : decode cX12_init 1037 = .ok (.bipush 110, 2) := by decide +kernel
theorem dX12_init_1039 : decode cX12_init 1039 = .ok (.iastore, 1) := by decide +kernel
theorem dX12_init_1040 : decode cX12_init 1040 = .ok (.dup, 1) := by decide +kernel
theorem dX12_init_1041 : decode cX12_init 1041 = .ok (.bipush 82, 2) := by decide +kernel
theorem dX12_init_1043 : decode cX12_init 1043 = .ok (.bipush 100, 2) := by decide +kernel
theorem dX12_init_1045 : decode cX12_init 1045 = .ok (.iastore, 1) := by decide +kernel
theorem dX12_init_1046 : decode cX12_init 1046 = .ok (.dup, 1) := by decide +kernel
theorem dX12_init_1047 : decode cX12_init 1047 = .ok (.bipush 83, 2) := by decide +kernel
theorem dX12_init_1049 : decode cX12_init 1049 = .ok (.bipush 32, 2) := by decide +kernel
theorem dX12_init_1051 : decode cX12_init 1051 = .ok (.iastore, 1) := by decide +kernel
theorem dX12_init_1052 : decode cX12_init 1052 = .ok (.dup, 1) := by decide +kernel
theorem dX12_init_1053 : decode cX12_init 1053 = .ok (.bipush 84, 2) := by decide +kernel
theorem dX12_init_1055 : decode cX12_init 1055 = .ok (.bipush 32, 2) := by decide +kernel
theorem dX12_init_1057 : decode cX12_init 1057 = .ok (.iastore, 1) := by decide +kernel
theorem dX12_init_1058 : decode cX12_init 1058 = .ok (.dup, 1) := by decide +kernel
theorem dX12_init_1059 : decode cX12_init 1059 = .ok (.bipush 85, 2) := by decide +kernel
theorem dX12_init_1061 : decode cX12_init 1061 = .ok (.bipush 32, 2) := by decide +kernel
theorem dX12_init_1063 : decode cX12_init 1063 = .ok (.iastore, 1) := by decide +kernel
theorem dX12_init_1064 : decode cX12_init 1064 = .ok (.dup, 1) := by decide +kernel
theorem dX12_init_1065 : decode cX12_init 1065 = .ok (.bipush 86, 2) := by decide +kernel
theorem dX12_init_1067 : decode cX12_init 1067 = .ok (.bipush 32, 2) := by decide +kernel
theorem dX12_init_1069 : decode cX12_init 1069 = .ok (.iastore, 1) := by decide +kernel
theorem dX12_init_1070 : decode cX12_init 1070 = .ok (.dup, 1) := by decide +kernel
theorem dX12_init_1071 : decode cX12_init 1071 = .ok (.bipush 87, 2) := by decide +kernel
theorem dX12_init_1073 : decode cX12_init 1073 = .ok (.bipush 32, 2) := by decide +kernel
theorem dX12_init_1075 : decode cX12_init 1075 = .ok (.iastore, 1) := by decide +kernel
theorem dX12_init_1076 : decode cX12_init 1076 = .ok (.dup, 1) := by decide +kernel
theorem dX12_init_1077 : decode cX12_init 1077 = .ok (.bipush 88, 2) := by decide +kernel
theorem dX12_init_1079 : decode cX12_init 1079 = .ok (.bipush 110, 2) := by decide +kernel
theorem dX12_init_1081 : decode cX12_init 1081 = .ok (.iastore, 1) := by decide +kernel
theorem dX12_init_1082 : decode cX12_init 1082 = .ok (.dup, 1) := by decide +kernel
theorem dX12_init_1083 : decode cX12_init 1083 = .ok (.bipush 89, 2) := by decide +kernel
theorem dX12_init_1085 : decode cX12_init 1085 = .ok (.bipush 111, 2) := by decide +kernel
theorem dX12_init_1087 : decode cX12_init 1087 = .ok (.iastore, 1) := by decide +kernel
theorem dX12_init_1088 : decode cX12_init 1088 = .ok (.dup, 1) := by decide +kernel
theorem dX12_init_1089 : decode cX12_init 1089 = .ok (.bipush 90, 2) := by decide +kernel
theorem dX12_init_1091 : decode cX12_init 1091 = .ok (.bipush 116, 2) := by decide +kernel
theorem dX12_init_1093 : decode cX12_init 1093 = .ok (.iastore, 1) := by decide +kernel
theorem dX12_init_1094 : decode cX12_init 1094 = .ok (.dup, 1) := by decide +kernel
theorem dX12_init_1095 : decode cX12_init 1095 = .ok (.bipush 91, 2) := by decide +kernel
theorem dX12_init_1097 : decode cX12_init 1097 = .ok (.bipush 32, 2) := by decide +kernel
theorem dX12_init_1099 : decode cX12_init 1099 = .ok (.iastore, 1) := by decide +kernel
theorem dX12_init_1100 : decode cX12_init 1100 = .ok (.dup, 1) := by decide +kernel
theorem dX12_init_1101 : decode cX12_init 1101 = .ok (.bipush 92, 2) := by decide +kernel
theorem dX12_init_1103 : decode cX12_init 1103 = .ok (.bipush 32, 2) := by decide +kernel
theorem dX12_init_1105 : decode cX12_init 1105 = .ok (.iastore, 1) := by decide +kernel
theorem dX12_init_1106 : decode cX12_init 1106 = .ok (.dup, 1) := by decide +kernel
theorem dX12_init_1107 : decode cX12_init 1107 = .ok (.bipush 93, 2) := by decide +kernel
theorem dX12_init_1109 : decode cX12_init 1109 = .ok (.bipush 32, 2) := by decide +kernel
theorem dX12_init_1111 : decode cX12_init 1111 = .ok (.iastore, 1) := by decide +kernel
theorem dX12_init_1112 : decode cX12_init 1112 = .ok (.dup, 1) := by decide +kernel
theorem dX12_init_1113 : decode cX12_init 1113 = .ok (.bipush 94, 2) := by decide +kernel
theorem dX12_init_1115 : decode cX12_init 1115 = .ok (.bipush 32, 2) := by decide +kernel
theorem dX12_init_1117 : decode cX12_init 1117 = .ok (.iastore, 1) := by decide +kernel
theorem dX12_init_1118 : decode cX12_init 1118 = .ok (.dup, 1) := by decide +kernel
theorem dX12_init_1119 : decode cX12_init 1119 = .ok (.bipush 95, 2) := by decide +kernel
theorem dX12_init_1121 : decode cX12_init 1121 = .ok (.bipush 32, 2) := by decide +kernel
theorem dX12_init_1123 : decode cX12_init 1123 = .ok (.iastore, 1) := by decide +kernel
theorem dX12_init_1124 : decode cX12_init 1124 = .ok (.putfield 59, 3) := by decide +kernel
theorem dX12_init_1127 : decode cX12_init 1127 = .ok (.aload_n 0, 1) := by decide +kernel
theorem dX12_init_1128 : decode cX12_init 1128 = .ok (.sipush 200, 3) := by decide +kernel
theorem dX12_init_1131 : decode cX12_init 1131 = .ok (.newarray .int, 2) := by decide +kernel
theorem dX12_init_1133 : decode cX12_init 1133 = .ok (.putfield 62, 3) := by decide +kernel
theorem dX12_init_1136 : decode cX12_init 1136 = .ok (.aload_n 0, 1) := by decide +kernel
theorem dX12_init_1137 : decode cX12_init 1137 = .ok (.sipush 200, 3) := by decide +kernel
theorem dX12_init_1140 : decode cX12_init 1140 = .ok (.newarray .int, 2) := by decide +kernel
theorem dX12_init_1142 : decode cX12_init 1142 = .ok (.putfield 65, 3) := by decide +kernel
theorem dX12_init_1145 : decode cX12_init 1145 = .ok (.aload_n 0, 1) := by decide +kernel
theorem dX12_init_1146 : decode cX12_init 1146 = .ok (.bipush 6, 2) := by decide +kernel
theorem dX12_init_1148 : decode cX12_init 1148 = .ok (.newarray .int, 2) := by decide +kernel
theorem dX12_init_1150 : decode cX12_init 1150 = .ok (.putfield 68, 3) := by decide +kernel
theorem dX12_init_1153 : decode cX12_init 1153 = .ok (.aload_n 0, 1) := by decide +kernel
theorem dX12_init_1154 : decode cX12_init 1154 = .ok (.sipush 328, 3) := by decide +kernel
theorem dX12_init_1157 : decode cX12_init 1157 = .ok (.newarray .int, 2) := by decide +kernel
theorem dX12_init_1159 : decode cX12_init 1159 = .ok (.putfield 71, 3) := by decide +kernel
theorem dX12_init_1162 : decode cX12_init 1162 = .ok (.aload_n 0, 1) := by decide +kernel
theorem dX12_init_1163 : decode cX12_init 1163 = .ok (.bipush 6, 2) := by decide +kernel
theorem dX12_init_1165 : decode cX12_init 1165 = .ok (.newarray .int, 2) := by decide +kernel
theorem dX12_init_1167 : decode cX12_init 1167 = .ok (.putfield 74, 3) := by decide +kernel
theorem dX12_init_1170 : decode cX12_init 1170 = .ok (.aload_n 0, 1) := by decide +kernel
theorem dX12_init_1171 : decode cX12_init 1171 = .ok (.bipush 6, 2) := by decide +kernel
theorem dX12_init_1173 : decode cX12_init 1173 = .ok (.newarray .int, 2) := by decide +kernel
theorem dX12_init_1175 : decode cX12_init 1175 = .ok (.putfield 77, 3) := by decide +kernel
theorem dX12_init_1178 : decode cX12_init 1178 = .ok (.aload_n 0, 1) := by decide +kernel
theorem dX12_init_1179 : decode cX12_init 1179 = .ok (.bipush 16, 2) := by decide +kernel
theorem dX12_init_1181 : decode cX12_init 1181 = .ok (.newarray .int, 2) := by decide +kernel
theorem dX12_init_1183 : decode cX12_init 1183 = .ok (.putfield 80, 3) := by decide +kernel
theorem dX12_init_1186 : decode cX12_init 1186 = .ok (.iconst 0, 1) := by decide +kernel
theorem dX12_init_1187 : decode cX12_init 1187 = .ok (.istore_n 1, 1) := by decide +kernel
theorem dX12_init_1188 : decode cX12_init 1188 = .ok (.iload_n 1, 1) := by decide +kernel
theorem dX12_init_1189 : decode cX12_init 1189 = .ok (.bipush 53, 2) := by decide +kernel
theorem dX12_init_1191 : decode cX12_init 1191 = .ok (.if_icmp .ge 21, 3) := by decide +kernel
theorem dX12_init_1194 : decode cX12_init 1194 = .ok (.aload_n 0, 1) := by decide +kernel
theorem dX12_init_1195 : decode cX12_init 1195 = .ok (.getfield 35, 3) := by decide +kernel
theorem dX12_init_1198 : decode cX12_init 1198 = .ok (.iload_n 1, 1) := by decide +kernel
theorem dX12_init_1199 : decode cX12_init 1199 = .ok (.aload_n 0, 1) := by decide +kernel
theorem dX12_init_1200 : decode cX12_init 1200 = .ok (.getfield 56, 3) := by decide +kernel
theorem dX12_init_1203 : decode cX12_init 1203 = .ok (.iload_n 1, 1) := by decide +kernel
theorem dX12_init_1204 : decode cX12_init 1204 = .ok (.iaload, 1) := by decide +kernel
theorem dX12_init_1205 : decode cX12_init 1205 = .ok (.iastore, 1) := by decide +kernel
theorem dX12_init_1206 : decode cX12_init 1206 = .ok (.iinc 1 1, 3) := by decide +kernel
theorem dX12_init_1209 : decode cX12_init 1209 = .ok (.goto (-21), 3) := by decide +kernel
theorem dX12_init_1212 : decode cX12_init 1212 = .ok (.aload_n 0, 1) := by decide +kernel
theorem dX12_init_1213 : decode cX12_init 1213 = .ok (.bipush 53, 2) := by decide +kernel
theorem dX12_init_1215 : decode cX12_init 1215 = .ok (.putfield 83, 3) := by decide +kernel
theorem dX12_init_1218 : decode cX12_init 1218 = .ok (.aload_n 0, 1) := by decide +kernel
theorem dX12_init_1219 : decode cX12_init 1219 = .ok (.invokevirtual 86, 3) := by decide +kernel
theorem dX12_init_1222 : decode cX12_init 1222 = .ok (.pop, 1) := by decide +kernel
theorem dX12_init_1223 : decode cX12_init 1223 = .ok (.return_, 1) := by decide +kernel
theorem dX12_in_0 : decode cX12_in 0 = .ok (.iload_n 0, 1) := by decide +kernel
theorem dX12_in_1 : decode cX12_in 1 = .ok (.iload_n 1, 1) := by decide +kernel
theorem dX12_in_2 : decode cX12_in 2 = .ok (.if_icmp .lt 12, 3) := by decide +kernel
theorem dX12_in_5 : decode cX12_in 5 = .ok (.iload_n 0, 1) := by decide +kernel
theorem dX12_in_6 : decode cX12_in 6 = .ok (.iload_n 2, 1) := by decide +kernel
theorem dX12_in_7 : decode cX12_in 7 = .ok (.if_icmp .gt 7, 3) := by decide +kernel
theorem dX12_in_10 : decode cX12_in 10 = .ok (.iconst 1, 1) := by decide +kernel
theorem dX12_in_11 : decode cX12_in 11 = .ok (.goto 4, 3) := by decide +kernel
theorem dX12_in_14 : decode cX12_in 14 = .ok (.iconst 0, 1) := by decide +kernel
theorem dX12_in_15 : decode cX12_in 15 = .ok (.ireturn, 1) := by decide +kernel
theorem dX12_within_0 : decode cX12_within 0 = .ok (.iload_n 0, 1) := by decide +kernel
theorem dX12_within_1 : decode cX12_within 1 = .ok (.iload_n 1, 1) := by decide +kernel
theorem dX12_within_2 : decode cX12_within 2 = .ok (.if_icmp .ge 7, 3) := by decide +kernel
theorem dX12_within_5 : decode cX12_within 5 = .ok (.iload_n 1, 1) := by decide +kernel
theorem dX12_within_6 : decode cX12_within 6 = .ok (.goto 13, 3) := by decide +kernel
theorem dX12_within_9 : decode cX12_within 9 = .ok (.iload_n 0, 1) := by decide +kernel
theorem dX12_within_10 : decode cX12_within 10 = .ok (.iload_n 2, 1) := by decide +kernel
theorem dX12_within_11 : decode cX12_within 11 = .ok (.if_icmp .le 7, 3) := by decide +kernel
theorem dX12_within_14 : decode cX12_within 14 = .ok (.iload_n 2, 1) := by decide +kernel
theorem dX12_within_15 : decode cX12_within 15 = .ok (.goto 4, 3) := by decide +kernel
theorem dX12_within_18 : decode cX12_within 18 = .ok (.iload_n 0, 1) := by decide +kernel
theorem dX12_within_19 : decode cX12_within 19 = .ok (.ireturn, 1) := by decide +kernel
theorem dX12_isCake_0 : decode cX12_isCake 0 = .ok (.iload_n 1, 1) := by decide +kernel
theorem dX12_isCake_1 : decode cX12_isCake 1 = .ok (.iconst 0, 1) := by decide +kernel
theorem dX12_isCake_2 : decode cX12_isCake 2 = .ok (.aload_n 0, 1) := by decide +kernel
theorem dX12_isCake_3 : decode cX12_isCake 3 = .ok (.getfield 90, 3) := by decide +kernel
theorem dX12_isCake_6 : decode cX12_isCake 6 = .ok (.iconst 1, 1) := by decide +kernel
theorem dX12_isCake_7 : decode cX12_isCake 7 = .ok (.isub, 1) := by decide +kernel
theorem dX12_isCake_8 : decode cX12_isCake 8 = .ok (.invokestatic 93, 3) := by decide +kernel
theorem dX12_isCake_11 : decode cX12_isCake 11 = .ok (.ireturn, 1) := by decide +kernel
theorem dX12_isSpot_0 : decode cX12_isSpot 0 = .ok (.iload_n 0, 1) := by decide +kernel
theorem dX12_isSpot_1 : decode cX12_isSpot 1 = .ok (.iconst 0, 1) := by decide +kernel
theorem dX12_isSpot_2 : decode cX12_isSpot 2 = .ok (.bipush 15, 2) := by decide +kernel
theorem dX12_isSpot_4 : decode cX12_isSpot 4 = .ok (.invokestatic 93, 3) := by decide +kernel
theorem dX12_isSpot_7 : decode cX12_isSpot 7 = .ok (.ireturn, 1) := by decide +kernel
theorem dX12_count_0 : decode cX12_count 0 = .ok (.iload_n 1, 1) := by decide +kernel
theorem dX12_count_1 : decode cX12_count 1 = .ok (.tableswitch 78 0 6 #[43, 48, 53, 58, 63, 68, 73], 43) := by decide +kernel
theorem dX12_count_44 : decode cX12_count 44 = .ok (.aload_n 0, 1) := by decide +kernel
theorem dX12_count_45 : decode cX12_count 45 = .ok (.getfield 90, 3) := by decide +kernel
theorem dX12_count_48 : decode cX12_count 48 = .ok (.ireturn, 1) := by decide +kernel
theorem dX12_count_49 : decode cX12_count 49 = .ok (.aload_n 0, 1) := by decide +kernel
theorem dX12_count_50 : decode cX12_count 50 = .ok (.getfield 13, 3) := by decide +kernel
theorem dX12_count_53 : decode cX12_count 53 = .ok (.ireturn, 1) := by decide +kernel
theorem dX12_count_54 : decode cX12_count 54 = .ok (.aload_n 0, 1) := by decide +kernel
theorem dX12_count_55 : decode cX12_count 55 = .ok (.getfield 97, 3) := by decide +kernel
theorem dX12_count_58 : decode cX12_count 58 = .ok (.ireturn, 1) := by decide +kernel
theorem dX12_count_59 : decode cX12_count 59 = .ok (.aload_n 0, 1) := by decide +kernel
theorem dX12_count_60 : decode cX12_count 60 = .ok (.getfield 100, 3) := by decide +kernel
theorem dX12_count_63 : decode cX12_count 63 = .ok (.ireturn, 1) := by decide +kernel
theorem dX12_count_64 : decode cX12_count 64 = .ok (.aload_n 0, 1) := by decide +kernel
theorem dX12_count_65 : decode cX12_count 65 = .ok (.getfield 103, 3) := by decide +kernel
theorem dX12_count_68 : decode cX12_count 68 = .ok (.ireturn, 1) := by decide +kernel
theorem dX12_count_69 : decode cX12_count 69 = .ok (.aload_n 0, 1) := by decide +kernel
theorem dX12_count_70 : decode cX12_count 70 = .ok (.getfield 106, 3) := by decide +kernel
theorem dX12_count_73 : decode cX12_count 73 = .ok (.ireturn, 1) := by decide +kernel
theorem dX12_count_74 : decode cX12_count 74 = .ok (.aload_n 0, 1) := by decide +kernel
theorem dX12_count_75 : decode cX12_count 75 = .ok (.getfield 83, 3) := by decide +kernel
theorem dX12_count_78 : decode cX12_count 78 = .ok (.ireturn, 1) := by decide +kernel
theorem dX12_count_79 : decode cX12_count 79 = .ok (.bipush (-2), 2) := by decide +kernel
theorem dX12_count_81 : decode cX12_count 81 = .ok (.ireturn, 1) := by decide +kernel
theorem dX12_set_0 : decode cX12_set 0 = .ok (.iload_n 1, 1) := by decide +kernel
theorem dX12_set_1 : decode cX12_set 1 = .ok (.iconst 0, 1) := by decide +kernel
theorem dX12_set_2 : decode cX12_set 2 = .ok (.iconst 2, 1) := by decide +kernel
theorem dX12_set_3 : decode cX12_set 3 = .ok (.invokestatic 93, 3) := by decide +kernel
theorem dX12_set_6 : decode cX12_set 6 = .ok (.ifCond .ne 6, 3) := by decide +kernel
theorem dX12_set_9 : decode cX12_set 9 = .ok (.bipush (-5), 2) := by decide +kernel
theorem dX12_set_11 : decode cX12_set 11 = .ok (.ireturn, 1) := by decide +kernel
theorem dX12_set_12 : decode cX12_set 12 = .ok (.iload_n 1, 1) := by decide +kernel
theorem dX12_set_13 : decode cX12_set 13 = .ok (.ifCond .ne 13, 3) := by decide +kernel
theorem dX12_set_16 : decode cX12_set 16 = .ok (.iload_n 2, 1) := by decide +kernel
theorem dX12_set_17 : decode cX12_set 17 = .ok (.invokestatic 109, 3) := by decide +kernel
theorem dX12_set_20 : decode cX12_set 20 = .ok (.ifCond .ne 6, 3) := by decide +kernel
theorem dX12_set_23 : decode cX12_set 23 = .ok (.bipush (-6), 2) := by decide +kernel
theorem dX12_set_25 : decode cX12_set 25 = .ok (.ireturn, 1) := by decide +kernel
theorem dX12_set_26 : decode cX12_set 26 = .ok (.iload_n 3, 1) := by decide +kernel
theorem dX12_set_27 : decode cX12_set 27 = .ok (.iload_n 1, 1) := by decide +kernel
theorem dX12_set_28 : decode cX12_set 28 = .ok (.iconst 1, 1) := by decide +kernel
theorem dX12_set_29 : decode cX12_set 29 = .ok (.if_icmp .ne 7, 3) := by decide +kernel
theorem dX12_set_32 : decode cX12_set 32 = .ok (.iconst 1, 1) := by decide +kernel
theorem dX12_set_33 : decode cX12_set 33 = .ok (.goto 4, 3) := by decide +kernel
theorem dX12_set_36 : decode cX12_set 36 = .ok (.iconst 0, 1) := by decide +kernel
theorem dX12_set_37 : decode cX12_set 37 = .ok (.iload_n 1, 1) := by decide +kernel
theorem dX12_set_38 : decode cX12_set 38 = .ok (.ifCond .ne 8, 3) := by decide +kernel
theorem dX12_set_41 : decode cX12_set 41 = .ok (.bipush 99, 2) := by decide +kernel
theorem dX12_set_43 : decode cX12_set 43 = .ok (.goto 14, 3) := by decide +kernel
theorem dX12_set_46 : decode cX12_set 46 = .ok (.iload_n 1, 1) := by decide +kernel
theorem dX12_set_47 : decode cX12_set 47 = .ok (.iconst 1, 1) := by decide +kernel
theorem dX12_set_48 : decode cX12_set 48 = .ok (.if_icmp .ne 8, 3) := by decide +kernel
theorem dX12_set_51 : decode cX12_set 51 = .ok (.bipush 40, 2) := by decide +kernel
theorem dX12_set_53 : decode cX12_set 53 = .ok (.goto 4, 3) := by decide +kernel
theorem dX12_set_56 : decode cX12_set 56 = .ok (.iconst 3, 1) := by decide +kernel
theorem dX12_set_57 : decode cX12_set 57 = .ok (.invokestatic 93, 3) := by decide +kernel
theorem dX12_set_60 : decode cX12_set 60 = .ok (.ifCond .ne 6, 3) := by decide +kernel
theorem dX12_set_63 : decode cX12_set 63 = .ok (.bipush (-7), 2) := by decide +kernel
theorem dX12_set_65 : decode cX12_set 65 = .ok (.ireturn, 1) := by decide +kernel
theorem dX12_set_66 : decode cX12_set 66 = .ok (.iload_n 1, 1) := by decide +kernel
theorem dX12_set_67 : decode cX12_set 67 = .ok (.ifCond .ne 12, 3) := by decide +kernel
theorem dX12_set_70 : decode cX12_set 70 = .ok (.aload_n 0, 1) := by decide +kernel
theorem dX12_set_71 : decode cX12_set 71 = .ok (.getfield 7, 3) := by decide +kernel
theorem dX12_set_74 : decode cX12_set 74 = .ok (.iload_n 2, 1) := by decide +kernel
theorem dX12_set_75 : decode cX12_set 75 = .ok (.iaload, 1) := by decide +kernel
theorem dX12_set_76 : decode cX12_set 76 = .ok (.goto 19, 3) := by decide +kernel
theorem dX12_set_79 : decode cX12_set 79 = .ok (.iload_n 1, 1) := by decide +kernel
theorem dX12_set_80 : decode cX12_set 80 = .ok (.iconst 1, 1) := by decide +kernel
theorem dX12_set_81 : decode cX12_set 81 = .ok (.if_icmp .ne 10, 3) := by decide +kernel
theorem dX12_set_84 : decode cX12_set 84 = .ok (.aload_n 0, 1) := by decide +kernel
theorem dX12_set_85 : decode cX12_set 85 = .ok (.getfield 13, 3) := by decide +kernel
theorem dX12_set_88 : decode cX12_set 88 = .ok (.goto 7, 3) := by decide +kernel
theorem dX12_set_91 : decode cX12_set 91 = .ok (.aload_n 0, 1) := by decide +kernel
theorem dX12_set_92 : decode cX12_set 92 = .ok (.getfield 97, 3) := by decide +kernel
theorem dX12_set_95 : decode cX12_set 95 = .ok (.istore 4, 2) := by decide +kernel
theorem dX12_set_97 : decode cX12_set 97 = .ok (.iload_n 1, 1) := by decide +kernel
theorem dX12_set_98 : decode cX12_set 98 = .ok (.lookupswitch 44 #[(0, 26), (1, 36)], 26) := by decide +kernel
theorem dX12_set_124 : decode cX12_set 124 = .ok (.aload_n 0, 1) := by decide +kernel
theorem dX12_set_125 : decode cX12_set 125 = .ok (.getfield 7, 3) := by decide +kernel
theorem dX12_set_128 : decode cX12_set 128 = .ok (.iload_n 2, 1) := by decide +kernel
theorem dX12_set_129 : decode cX12_set 129 = .ok (.iload_n 3, 1) := by decide +kernel
theorem dX12_set_130 : decode cX12_set 130 = .ok (.iastore, 1) := by decide +kernel
theorem dX12_set_131 : decode cX12_set 131 = .ok (.goto 16, 3) := by decide +kernel
theorem dX12_set_134 : decode cX12_set 134 = .ok (.aload_n 0, 1) := by decide +kernel
theorem dX12_set_135 : decode cX12_set 135 = .ok (.iload_n 3, 1) := by decide +kernel
theorem dX12_set_136 : decode cX12_set 136 = .ok (.putfield 13, 3) := by decide +kernel
theorem dX12_set_139 : decode cX12_set 139 = .ok (.goto 8, 3) := by decide +kernel
theorem dX12_set_142 : decode cX12_set 142 = .ok (.aload_n 0, 1) := by decide +kernel
theorem dX12_set_143 : decode cX12_set 143 = .ok (.iload_n 3, 1) := by decide +kernel
theorem dX12_set_144 : decode cX12_set 144 = .ok (.putfield 97, 3) := by decide +kernel
theorem dX12_set_147 : decode cX12_set 147 = .ok (.iload 4, 2) := by decide +kernel
theorem dX12_set_149 : decode cX12_set 149 = .ok (.ireturn, 1) := by decide +kernel
theorem dX12_hot_0 : decode cX12_hot 0 = .ok (.iload_n 1, 1) := by decide +kernel
theorem dX12_hot_1 : decode cX12_hot 1 = .ok (.invokestatic 109, 3) := by decide +kernel
theorem dX12_hot_4 : decode cX12_hot 4 = .ok (.ifCond .eq 12, 3) := by decide +kernel
theorem dX12_hot_7 : decode cX12_hot 7 = .ok (.aload_n 0, 1) := by decide +kernel
theorem dX12_hot_8 : decode cX12_hot 8 = .ok (.getfield 7, 3) := by decide +kernel
theorem dX12_hot_11 : decode cX12_hot 11 = .ok (.iload_n 1, 1) := by decide +kernel
theorem dX12_hot_12 : decode cX12_hot 12 = .ok (.iaload, 1) := by decide +kernel
theorem dX12_hot_13 : decode cX12_hot 13 = .ok (.goto 5, 3) := by decide +kernel
theorem dX12_hot_16 : decode cX12_hot 16 = .ok (.bipush (-2), 2) := by decide +kernel
theorem dX12_hot_18 : decode cX12_hot 18 = .ok (.ireturn, 1) := by decide +kernel
theorem dX12_over_0 : decode cX12_over 0 = .ok (.iload_n 0, 1) := by decide +kernel
theorem dX12_over_1 : decode cX12_over 1 = .ok (.istore_n 2, 1) := by decide +kernel
theorem dX12_over_2 : decode cX12_over 2 = .ok (.iconst 0, 1) := by decide +kernel
theorem dX12_over_3 : decode cX12_over 3 = .ok (.istore_n 3, 1) := by decide +kernel
theorem dX12_over_4 : decode cX12_over 4 = .ok (.iload_n 3, 1) := by decide +kernel
theorem dX12_over_5 : decode cX12_over 5 = .ok (.iload_n 1, 1) := by decide +kernel
theorem dX12_over_6 : decode cX12_over 6 = .ok (.if_icmp .ge 21, 3) := by decide +kernel
theorem dX12_over_9 : decode cX12_over 9 = .ok (.iconst 4, 1) := by decide +kernel
theorem dX12_over_10 : decode cX12_over 10 = .ok (.iload_n 2, 1) := by decide +kernel
theorem dX12_over_11 : decode cX12_over 11 = .ok (.iconst 4, 1) := by decide +kernel
theorem dX12_over_12 : decode cX12_over 12 = .ok (.irem, 1) := by decide +kernel
theorem dX12_over_13 : decode cX12_over 13 = .ok (.imul, 1) := by decide +kernel
theorem dX12_over_14 : decode cX12_over 14 = .ok (.iconst 3, 1) := by decide +kernel
theorem dX12_over_15 : decode cX12_over 15 = .ok (.iadd, 1) := by decide +kernel
theorem dX12_over_16 : decode cX12_over 16 = .ok (.iload_n 2, 1) := by decide +kernel
theorem dX12_over_17 : decode cX12_over 17 = .ok (.iconst 4, 1) := by decide +kernel
theorem dX12_over_18 : decode cX12_over 18 = .ok (.idiv, 1) := by decide +kernel
theorem dX12_over_19 : decode cX12_over 19 = .ok (.isub, 1) := by decide +kernel
theorem dX12_over_20 : decode cX12_over 20 = .ok (.istore_n 2, 1) := by decide +kernel
theorem dX12_over_21 : decode cX12_over 21 = .ok (.iinc 3 1, 3) := by decide +kernel
theorem dX12_over_24 : decode cX12_over 24 = .ok (.goto (-20), 3) := by decide +kernel
theorem dX12_over_27 : decode cX12_over 27 = .ok (.iload_n 2, 1) := by decide +kernel
theorem dX12_over_28 : decode cX12_over 28 = .ok (.ireturn, 1) := by decide +kernel
theorem dX12_spot_0 : decode cX12_spot 0 = .ok (.iload_n 1, 1) := by decide +kernel
theorem dX12_spot_1 : decode cX12_spot 1 = .ok (.invokestatic 109, 3) := by decide +kernel
theorem dX12_spot_4 : decode cX12_spot 4 = .ok (.ifCond .eq 20, 3) := by decide +kernel
theorem dX12_spot_7 : decode cX12_spot 7 = .ok (.iload_n 2, 1) := by decide +kernel
theorem dX12_spot_8 : decode cX12_spot 8 = .ok (.iconst 0, 1) := by decide +kernel
theorem dX12_spot_9 : decode cX12_spot 9 = .ok (.iconst 3, 1) := by decide +kernel
theorem dX12_spot_10 : decode cX12_spot 10 = .ok (.invokestatic 93, 3) := by decide +kernel
theorem dX12_spot_13 : decode cX12_spot 13 = .ok (.ifCond .eq 11, 3) := by decide +kernel
theorem dX12_spot_16 : decode cX12_spot 16 = .ok (.iload_n 1, 1) := by decide +kernel
theorem dX12_spot_17 : decode cX12_spot 17 = .ok (.iload_n 2, 1) := by decide +kernel
theorem dX12_spot_18 : decode cX12_spot 18 = .ok (.invokestatic 113, 3) := by decide +kernel
theorem dX12_spot_21 : decode cX12_spot 21 = .ok (.goto 5, 3) := by decide +kernel
theorem dX12_spot_24 : decode cX12_spot 24 = .ok (.bipush (-2), 2) := by decide +kernel
theorem dX12_spot_26 : decode cX12_spot 26 = .ok (.ireturn, 1) := by decide +kernel
theorem dX12_isByte_0 : decode cX12_isByte 0 = .ok (.iload_n 0, 1) := by decide +kernel
theorem dX12_isByte_1 : decode cX12_isByte 1 = .ok (.iconst 0, 1) := by decide +kernel
theorem dX12_isByte_2 : decode cX12_isByte 2 = .ok (.sipush 255, 3) := by decide +kernel
theorem dX12_isByte_5 : decode cX12_isByte 5 = .ok (.invokestatic 93, 3) := by decide +kernel
theorem dX12_isByte_8 : decode cX12_isByte 8 = .ok (.ireturn, 1) := by decide +kernel
theorem dX12_feed_0 : decode cX12_feed 0 = .ok (.iload_n 1, 1) := by decide +kernel
theorem dX12_feed_1 : decode cX12_feed 1 = .ok (.iconst 1, 1) := by decide +kernel
theorem dX12_feed_2 : decode cX12_feed 2 = .ok (.iconst 5, 1) := by decide +kernel
theorem dX12_feed_3 : decode cX12_feed 3 = .ok (.invokestatic 93, 3) := by decide +kernel
theorem dX12_feed_6 : decode cX12_feed 6 = .ok (.ifCond .eq 41, 3) := by decide +kernel
theorem dX12_feed_9 : decode cX12_feed 9 = .ok (.iload_n 2, 1) := by decide +kernel
theorem dX12_feed_10 : decode cX12_feed 10 = .ok (.invokestatic 117, 3) := by decide +kernel
theorem dX12_feed_13 : decode cX12_feed 13 = .ok (.ifCond .eq 34, 3) := by decide +kernel
theorem dX12_feed_16 : decode cX12_feed 16 = .ok (.iload_n 3, 1) := by decide +kernel
theorem dX12_feed_17 : decode cX12_feed 17 = .ok (.invokestatic 117, 3) := by decide +kernel
theorem dX12_feed_20 : decode cX12_feed 20 = .ok (.ifCond .eq 27, 3) := by decide +kernel
theorem dX12_feed_23 : decode cX12_feed 23 = .ok (.iload 4, 2) := by decide +kernel
theorem dX12_feed_25 : decode cX12_feed 25 = .ok (.invokestatic 117, 3) := by decide +kernel
theorem dX12_feed_28 : decode cX12_feed 28 = .ok (.ifCond .eq 19, 3) := by decide +kernel
theorem dX12_feed_31 : decode cX12_feed 31 = .ok (.iload 5, 2) := by decide +kernel
theorem dX12_feed_33 : decode cX12_feed 33 = .ok (.invokestatic 117, 3) := by decide +kernel
theorem dX12_feed_36 : decode cX12_feed 36 = .ok (.ifCond .eq 11, 3) := by decide +kernel
theorem dX12_feed_39 : decode cX12_feed 39 = .ok (.iload 6, 2) := by decide +kernel
theorem dX12_feed_41 : decode cX12_feed 41 = .ok (.invokestatic 117, 3) := by decide +kernel
theorem dX12_feed_44 : decode cX12_feed 44 = .ok (.ifCond .ne 6, 3) := by decide +kernel
theorem dX12_feed_47 : decode cX12_feed 47 = .ok (.bipush (-2), 2) := by decide +kernel
theorem dX12_feed_49 : decode cX12_feed 49 = .ok (.ireturn, 1) := by decide +kernel
theorem dX12_feed_50 : decode cX12_feed 50 = .ok (.aload_n 0, 1) := by decide +kernel
theorem dX12_feed_51 : decode cX12_feed 51 = .ok (.getfield 83, 3) := by decide +kernel
theorem dX12_feed_54 : decode cX12_feed 54 = .ok (.iload_n 1, 1) := by decide +kernel
theorem dX12_feed_55 : decode cX12_feed 55 = .ok (.iadd, 1) := by decide +kernel
theorem dX12_feed_56 : decode cX12_feed 56 = .ok (.sipush 160, 3) := by decide +kernel
theorem dX12_feed_59 : decode cX12_feed 59 = .ok (.if_icmp .le 6, 3) := by decide +kernel
theorem dX12_feed_62 : decode cX12_feed 62 = .ok (.bipush (-4), 2) := by decide +kernel
theorem dX12_feed_64 : decode cX12_feed 64 = .ok (.ireturn, 1) := by decide +kernel
theorem dX12_feed_65 : decode cX12_feed 65 = .ok (.iconst 0, 1) := by decide +kernel
theorem dX12_feed_66 : decode cX12_feed 66 = .ok (.istore 7, 2) := by decide +kernel
theorem dX12_feed_68 : decode cX12_feed 68 = .ok (.iload 7, 2) := by decide +kernel
theorem dX12_feed_70 : decode cX12_feed 70 = .ok (.iload_n 1, 1) := by decide +kernel
theorem dX12_feed_71 : decode cX12_feed 71 = .ok (.if_icmp .ge 71, 3) := by decide +kernel
theorem dX12_feed_74 : decode cX12_feed 74 = .ok (.aload_n 0, 1) := by decide +kernel
theorem dX12_feed_75 : decode cX12_feed 75 = .ok (.getfield 35, 3) := by decide +kernel
theorem dX12_feed_78 : decode cX12_feed 78 = .ok (.aload_n 0, 1) := by decide +kernel
