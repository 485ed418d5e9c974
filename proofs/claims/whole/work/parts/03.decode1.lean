theorem dX0_init_0 : decode cX0_init 0 = .ok (.aload_n 0, 1) := by decide +kernel
theorem dX0_init_1 : decode cX0_init 1 = .ok (.invokespecial 3, 3) := by decide +kernel
theorem dX0_init_4 : decode cX0_init 4 = .ok (.aload_n 0, 1) := by decide +kernel
theorem dX0_init_5 : decode cX0_init 5 = .ok (.bipush 8, 2) := by decide +kernel
theorem dX0_init_7 : decode cX0_init 7 = .ok (.newarray .int, 2) := by decide +kernel
theorem dX0_init_9 : decode cX0_init 9 = .ok (.putfield 9, 3) := by decide +kernel
theorem dX0_init_12 : decode cX0_init 12 = .ok (.aload_n 0, 1) := by decide +kernel
theorem dX0_init_13 : decode cX0_init 13 = .ok (.bipush 6, 2) := by decide +kernel
theorem dX0_init_15 : decode cX0_init 15 = .ok (.anewarray 15, 3) := by decide +kernel
theorem dX0_init_18 : decode cX0_init 18 = .ok (.dup, 1) := by decide +kernel
theorem dX0_init_19 : decode cX0_init 19 = .ok (.iconst 0, 1) := by decide +kernel
theorem dX0_init_20 : decode cX0_init 20 = .ok (.new 15, 3) := by decide +kernel
theorem dX0_init_23 : decode cX0_init 23 = .ok (.dup, 1) := by decide +kernel
theorem dX0_init_24 : decode cX0_init 24 = .ok (.invokespecial 17, 3) := by decide +kernel
theorem dX0_init_27 : decode cX0_init 27 = .ok (.aastore, 1) := by decide +kernel
theorem dX0_init_28 : decode cX0_init 28 = .ok (.dup, 1) := by decide +kernel
theorem dX0_init_29 : decode cX0_init 29 = .ok (.iconst 1, 1) := by decide +kernel
theorem dX0_init_30 : decode cX0_init 30 = .ok (.new 18, 3) := by decide +kernel
theorem dX0_init_33 : decode cX0_init 33 = .ok (.dup, 1) := by decide +kernel
theorem dX0_init_34 : decode cX0_init 34 = .ok (.invokespecial 20, 3) := by decide +kernel
theorem dX0_init_37 : decode cX0_init 37 = .ok (.aastore, 1) := by decide +kernel
theorem dX0_init_38 : decode cX0_init 38 = .ok (.dup, 1) := by decide +kernel
theorem dX0_init_39 : decode cX0_init 39 = .ok (.iconst 2, 1) := by decide +kernel
theorem dX0_init_40 : decode cX0_init 40 = .ok (.new 21, 3) := by decide +kernel
theorem dX0_init_43 : decode cX0_init 43 = .ok (.dup, 1) := by decide +kernel
theorem dX0_init_44 : decode cX0_init 44 = .ok (.invokespecial 23, 3) := by decide +kernel
theorem dX0_init_47 : decode cX0_init 47 = .ok (.aastore, 1) := by decide +kernel
theorem dX0_init_48 : decode cX0_init 48 = .ok (.dup, 1) := by decide +kernel
theorem dX0_init_49 : decode cX0_init 49 = .ok (.iconst 3, 1) := by decide +kernel
theorem dX0_init_50 : decode cX0_init 50 = .ok (.new 24, 3) := by decide +kernel
theorem dX0_init_53 : decode cX0_init 53 = .ok (.dup, 1) := by decide +kernel
theorem dX0_init_54 : decode cX0_init 54 = .ok (.invokespecial 26, 3) := by decide +kernel
theorem dX0_init_57 : decode cX0_init 57 = .ok (.aastore, 1) := by decide +kernel
theorem dX0_init_58 : decode cX0_init 58 = .ok (.dup, 1) := by decide +kernel
theorem dX0_init_59 : decode cX0_init 59 = .ok (.iconst 4, 1) := by decide +kernel
theorem dX0_init_60 : decode cX0_init 60 = .ok (.new 27, 3) := by decide +kernel
theorem dX0_init_63 : decode cX0_init 63 = .ok (.dup, 1) := by decide +kernel
theorem dX0_init_64 : decode cX0_init 64 = .ok (.invokespecial 29, 3) := by decide +kernel
theorem dX0_init_67 : decode cX0_init 67 = .ok (.aastore, 1) := by decide +kernel
theorem dX0_init_68 : decode cX0_init 68 = .ok (.dup, 1) := by decide +kernel
theorem dX0_init_69 : decode cX0_init 69 = .ok (.iconst 5, 1) := by decide +kernel
theorem dX0_init_70 : decode cX0_init 70 = .ok (.new 30, 3) := by decide +kernel
theorem dX0_init_73 : decode cX0_init 73 = .ok (.dup, 1) := by decide +kernel
theorem dX0_init_74 : decode cX0_init 74 = .ok (.invokespecial 32, 3) := by decide +kernel
theorem dX0_init_77 : decode cX0_init 77 = .ok (.aastore, 1) := by decide +kernel
theorem dX0_init_78 : decode cX0_init 78 = .ok (.putfield 33, 3) := by decide +kernel
theorem dX0_init_81 : decode cX0_init 81 = .ok (.aload_n 0, 1) := by decide +kernel
theorem dX0_init_82 : decode cX0_init 82 = .ok (.bipush 6, 2) := by decide +kernel
theorem dX0_init_84 : decode cX0_init 84 = .ok (.newarray .int, 2) := by decide +kernel
theorem dX0_init_86 : decode cX0_init 86 = .ok (.putfield 39, 3) := by decide +kernel
theorem dX0_init_89 : decode cX0_init 89 = .ok (.return_, 1) := by decide +kernel
theorem dX0_kindOf_0 : decode cX0_kindOf 0 = .ok (.iload_n 1, 1) := by decide +kernel
theorem dX0_kindOf_1 : decode cX0_kindOf 1 = .ok (.iconst 0, 1) := by decide +kernel
theorem dX0_kindOf_2 : decode cX0_kindOf 2 = .ok (.aload_n 0, 1) := by decide +kernel
theorem dX0_kindOf_3 : decode cX0_kindOf 3 = .ok (.getfield 33, 3) := by decide +kernel
theorem dX0_kindOf_6 : decode cX0_kindOf 6 = .ok (.arraylength, 1) := by decide +kernel
theorem dX0_kindOf_7 : decode cX0_kindOf 7 = .ok (.iconst 1, 1) := by decide +kernel
theorem dX0_kindOf_8 : decode cX0_kindOf 8 = .ok (.isub, 1) := by decide +kernel
theorem dX0_kindOf_9 : decode cX0_kindOf 9 = .ok (.invokestatic 42, 3) := by decide +kernel
theorem dX0_kindOf_12 : decode cX0_kindOf 12 = .ok (.ifCond .eq 12, 3) := by decide +kernel
theorem dX0_kindOf_15 : decode cX0_kindOf 15 = .ok (.aload_n 0, 1) := by decide +kernel
theorem dX0_kindOf_16 : decode cX0_kindOf 16 = .ok (.getfield 33, 3) := by decide +kernel
theorem dX0_kindOf_19 : decode cX0_kindOf 19 = .ok (.iload_n 1, 1) := by decide +kernel
theorem dX0_kindOf_20 : decode cX0_kindOf 20 = .ok (.aaload, 1) := by decide +kernel
theorem dX0_kindOf_21 : decode cX0_kindOf 21 = .ok (.goto 9, 3) := by decide +kernel
theorem dX0_kindOf_24 : decode cX0_kindOf 24 = .ok (.aload_n 0, 1) := by decide +kernel
theorem dX0_kindOf_25 : decode cX0_kindOf 25 = .ok (.getfield 33, 3) := by decide +kernel
theorem dX0_kindOf_28 : decode cX0_kindOf 28 = .ok (.iconst 0, 1) := by decide +kernel
theorem dX0_kindOf_29 : decode cX0_kindOf 29 = .ok (.aaload, 1) := by decide +kernel
theorem dX0_kindOf_30 : decode cX0_kindOf 30 = .ok (.areturn, 1) := by decide +kernel
theorem dX0_start_0 : decode cX0_start 0 = .ok (.aload_n 0, 1) := by decide +kernel
theorem dX0_start_1 : decode cX0_start 1 = .ok (.aload_n 1, 1) := by decide +kernel
theorem dX0_start_2 : decode cX0_start 2 = .ok (.putfield 46, 3) := by decide +kernel
theorem dX0_start_5 : decode cX0_start 5 = .ok (.aload_n 0, 1) := by decide +kernel
theorem dX0_start_6 : decode cX0_start 6 = .ok (.aload_n 2, 1) := by decide +kernel
theorem dX0_start_7 : decode cX0_start 7 = .ok (.putfield 50, 3) := by decide +kernel
theorem dX0_start_10 : decode cX0_start 10 = .ok (.aload_n 0, 1) := by decide +kernel
theorem dX0_start_11 : decode cX0_start 11 = .ok (.iconst 0, 1) := by decide +kernel
theorem dX0_start_12 : decode cX0_start 12 = .ok (.putfield 54, 3) := by decide +kernel
theorem dX0_start_15 : decode cX0_start 15 = .ok (.aload_n 0, 1) := by decide +kernel
theorem dX0_start_16 : decode cX0_start 16 = .ok (.aload_n 1, 1) := by decide +kernel
theorem dX0_start_17 : decode cX0_start 17 = .ok (.getfield 58, 3) := by decide +kernel
theorem dX0_start_20 : decode cX0_start 20 = .ok (.putfield 63, 3) := by decide +kernel
theorem dX0_start_23 : decode cX0_start 23 = .ok (.aload_n 0, 1) := by decide +kernel
theorem dX0_start_24 : decode cX0_start 24 = .ok (.iconst (-1), 1) := by decide +kernel
theorem dX0_start_25 : decode cX0_start 25 = .ok (.putfield 64, 3) := by decide +kernel
theorem dX0_start_28 : decode cX0_start 28 = .ok (.aload_n 0, 1) := by decide +kernel
theorem dX0_start_29 : decode cX0_start 29 = .ok (.iconst 0, 1) := by decide +kernel
theorem dX0_start_30 : decode cX0_start 30 = .ok (.putfield 67, 3) := by decide +kernel
theorem dX0_start_33 : decode cX0_start 33 = .ok (.iconst 0, 1) := by decide +kernel
theorem dX0_start_34 : decode cX0_start 34 = .ok (.istore_n 3, 1) := by decide +kernel
theorem dX0_start_35 : decode cX0_start 35 = .ok (.iload_n 3, 1) := by decide +kernel
theorem dX0_start_36 : decode cX0_start 36 = .ok (.bipush 8, 2) := by decide +kernel
theorem dX0_start_38 : decode cX0_start 38 = .ok (.if_icmp .ge 16, 3) := by decide +kernel
theorem dX0_start_41 : decode cX0_start 41 = .ok (.aload_n 0, 1) := by decide +kernel
theorem dX0_start_42 : decode cX0_start 42 = .ok (.getfield 9, 3) := by decide +kernel
theorem dX0_start_45 : decode cX0_start 45 = .ok (.iload_n 3, 1) := by decide +kernel
theorem dX0_start_46 : decode cX0_start 46 = .ok (.iconst 0, 1) := by decide +kernel
theorem dX0_start_47 : decode cX0_start 47 = .ok (.iastore, 1) := by decide +kernel
theorem dX0_start_48 : decode cX0_start 48 = .ok (.iinc 3 1, 3) := by decide +kernel
theorem dX0_start_51 : decode cX0_start 51 = .ok (.goto (-16), 3) := by decide +kernel
theorem dX0_start_54 : decode cX0_start 54 = .ok (.return_, 1) := by decide +kernel
theorem dX0_step_0 : decode cX0_step 0 = .ok (.aload_n 0, 1) := by decide +kernel
theorem dX0_step_1 : decode cX0_step 1 = .ok (.getfield 46, 3) := by decide +kernel
theorem dX0_step_4 : decode cX0_step 4 = .ok (.ifnonnull 4, 3) := by decide +kernel
theorem dX0_step_7 : decode cX0_step 7 = .ok (.return_, 1) := by decide +kernel
theorem dX0_step_8 : decode cX0_step 8 = .ok (.aload_n 0, 1) := by decide +kernel
theorem dX0_step_9 : decode cX0_step 9 = .ok (.getfield 67, 3) := by decide +kernel
theorem dX0_step_12 : decode cX0_step 12 = .ok (.aload_n 0, 1) := by decide +kernel
theorem dX0_step_13 : decode cX0_step 13 = .ok (.getfield 46, 3) := by decide +kernel
theorem dX0_step_16 : decode cX0_step 16 = .ok (.getfield 70, 3) := by decide +kernel
theorem dX0_step_19 : decode cX0_step 19 = .ok (.if_icmp .ge 63, 3) := by decide +kernel
theorem dX0_step_22 : decode cX0_step 22 = .ok (.aload_n 0, 1) := by decide +kernel
theorem dX0_step_23 : decode cX0_step 23 = .ok (.getfield 46, 3) := by decide +kernel
theorem dX0_step_26 : decode cX0_step 26 = .ok (.getfield 73, 3) := by decide +kernel
theorem dX0_step_29 : decode cX0_step 29 = .ok (.aload_n 0, 1) := by decide +kernel
theorem dX0_step_30 : decode cX0_step 30 = .ok (.getfield 67, 3) := by decide +kernel
theorem dX0_step_33 : decode cX0_step 33 = .ok (.iaload, 1) := by decide +kernel
theorem dX0_step_34 : decode cX0_step 34 = .ok (.aload_n 0, 1) := by decide +kernel
theorem dX0_step_35 : decode cX0_step 35 = .ok (.getfield 54, 3) := by decide +kernel
theorem dX0_step_38 : decode cX0_step 38 = .ok (.if_icmp .ne 44, 3) := by decide +kernel
theorem dX0_step_41 : decode cX0_step 41 = .ok (.aload_n 0, 1) := by decide +kernel
theorem dX0_step_42 : decode cX0_step 42 = .ok (.aload_n 0, 1) := by decide +kernel
theorem dX0_step_43 : decode cX0_step 43 = .ok (.getfield 63, 3) := by decide +kernel
theorem dX0_step_46 : decode cX0_step 46 = .ok (.aload_n 0, 1) := by decide +kernel
theorem dX0_step_47 : decode cX0_step 47 = .ok (.getfield 46, 3) := by decide +kernel
theorem dX0_step_50 : decode cX0_step 50 = .ok (.getfield 75, 3) := by decide +kernel
theorem dX0_step_53 : decode cX0_step 53 = .ok (.aload_n 0, 1) := by decide +kernel
theorem dX0_step_54 : decode cX0_step 54 = .ok (.getfield 67, 3) := by decide +kernel
theorem dX0_step_57 : decode cX0_step 57 = .ok (.iaload, 1) := by decide +kernel
theorem dX0_step_58 : decode cX0_step 58 = .ok (.iadd, 1) := by decide +kernel
theorem dX0_step_59 : decode cX0_step 59 = .ok (.iconst 3, 1) := by decide +kernel
theorem dX0_step_60 : decode cX0_step 60 = .ok (.iand, 1) := by decide +kernel
theorem dX0_step_61 : decode cX0_step 61 = .ok (.putfield 63, 3) := by decide +kernel
theorem dX0_step_64 : decode cX0_step 64 = .ok (.aload_n 0, 1) := by decide +kernel
theorem dX0_step_65 : decode cX0_step 65 = .ok (.aload_n 0, 1) := by decide +kernel
theorem dX0_step_66 : decode cX0_step 66 = .ok (.getfield 54, 3) := by decide +kernel
theorem dX0_step_69 : decode cX0_step 69 = .ok (.putfield 64, 3) := by decide +kernel
theorem dX0_step_72 : decode cX0_step 72 = .ok (.aload_n 0, 1) := by decide +kernel
theorem dX0_step_73 : decode cX0_step 73 = .ok (.dup, 1) := by decide +kernel
theorem dX0_step_74 : decode cX0_step 74 = .ok (.getfield 67, 3) := by decide +kernel
theorem dX0_step_77 : decode cX0_step 77 = .ok (.iconst 1, 1) := by decide +kernel
theorem dX0_step_78 : decode cX0_step 78 = .ok (.iadd, 1) := by decide +kernel
theorem dX0_step_79 : decode cX0_step 79 = .ok (.putfield 67, 3) := by decide +kernel
theorem dX0_step_82 : decode cX0_step 82 = .ok (.iconst 0, 1) := by decide +kernel
theorem dX0_step_83 : decode cX0_step 83 = .ok (.istore_n 1, 1) := by decide +kernel
theorem dX0_step_84 : decode cX0_step 84 = .ok (.iload_n 1, 1) := by decide +kernel
theorem dX0_step_85 : decode cX0_step 85 = .ok (.aload_n 0, 1) := by decide +kernel
theorem dX0_step_86 : decode cX0_step 86 = .ok (.getfield 46, 3) := by decide +kernel
theorem dX0_step_89 : decode cX0_step 89 = .ok (.getfield 78, 3) := by decide +kernel
theorem dX0_step_92 : decode cX0_step 92 = .ok (.if_icmp .ge 14, 3) := by decide +kernel
theorem dX0_step_95 : decode cX0_step 95 = .ok (.aload_n 0, 1) := by decide +kernel
theorem dX0_step_96 : decode cX0_step 96 = .ok (.iload_n 1, 1) := by decide +kernel
theorem dX0_step_97 : decode cX0_step 97 = .ok (.invokevirtual 81, 3) := by decide +kernel
theorem dX0_step_100 : decode cX0_step 100 = .ok (.iinc 1 1, 3) := by decide +kernel
theorem dX0_step_103 : decode cX0_step 103 = .ok (.goto (-19), 3) := by decide +kernel
theorem dX0_step_106 : decode cX0_step 106 = .ok (.aload_n 0, 1) := by decide +kernel
theorem dX0_step_107 : decode cX0_step 107 = .ok (.dup, 1) := by decide +kernel
theorem dX0_step_108 : decode cX0_step 108 = .ok (.getfield 54, 3) := by decide +kernel
theorem dX0_step_111 : decode cX0_step 111 = .ok (.iconst 1, 1) := by decide +kernel
theorem dX0_step_112 : decode cX0_step 112 = .ok (.iadd, 1) := by decide +kernel
theorem dX0_step_113 : decode cX0_step 113 = .ok (.putfield 54, 3) := by decide +kernel
theorem dX0_step_116 : decode cX0_step 116 = .ok (.return_, 1) := by decide +kernel
theorem dX0_bakeOne_0 : decode cX0_bakeOne 0 = .ok (.aload_n 0, 1) := by decide +kernel
theorem dX0_bakeOne_1 : decode cX0_bakeOne 1 = .ok (.getfield 64, 3) := by decide +kernel
theorem dX0_bakeOne_4 : decode cX0_bakeOne 4 = .ok (.iconst (-1), 1) := by decide +kernel
theorem dX0_bakeOne_5 : decode cX0_bakeOne 5 = .ok (.if_icmp .ne 10, 3) := by decide +kernel
theorem dX0_bakeOne_8 : decode cX0_bakeOne 8 = .ok (.aload_n 0, 1) := by decide +kernel
theorem dX0_bakeOne_9 : decode cX0_bakeOne 9 = .ok (.getfield 54, 3) := by decide +kernel
theorem dX0_bakeOne_12 : decode cX0_bakeOne 12 = .ok (.goto 12, 3) := by decide +kernel
theorem dX0_bakeOne_15 : decode cX0_bakeOne 15 = .ok (.aload_n 0, 1) := by decide +kernel
theorem dX0_bakeOne_16 : decode cX0_bakeOne 16 = .ok (.getfield 54, 3) := by decide +kernel
theorem dX0_bakeOne_19 : decode cX0_bakeOne 19 = .ok (.aload_n 0, 1) := by decide +kernel
theorem dX0_bakeOne_20 : decode cX0_bakeOne 20 = .ok (.getfield 64, 3) := by decide +kernel
theorem dX0_bakeOne_23 : decode cX0_bakeOne 23 = .ok (.isub, 1) := by decide +kernel
theorem dX0_bakeOne_24 : decode cX0_bakeOne 24 = .ok (.istore_n 2, 1) := by decide +kernel
theorem dX0_bakeOne_25 : decode cX0_bakeOne 25 = .ok (.aload_n 0, 1) := by decide +kernel
theorem dX0_bakeOne_26 : decode cX0_bakeOne 26 = .ok (.getfield 46, 3) := by decide +kernel
theorem dX0_bakeOne_29 : decode cX0_bakeOne 29 = .ok (.getfield 85, 3) := by decide +kernel
theorem dX0_bakeOne_32 : decode cX0_bakeOne 32 = .ok (.aload_n 0, 1) := by decide +kernel
theorem dX0_bakeOne_33 : decode cX0_bakeOne 33 = .ok (.getfield 46, 3) := by decide +kernel
theorem dX0_bakeOne_36 : decode cX0_bakeOne 36 = .ok (.getfield 88, 3) := by decide +kernel
theorem dX0_bakeOne_39 : decode cX0_bakeOne 39 = .ok (.iload_n 1, 1) := by decide +kernel
theorem dX0_bakeOne_40 : decode cX0_bakeOne 40 = .ok (.iaload, 1) := by decide +kernel
theorem dX0_bakeOne_41 : decode cX0_bakeOne 41 = .ok (.aload_n 0, 1) := by decide +kernel
theorem dX0_bakeOne_42 : decode cX0_bakeOne 42 = .ok (.getfield 63, 3) := by decide +kernel
theorem dX0_bakeOne_45 : decode cX0_bakeOne 45 = .ok (.invokestatic 91, 3) := by decide +kernel
theorem dX0_bakeOne_48 : decode cX0_bakeOne 48 = .ok (.iaload, 1) := by decide +kernel
theorem dX0_bakeOne_49 : decode cX0_bakeOne 49 = .ok (.istore_n 3, 1) := by decide +kernel
theorem dX0_bakeOne_50 : decode cX0_bakeOne 50 = .ok (.aload_n 0, 1) := by decide +kernel
theorem dX0_bakeOne_51 : decode cX0_bakeOne 51 = .ok (.getfield 64, 3) := by decide +kernel
theorem dX0_bakeOne_54 : decode cX0_bakeOne 54 = .ok (.iconst (-1), 1) := by decide +kernel
theorem dX0_bakeOne_55 : decode cX0_bakeOne 55 = .ok (.if_icmp .eq 32, 3) := by decide +kernel
theorem dX0_bakeOne_58 : decode cX0_bakeOne 58 = .ok (.aload_n 0, 1) := by decide +kernel
theorem dX0_bakeOne_59 : decode cX0_bakeOne 59 = .ok (.iload_n 1, 1) := by decide +kernel
theorem dX0_bakeOne_60 : decode cX0_bakeOne 60 = .ok (.iload_n 3, 1) := by decide +kernel
theorem dX0_bakeOne_61 : decode cX0_bakeOne 61 = .ok (.aload_n 0, 1) := by decide +kernel
theorem dX0_bakeOne_62 : decode cX0_bakeOne 62 = .ok (.getfield 54, 3) := by decide +kernel
theorem dX0_bakeOne_65 : decode cX0_bakeOne 65 = .ok (.aload_n 0, 1) := by decide +kernel
theorem dX0_bakeOne_66 : decode cX0_bakeOne 66 = .ok (.getfield 9, 3) := by decide +kernel
theorem dX0_bakeOne_69 : decode cX0_bakeOne 69 = .ok (.iload_n 1, 1) := by decide +kernel
theorem dX0_bakeOne_70 : decode cX0_bakeOne 70 = .ok (.iaload, 1) := by decide +kernel
theorem dX0_bakeOne_71 : decode cX0_bakeOne 71 = .ok (.iload_n 2, 1) := by decide +kernel
theorem dX0_bakeOne_72 : decode cX0_bakeOne 72 = .ok (.invokevirtual 95, 3) := by decide +kernel
theorem dX0_bakeOne_75 : decode cX0_bakeOne 75 = .ok (.iconst 0, 1) := by decide +kernel
theorem dX0_bakeOne_76 : decode cX0_bakeOne 76 = .ok (.iload_n 3, 1) := by decide +kernel
theorem dX0_bakeOne_77 : decode cX0_bakeOne 77 = .ok (.aload_n 0, 1) := by decide +kernel
theorem dX0_bakeOne_78 : decode cX0_bakeOne 78 = .ok (.iconst 1, 1) := by decide +kernel
theorem dX0_bakeOne_79 : decode cX0_bakeOne 79 = .ok (.invokevirtual 99, 3) := by decide +kernel
theorem dX0_bakeOne_82 : decode cX0_bakeOne 82 = .ok (.isub, 1) := by decide +kernel
theorem dX0_bakeOne_83 : decode cX0_bakeOne 83 = .ok (.invokestatic 103, 3) := by decide +kernel
theorem dX0_bakeOne_86 : decode cX0_bakeOne 86 = .ok (.istore_n 3, 1) := by decide +kernel
theorem dX0_bakeOne_87 : decode cX0_bakeOne 87 = .ok (.aload_n 0, 1) := by decide +kernel
theorem dX0_bakeOne_88 : decode cX0_bakeOne 88 = .ok (.aload_n 0, 1) := by decide +kernel
theorem dX0_bakeOne_89 : decode cX0_bakeOne 89 = .ok (.getfield 46, 3) := by decide +kernel
theorem dX0_bakeOne_92 : decode cX0_bakeOne 92 = .ok (.getfield 108, 3) := by decide +kernel
theorem dX0_bakeOne_95 : decode cX0_bakeOne 95 = .ok (.iload_n 1, 1) := by decide +kernel
theorem dX0_bakeOne_96 : decode cX0_bakeOne 96 = .ok (.iaload, 1) := by decide +kernel
theorem dX0_bakeOne_97 : decode cX0_bakeOne 97 = .ok (.invokevirtual 111, 3) := by decide +kernel
theorem dX0_bakeOne_100 : decode cX0_bakeOne 100 = .ok (.astore 4, 2) := by decide +kernel
theorem dX0_bakeOne_102 : decode cX0_bakeOne 102 = .ok (.aload_n 0, 1) := by decide +kernel
theorem dX0_bakeOne_103 : decode cX0_bakeOne 103 = .ok (.getfield 54, 3) := by decide +kernel
theorem dX0_bakeOne_106 : decode cX0_bakeOne 106 = .ok (.aload 4, 2) := by decide +kernel
theorem dX0_bakeOne_108 : decode cX0_bakeOne 108 = .ok (.aload_n 0, 1) := by decide +kernel
theorem dX0_bakeOne_109 : decode cX0_bakeOne 109 = .ok (.getfield 46, 3) := by decide +kernel
theorem dX0_bakeOne_112 : decode cX0_bakeOne 112 = .ok (.getfield 115, 3) := by decide +kernel
theorem dX0_bakeOne_115 : decode cX0_bakeOne 115 = .ok (.iload_n 1, 1) := by decide +kernel
theorem dX0_bakeOne_116 : decode cX0_bakeOne 116 = .ok (.iaload, 1) := by decide +kernel
theorem dX0_bakeOne_117 : decode cX0_bakeOne 117 = .ok (.invokevirtual 118, 3) := by decide +kernel
theorem dX0_bakeOne_120 : decode cX0_bakeOne 120 = .ok (.if_icmp .ge 4, 3) := by decide +kernel
theorem dX0_bakeOne_123 : decode cX0_bakeOne 123 = .ok (.return_, 1) := by decide +kernel
theorem dX0_bakeOne_124 : decode cX0_bakeOne 124 = .ok (.aload_n 0, 1) := by decide +kernel
theorem dX0_bakeOne_125 : decode cX0_bakeOne 125 = .ok (.iload_n 1, 1) := by decide +kernel
theorem dX0_bakeOne_126 : decode cX0_bakeOne 126 = .ok (.iload_n 3, 1) := by decide +kernel
theorem dX0_bakeOne_127 : decode cX0_bakeOne 127 = .ok (.aload_n 0, 1) := by decide +kernel
theorem dX0_bakeOne_128 : decode cX0_bakeOne 128 = .ok (.getfield 54, 3) := by decide +kernel
theorem dX0_bakeOne_131 : decode cX0_bakeOne 131 = .ok (.aload_n 0, 1) := by decide +kernel
theorem dX0_bakeOne_132 : decode cX0_bakeOne 132 = .ok (.getfield 9, 3) := by decide +kernel
theorem dX0_bakeOne_135 : decode cX0_bakeOne 135 = .ok (.iload_n 1, 1) := by decide +kernel
theorem dX0_bakeOne_136 : decode cX0_bakeOne 136 = .ok (.iaload, 1) := by decide +kernel
theorem dX0_bakeOne_137 : decode cX0_bakeOne 137 = .ok (.iload_n 2, 1) := by decide +kernel
theorem dX0_bakeOne_138 : decode cX0_bakeOne 138 = .ok (.invokevirtual 95, 3) := by decide +kernel
theorem dX0_bakeOne_141 : decode cX0_bakeOne 141 = .ok (.iconst 0, 1) := by decide +kernel
theorem dX0_bakeOne_142 : decode cX0_bakeOne 142 = .ok (.aload 4, 2) := by decide +kernel
theorem dX0_bakeOne_144 : decode cX0_bakeOne 144 = .ok (.aload_n 0, 1) := by decide +kernel
theorem dX0_bakeOne_145 : decode cX0_bakeOne 145 = .ok (.iconst 0, 1) := by decide +kernel
theorem dX0_bakeOne_146 : decode cX0_bakeOne 146 = .ok (.invokevirtual 99, 3) := by decide +kernel
theorem dX0_bakeOne_149 : decode cX0_bakeOne 149 = .ok (.aload_n 0, 1) := by decide +kernel
theorem dX0_bakeOne_150 : decode cX0_bakeOne 150 = .ok (.getfield 9, 3) := by decide +kernel
theorem dX0_bakeOne_153 : decode cX0_bakeOne 153 = .ok (.iload_n 1, 1) := by decide +kernel
theorem dX0_bakeOne_154 : decode cX0_bakeOne 154 = .ok (.iaload, 1) := by decide +kernel
theorem dX0_bakeOne_155 : decode cX0_bakeOne 155 = .ok (.aload_n 0, 1) := by decide +kernel
theorem dX0_bakeOne_156 : decode cX0_bakeOne 156 = .ok (.getfield 46, 3) := by decide +kernel
theorem dX0_bakeOne_159 : decode cX0_bakeOne 159 = .ok (.getfield 115, 3) := by decide +kernel
theorem dX0_bakeOne_162 : decode cX0_bakeOne 162 = .ok (.iload_n 1, 1) := by decide +kernel
theorem dX0_bakeOne_163 : decode cX0_bakeOne 163 = .ok (.iaload, 1) := by decide +kernel
theorem dX0_bakeOne_164 : decode cX0_bakeOne 164 = .ok (.invokevirtual 121, 3) := by decide +kernel
theorem dX0_bakeOne_167 : decode cX0_bakeOne 167 = .ok (.invokestatic 103, 3) := by decide +kernel
theorem dX0_bakeOne_170 : decode cX0_bakeOne 170 = .ok (.istore 5, 2) := by decide +kernel
theorem dX0_bakeOne_172 : decode cX0_bakeOne 172 = .ok (.aload_n 0, 1) := by decide +kernel
theorem dX0_bakeOne_173 : decode cX0_bakeOne 173 = .ok (.getfield 9, 3) := by decide +kernel
theorem dX0_bakeOne_176 : decode cX0_bakeOne 176 = .ok (.iload_n 1, 1) := by decide +kernel
theorem dX0_bakeOne_177 : decode cX0_bakeOne 177 = .ok (.sipush 999, 3) := by decide +kernel
theorem dX0_bakeOne_180 : decode cX0_bakeOne 180 = .ok (.aload_n 0, 1) := by decide +kernel
theorem dX0_bakeOne_181 : decode cX0_bakeOne 181 = .ok (.getfield 9, 3) := by decide +kernel
theorem dX0_bakeOne_184 : decode cX0_bakeOne 184 = .ok (.iload_n 1, 1) := by decide +kernel
theorem dX0_bakeOne_185 : decode cX0_bakeOne 185 = .ok (.iaload, 1) := by decide +kernel
theorem dX0_bakeOne_186 : decode cX0_bakeOne 186 = .ok (.iload 5, 2) := by decide +kernel
theorem dX0_bakeOne_188 : decode cX0_bakeOne 188 = .ok (.iadd, 1) := by decide +kernel
theorem dX0_bakeOne_189 : decode cX0_bakeOne 189 = .ok (.invokestatic 125, 3) := by decide +kernel
theorem dX0_bakeOne_192 : decode cX0_bakeOne 192 = .ok (.iastore, 1) := by decide +kernel
theorem dX0_bakeOne_193 : decode cX0_bakeOne 193 = .ok (.return_, 1) := by decide +kernel
theorem dX0_name_0 : decode cX0_name 0 = .ok (.aload_n 0, 1) := by decide +kernel
theorem dX0_name_1 : decode cX0_name 1 = .ok (.getfield 39, 3) := by decide +kernel
theorem dX0_name_4 : decode cX0_name 4 = .ok (.iconst 0, 1) := by decide +kernel
theorem dX0_name_5 : decode cX0_name 5 = .ok (.iload_n 2, 1) := by decide +kernel
theorem dX0_name_6 : decode cX0_name 6 = .ok (.iastore, 1) := by decide +kernel
theorem dX0_name_7 : decode cX0_name 7 = .ok (.aload_n 0, 1) := by decide +kernel
theorem dX0_name_8 : decode cX0_name 8 = .ok (.getfield 39, 3) := by decide +kernel
theorem dX0_name_11 : decode cX0_name 11 = .ok (.iconst 1, 1) := by decide +kernel
theorem dX0_name_12 : decode cX0_name 12 = .ok (.iload_n 3, 1) := by decide +kernel
theorem dX0_name_13 : decode cX0_name 13 = .ok (.iastore, 1) := by decide +kernel
theorem dX0_name_14 : decode cX0_name 14 = .ok (.aload_n 0, 1) := by decide +kernel
theorem dX0_name_15 : decode cX0_name 15 = .ok (.getfield 39, 3) := by decide +kernel
theorem dX0_name_18 : decode cX0_name 18 = .ok (.iconst 2, 1) := by decide +kernel
theorem dX0_name_19 : decode cX0_name 19 = .ok (.iload 4, 2) := by decide +kernel
theorem dX0_name_21 : decode cX0_name 21 = .ok (.iastore, 1) := by decide +kernel
theorem dX0_name_22 : decode cX0_name 22 = .ok (.aload_n 0, 1) := by decide +kernel
theorem dX0_name_23 : decode cX0_name 23 = .ok (.getfield 39, 3) := by decide +kernel
theorem dX0_name_26 : decode cX0_name 26 = .ok (.iconst 3, 1) := by decide +kernel
theorem dX0_name_27 : decode cX0_name 27 = .ok (.aload_n 0, 1) := by decide +kernel
theorem dX0_name_28 : decode cX0_name 28 = .ok (.getfield 46, 3) := by decide +kernel
theorem dX0_name_31 : decode cX0_name 31 = .ok (.ifnonnull 7, 3) := by decide +kernel
theorem dX0_name_34 : decode cX0_name 34 = .ok (.iconst 0, 1) := by decide +kernel
theorem dX0_name_35 : decode cX0_name 35 = .ok (.goto 12, 3) := by decide +kernel
theorem dX0_name_38 : decode cX0_name 38 = .ok (.aload_n 0, 1) := by decide +kernel
theorem dX0_name_39 : decode cX0_name 39 = .ok (.getfield 46, 3) := by decide +kernel
theorem dX0_name_42 : decode cX0_name 42 = .ok (.getfield 115, 3) := by decide +kernel
theorem dX0_name_45 : decode cX0_name 45 = .ok (.iload_n 1, 1) := by decide +kernel
theorem dX0_name_46 : decode cX0_name 46 = .ok (.iaload, 1) := by decide +kernel
theorem dX0_name_47 : decode cX0_name 47 = .ok (.iastore, 1) := by decide +kernel
theorem dX0_name_48 : decode cX0_name 48 = .ok (.aload_n 0, 1) := by decide +kernel
theorem dX0_name_49 : decode cX0_name 49 = .ok (.getfield 39, 3) := by decide +kernel
theorem dX0_name_52 : decode cX0_name 52 = .ok (.iconst 4, 1) := by decide +kernel
theorem dX0_name_53 : decode cX0_name 53 = .ok (.iload 5, 2) := by decide +kernel
theorem dX0_name_55 : decode cX0_name 55 = .ok (.iastore, 1) := by decide +kernel
theorem dX0_name_56 : decode cX0_name 56 = .ok (.aload_n 0, 1) := by decide +kernel
theorem dX0_name_57 : decode cX0_name 57 = .ok (.getfield 39, 3) := by decide +kernel
theorem dX0_name_60 : decode cX0_name 60 = .ok (.iconst 5, 1) := by decide +kernel
theorem dX0_name_61 : decode cX0_name 61 = .ok (.aload_n 0, 1) := by decide +kernel
theorem dX0_name_62 : decode cX0_name 62 = .ok (.getfield 46, 3) := by decide +kernel
theorem dX0_name_65 : decode cX0_name 65 = .ok (.ifnonnull 7, 3) := by decide +kernel
theorem dX0_name_68 : decode cX0_name 68 = .ok (.iconst 0, 1) := by decide +kernel
theorem dX0_name_69 : decode cX0_name 69 = .ok (.goto 10, 3) := by decide +kernel
theorem dX0_name_72 : decode cX0_name 72 = .ok (.aload_n 0, 1) := by decide +kernel
theorem dX0_name_73 : decode cX0_name 73 = .ok (.getfield 46, 3) := by decide +kernel
theorem dX0_name_76 : decode cX0_name 76 = .ok (.getfield 70, 3) := by decide +kernel
theorem dX0_name_79 : decode cX0_name 79 = .ok (.iastore, 1) := by decide +kernel
theorem dX0_name_80 : decode cX0_name 80 = .ok (.return_, 1) := by decide +kernel
theorem dX0_ask_0 : decode cX0_ask 0 = .ok (.aload_n 0, 1) := by decide +kernel
theorem dX0_ask_1 : decode cX0_ask 1 = .ok (.getfield 50, 3) := by decide +kernel
theorem dX0_ask_4 : decode cX0_ask 4 = .ok (.ifnonnull 7, 3) := by decide +kernel
theorem dX0_ask_7 : decode cX0_ask 7 = .ok (.iconst 0, 1) := by decide +kernel
theorem dX0_ask_8 : decode cX0_ask 8 = .ok (.goto 15, 3) := by decide +kernel
theorem dX0_ask_11 : decode cX0_ask 11 = .ok (.aload_n 0, 1) := by decide +kernel
theorem dX0_ask_12 : decode cX0_ask 12 = .ok (.getfield 50, 3) := by decide +kernel
theorem dX0_ask_15 : decode cX0_ask 15 = .ok (.iload_n 1, 1) := by decide +kernel
theorem dX0_ask_16 : decode cX0_ask 16 = .ok (.aload_n 0, 1) := by decide +kernel
theorem dX0_ask_17 : decode cX0_ask 17 = .ok (.getfield 39, 3) := by decide +kernel
theorem dX0_ask_20 : decode cX0_ask 20 = .ok (.invokevirtual 128, 3) := by decide +kernel
theorem dX0_ask_23 : decode cX0_ask 23 = .ok (.ireturn, 1) := by decide +kernel
theorem dX0_away_0 : decode cX0_away 0 = .ok (.aload_n 0, 1) := by decide +kernel
theorem dX0_away_1 : decode cX0_away 1 = .ok (.getfield 46, 3) := by decide +kernel
theorem dX0_away_4 : decode cX0_away 4 = .ok (.ifnonnull 7, 3) := by decide +kernel
theorem dX0_away_7 : decode cX0_away 7 = .ok (.iconst 0, 1) := by decide +kernel
theorem dX0_away_8 : decode cX0_away 8 = .ok (.goto 34, 3) := by decide +kernel
theorem dX0_away_11 : decode cX0_away 11 = .ok (.aload_n 0, 1) := by decide +kernel
theorem dX0_away_12 : decode cX0_away 12 = .ok (.aload_n 0, 1) := by decide +kernel
theorem dX0_away_13 : decode cX0_away 13 = .ok (.getfield 46, 3) := by decide +kernel
theorem dX0_away_16 : decode cX0_away 16 = .ok (.getfield 108, 3) := by decide +kernel
theorem dX0_away_19 : decode cX0_away 19 = .ok (.iload_n 1, 1) := by decide +kernel
theorem dX0_away_20 : decode cX0_away 20 = .ok (.iaload, 1) := by decide +kernel
theorem dX0_away_21 : decode cX0_away 21 = .ok (.invokevirtual 111, 3) := by decide +kernel
theorem dX0_away_24 : decode cX0_away 24 = .ok (.aload_n 0, 1) := by decide +kernel
theorem dX0_away_25 : decode cX0_away 25 = .ok (.getfield 9, 3) := by decide +kernel
theorem dX0_away_28 : decode cX0_away 28 = .ok (.iload_n 1, 1) := by decide +kernel
theorem dX0_away_29 : decode cX0_away 29 = .ok (.iaload, 1) := by decide +kernel
theorem dX0_away_30 : decode cX0_away 30 = .ok (.aload_n 0, 1) := by decide +kernel
theorem dX0_away_31 : decode cX0_away 31 = .ok (.getfield 46, 3) := by decide +kernel
theorem dX0_away_34 : decode cX0_away 34 = .ok (.getfield 132, 3) := by decide +kernel
theorem dX0_away_37 : decode cX0_away 37 = .ok (.iload_n 1, 1) := by decide +kernel
theorem dX0_away_38 : decode cX0_away 38 = .ok (.iaload, 1) := by decide +kernel
theorem dX0_away_39 : decode cX0_away 39 = .ok (.invokevirtual 135, 3) := by decide +kernel
theorem dX0_away_42 : decode cX0_away 42 = .ok (.ireturn, 1) := by decide +kernel
theorem dX0_badnessOf_0 : decode cX0_badnessOf 0 = .ok (.aload_n 0, 1) := by decide +kernel
theorem dX0_badnessOf_1 : decode cX0_badnessOf 1 = .ok (.iload_n 1, 1) := by decide +kernel
theorem dX0_badnessOf_2 : decode cX0_badnessOf 2 = .ok (.iconst 0, 1) := by decide +kernel
theorem dX0_badnessOf_3 : decode cX0_badnessOf 3 = .ok (.iconst 0, 1) := by decide +kernel
theorem dX0_badnessOf_4 : decode cX0_badnessOf 4 = .ok (.aload_n 0, 1) := by decide +kernel
theorem dX0_badnessOf_5 : decode cX0_badnessOf 5 = .ok (.getfield 9, 3) := by decide +kernel
theorem dX0_badnessOf_8 : decode cX0_badnessOf 8 = .ok (.iload_n 1, 1) := by decide +kernel
theorem dX0_badnessOf_9 : decode cX0_badnessOf 9 = .ok (.iaload, 1) := by decide +kernel
theorem dX0_badnessOf_10 : decode cX0_badnessOf 10 = .ok (.iconst 0, 1) := by decide +kernel
theorem dX0_badnessOf_11 : decode cX0_badnessOf 11 = .ok (.invokevirtual 95, 3) := by decide +kernel
theorem dX0_badnessOf_14 : decode cX0_badnessOf 14 = .ok (.aload_n 0, 1) := by decide +kernel
theorem dX0_badnessOf_15 : decode cX0_badnessOf 15 = .ok (.iload_n 1, 1) := by decide +kernel
theorem dX0_badnessOf_16 : decode cX0_badnessOf 16 = .ok (.invokevirtual 138, 3) := by decide +kernel
theorem dX0_badnessOf_19 : decode cX0_badnessOf 19 = .ok (.aload_n 0, 1) := by decide +kernel
theorem dX0_badnessOf_20 : decode cX0_badnessOf 20 = .ok (.iconst 2, 1) := by decide +kernel
theorem dX0_badnessOf_21 : decode cX0_badnessOf 21 = .ok (.invokevirtual 99, 3) := by decide +kernel
theorem dX0_badnessOf_24 : decode cX0_badnessOf 24 = .ok (.imul, 1) := by decide +kernel
theorem dX0_badnessOf_25 : decode cX0_badnessOf 25 = .ok (.ireturn, 1) := by decide +kernel
theorem dX0_cakes_0 : decode cX0_cakes 0 = .ok (.aload_n 0, 1) := by decide +kernel
theorem dX0_cakes_1 : decode cX0_cakes 1 = .ok (.getfield 46, 3) := by decide +kernel
theorem dX0_cakes_4 : decode cX0_cakes 4 = .ok (.ifnonnull 7, 3) := by decide +kernel
theorem dX0_cakes_7 : decode cX0_cakes 7 = .ok (.iconst 0, 1) := by decide +kernel
theorem dX0_cakes_8 : decode cX0_cakes 8 = .ok (.goto 10, 3) := by decide +kernel
theorem dX0_cakes_11 : decode cX0_cakes 11 = .ok (.aload_n 0, 1) := by decide +kernel
theorem dX0_cakes_12 : decode cX0_cakes 12 = .ok (.getfield 46, 3) := by decide +kernel
theorem dX0_cakes_15 : decode cX0_cakes 15 = .ok (.getfield 78, 3) := by decide +kernel
theorem dX0_cakes_18 : decode cX0_cakes 18 = .ok (.ireturn, 1) := by decide +kernel
theorem dX0_badness_0 : decode cX0_badness 0 = .ok (.iconst 0, 1) := by decide +kernel
theorem dX0_badness_1 : decode cX0_badness 1 = .ok (.istore_n 1, 1) := by decide +kernel
theorem dX0_badness_2 : decode cX0_badness 2 = .ok (.iconst 0, 1) := by decide +kernel
theorem dX0_badness_3 : decode cX0_badness 3 = .ok (.istore_n 2, 1) := by decide +kernel
theorem dX0_badness_4 : decode cX0_badness 4 = .ok (.iload_n 2, 1) := by decide +kernel
theorem dX0_badness_5 : decode cX0_badness 5 = .ok (.aload_n 0, 1) := by decide +kernel
theorem dX0_badness_6 : decode cX0_badness 6 = .ok (.invokevirtual 140, 3) := by decide +kernel
theorem dX0_badness_9 : decode cX0_badness 9 = .ok (.if_icmp .ge 17, 3) := by decide +kernel
theorem dX0_badness_12 : decode cX0_badness 12 = .ok (.iload_n 1, 1) := by decide +kernel
theorem dX0_badness_13 : decode cX0_badness 13 = .ok (.aload_n 0, 1) := by decide +kernel
theorem dX0_badness_14 : decode cX0_badness 14 = .ok (.iload_n 2, 1) := by decide +kernel
theorem dX0_badness_15 : decode cX0_badness 15 = .ok (.invokevirtual 143, 3) := by decide +kernel
theorem dX0_badness_18 : decode cX0_badness 18 = .ok (.iadd, 1) := by decide +kernel
theorem dX0_badness_19 : decode cX0_badness 19 = .ok (.istore_n 1, 1) := by decide +kernel
theorem dX0_badness_20 : decode cX0_badness 20 = .ok (.iinc 2 1, 3) := by decide +kernel
theorem dX0_badness_23 : decode cX0_badness 23 = .ok (.goto (-19), 3) := by decide +kernel
theorem dX0_badness_26 : decode cX0_badness 26 = .ok (.iload_n 1, 1) := by decide +kernel
theorem dX0_badness_27 : decode cX0_badness 27 = .ok (.ireturn, 1) := by decide +kernel
theorem dX0_brownest_0 : decode cX0_brownest 0 = .ok (.iconst (-1), 1) := by decide +kernel
theorem dX0_brownest_1 : decode cX0_brownest 1 = .ok (.istore_n 1, 1) := by decide +kernel
theorem dX0_brownest_2 : decode cX0_brownest 2 = .ok (.iconst 0, 1) := by decide +kernel
theorem dX0_brownest_3 : decode cX0_brownest 3 = .ok (.istore_n 2, 1) := by decide +kernel
theorem dX0_brownest_4 : decode cX0_brownest 4 = .ok (.iload_n 2, 1) := by decide +kernel
theorem dX0_brownest_5 : decode cX0_brownest 5 = .ok (.aload_n 0, 1) := by decide +kernel
theorem dX0_brownest_6 : decode cX0_brownest 6 = .ok (.invokevirtual 140, 3) := by decide +kernel
theorem dX0_brownest_9 : decode cX0_brownest 9 = .ok (.if_icmp .ge 31, 3) := by decide +kernel
theorem dX0_brownest_12 : decode cX0_brownest 12 = .ok (.iload_n 1, 1) := by decide +kernel
theorem dX0_brownest_13 : decode cX0_brownest 13 = .ok (.iconst (-1), 1) := by decide +kernel
theorem dX0_brownest_14 : decode cX0_brownest 14 = .ok (.if_icmp .eq 18, 3) := by decide +kernel
theorem dX0_brownest_17 : decode cX0_brownest 17 = .ok (.aload_n 0, 1) := by decide +kernel
theorem dX0_brownest_18 : decode cX0_brownest 18 = .ok (.getfield 9, 3) := by decide +kernel
theorem dX0_brownest_21 : decode cX0_brownest 21 = .ok (.iload_n 2, 1) := by decide +kernel
theorem dX0_brownest_22 : decode cX0_brownest 22 = .ok (.iaload, 1) := by decide +kernel
theorem dX0_brownest_23 : decode cX0_brownest 23 = .ok (.aload_n 0, 1) := by decide +kernel
theorem dX0_brownest_24 : decode cX0_brownest 24 = .ok (.getfield 9, 3) := by decide +kernel
theorem dX0_brownest_27 : decode cX0_brownest 27 = .ok (.iload_n 1, 1) := by decide +kernel
theorem dX0_brownest_28 : decode cX0_brownest 28 = .ok (.iaload, 1) := by decide +kernel
theorem dX0_brownest_29 : decode cX0_brownest 29 = .ok (.if_icmp .le 5, 3) := by decide +kernel
theorem dX0_brownest_32 : decode cX0_brownest 32 = .ok (.iload_n 2, 1) := by decide +kernel
theorem dX0_brownest_33 : decode cX0_brownest 33 = .ok (.istore_n 1, 1) := by decide +kernel
theorem dX0_brownest_34 : decode cX0_brownest 34 = .ok (.iinc 2 1, 3) := by decide +kernel
theorem dX0_brownest_37 : decode cX0_brownest 37 = .ok (.goto (-33), 3) := by decide +kernel
theorem dX0_brownest_40 : decode cX0_brownest 40 = .ok (.iload_n 1, 1) := by decide +kernel
theorem dX0_brownest_41 : decode cX0_brownest 41 = .ok (.ireturn, 1) := by decide +kernel
theorem dX0_palest_0 : decode cX0_palest 0 = .ok (.iconst (-1), 1) := by decide +kernel
theorem dX0_palest_1 : decode cX0_palest 1 = .ok (.istore_n 1, 1) := by decide +kernel
theorem dX0_palest_2 : decode cX0_palest 2 = .ok (.iconst 0, 1) := by decide +kernel
theorem dX0_palest_3 : decode cX0_palest 3 = .ok (.istore_n 2, 1) := by decide +kernel
theorem dX0_palest_4 : decode cX0_palest 4 = .ok (.iload_n 2, 1) := by decide +kernel
theorem dX0_palest_5 : decode cX0_palest 5 = .ok (.aload_n 0, 1) := by decide +kernel
theorem dX0_palest_6 : decode cX0_palest 6 = .ok (.invokevirtual 140, 3) := by decide +kernel
theorem dX0_palest_9 : decode cX0_palest 9 = .ok (.if_icmp .ge 31, 3) := by decide +kernel
theorem dX0_palest_12 : decode cX0_palest 12 = .ok (.iload_n 1, 1) := by decide +kernel
theorem dX0_palest_13 : decode cX0_palest 13 = .ok (.iconst (-1), 1) := by decide +kernel
theorem dX0_palest_14 : decode cX0_palest 14 = .ok (.if_icmp .eq 18, 3) := by decide +kernel
theorem dX0_palest_17 : decode cX0_palest 17 = .ok (.aload_n 0, 1) := by decide +kernel
theorem dX0_palest_18 : decode cX0_palest 18 = .ok (.getfield 9, 3) := by decide +kernel
theorem dX0_palest_21 : decode cX0_palest 21 = .ok (.iload_n 2, 1) := by decide +kernel
theorem dX0_palest_22 : decode cX0_palest 22 = .ok (.iaload, 1) := by decide +kernel
theorem dX0_palest_23 : decode cX0_palest 23 = .ok (.aload_n 0, 1) := by decide +kernel
theorem dX0_palest_24 : decode cX0_palest 24 = .ok (.getfield 9, 3) := by decide +kernel
theorem dX0_palest_27 : decode cX0_palest 27 = .ok (.iload_n 1, 1) := by decide +kernel
theorem dX0_palest_28 : decode cX0_palest 28 = .ok (.iaload, 1) := by decide +kernel
theorem dX0_palest_29 : decode cX0_palest 29 = .ok (.if_icmp .ge 5, 3) := by decide +kernel
theorem dX0_palest_32 : decode cX0_palest 32 = .ok (.iload_n 2, 1) := by decide +kernel
theorem dX0_palest_33 : decode cX0_palest 33 = .ok (.istore_n 1, 1) := by decide +kernel
theorem dX0_palest_34 : decode cX0_palest 34 = .ok (.iinc 2 1, 3) := by decide +kernel
theorem dX0_palest_37 : decode cX0_palest 37 = .ok (.goto (-33), 3) := by decide +kernel
theorem dX0_palest_40 : decode cX0_palest 40 = .ok (.iload_n 1, 1) := by decide +kernel
theorem dX0_palest_41 : decode cX0_palest 41 = .ok (.ireturn, 1) := by decide +kernel
theorem dX0_apart_0 : decode cX0_apart 0 = .ok (.aload_n 0, 1) := by decide +kernel
theorem dX0_apart_1 : decode cX0_apart 1 = .ok (.invokevirtual 140, 3) := by decide +kernel
theorem dX0_apart_4 : decode cX0_apart 4 = .ok (.ifCond .ne 7, 3) := by decide +kernel
theorem dX0_apart_7 : decode cX0_apart 7 = .ok (.iconst 0, 1) := by decide +kernel
theorem dX0_apart_8 : decode cX0_apart 8 = .ok (.goto 22, 3) := by decide +kernel
theorem dX0_apart_11 : decode cX0_apart 11 = .ok (.aload_n 0, 1) := by decide +kernel
theorem dX0_apart_12 : decode cX0_apart 12 = .ok (.getfield 9, 3) := by decide +kernel
theorem dX0_apart_15 : decode cX0_apart 15 = .ok (.aload_n 0, 1) := by decide +kernel
theorem dX0_apart_16 : decode cX0_apart 16 = .ok (.invokevirtual 146, 3) := by decide +kernel
theorem dX0_apart_19 : decode cX0_apart 19 = .ok (.iaload, 1) := by decide +kernel
theorem dX0_apart_20 : decode cX0_apart 20 = .ok (.aload_n 0, 1) := by decide +kernel
theorem dX0_apart_21 : decode cX0_apart 21 = .ok (.getfield 9, 3) := by decide +kernel
theorem dX0_apart_24 : decode cX0_apart 24 = .ok (.aload_n 0, 1) := by decide +kernel
theorem dX0_apart_25 : decode cX0_apart 25 = .ok (.invokevirtual 149, 3) := by decide +kernel
theorem dX0_apart_28 : decode cX0_apart 28 = .ok (.iaload, 1) := by decide +kernel
theorem dX0_apart_29 : decode cX0_apart 29 = .ok (.isub, 1) := by decide +kernel
theorem dX0_apart_30 : decode cX0_apart 30 = .ok (.ireturn, 1) := by decide +kernel
theorem dX0_right_0 : decode cX0_right 0 = .ok (.iconst 0, 1) := by decide +kernel
theorem dX0_right_1 : decode cX0_right 1 = .ok (.istore_n 1, 1) := by decide +kernel
theorem dX0_right_2 : decode cX0_right 2 = .ok (.iconst 0, 1) := by decide +kernel
theorem dX0_right_3 : decode cX0_right 3 = .ok (.istore_n 2, 1) := by decide +kernel
theorem dX0_right_4 : decode cX0_right 4 = .ok (.iload_n 2, 1) := by decide +kernel
theorem dX0_right_5 : decode cX0_right 5 = .ok (.aload_n 0, 1) := by decide +kernel
theorem dX0_right_6 : decode cX0_right 6 = .ok (.invokevirtual 140, 3) := by decide +kernel
theorem dX0_right_9 : decode cX0_right 9 = .ok (.if_icmp .ge 25, 3) := by decide +kernel
theorem dX0_right_12 : decode cX0_right 12 = .ok (.iload_n 1, 1) := by decide +kernel
theorem dX0_right_13 : decode cX0_right 13 = .ok (.aload_n 0, 1) := by decide +kernel
theorem dX0_right_14 : decode cX0_right 14 = .ok (.iload_n 2, 1) := by decide +kernel
theorem dX0_right_15 : decode cX0_right 15 = .ok (.invokevirtual 138, 3) := by decide +kernel
theorem dX0_right_18 : decode cX0_right 18 = .ok (.ifCond .ne 7, 3) := by decide +kernel
theorem dX0_right_21 : decode cX0_right 21 = .ok (.iconst 1, 1) := by decide +kernel
theorem dX0_right_22 : decode cX0_right 22 = .ok (.goto 4, 3) := by decide +kernel
theorem dX0_right_25 : decode cX0_right 25 = .ok (.iconst 0, 1) := by decide +kernel
theorem dX0_right_26 : decode cX0_right 26 = .ok (.iadd, 1) := by decide +kernel
theorem dX0_right_27 : decode cX0_right 27 = .ok (.istore_n 1, 1) := by decide +kernel
theorem dX0_right_28 : decode cX0_right 28 = .ok (.iinc 2 1, 3) := by decide +kernel
theorem dX0_right_31 : decode cX0_right 31 = .ok (.goto (-27), 3) := by decide +kernel
theorem dX0_right_34 : decode cX0_right 34 = .ok (.iload_n 1, 1) := by decide +kernel
theorem dX0_right_35 : decode cX0_right 35 = .ok (.ireturn, 1) := by decide +kernel
theorem dX1_init_0 : decode cX1_init 0 = .ok (.aload_n 0, 1) := by decide +kernel
theorem dX1_init_1 : decode cX1_init 1 = .ok (.invokespecial 1, 3) := by decide +kernel
theorem dX1_init_4 : decode cX1_init 4 = .ok (.return_, 1) := by decide +kernel
theorem dX1_begins_0 : decode cX1_begins 0 = .ok (.aload_n 0, 1) := by decide +kernel
theorem dX1_begins_1 : decode cX1_begins 1 = .ok (.iload_n 1, 1) := by decide +kernel
theorem dX1_begins_2 : decode cX1_begins 2 = .ok (.invokespecial 7, 3) := by decide +kernel
theorem dX1_begins_5 : decode cX1_begins 5 = .ok (.iconst 2, 1) := by decide +kernel
theorem dX1_begins_6 : decode cX1_begins 6 = .ok (.imul, 1) := by decide +kernel
theorem dX1_begins_7 : decode cX1_begins 7 = .ok (.iconst 2, 1) := by decide +kernel
theorem dX1_begins_8 : decode cX1_begins 8 = .ok (.iadd, 1) := by decide +kernel
theorem dX1_begins_9 : decode cX1_begins 9 = .ok (.ireturn, 1) := by decide +kernel
theorem dX2_init_0 : decode cX2_init 0 = .ok (.aload_n 0, 1) := by decide +kernel
theorem dX2_init_1 : decode cX2_init 1 = .ok (.invokespecial 1, 3) := by decide +kernel
theorem dX2_init_4 : decode cX2_init 4 = .ok (.return_, 1) := by decide +kernel
theorem dX2_away_0 : decode cX2_away 0 = .ok (.iload_n 1, 1) := by decide +kernel
theorem dX2_away_1 : decode cX2_away 1 = .ok (.iload_n 2, 1) := by decide +kernel
theorem dX2_away_2 : decode cX2_away 2 = .ok (.if_icmp .lt 7, 3) := by decide +kernel
theorem dX2_away_5 : decode cX2_away 5 = .ok (.iconst 0, 1) := by decide +kernel
theorem dX2_away_6 : decode cX2_away 6 = .ok (.goto 9, 3) := by decide +kernel
theorem dX2_away_9 : decode cX2_away 9 = .ok (.aload_n 0, 1) := by decide +kernel
theorem dX2_away_10 : decode cX2_away 10 = .ok (.iload_n 1, 1) := by decide +kernel
theorem dX2_away_11 : decode cX2_away 11 = .ok (.iload_n 2, 1) := by decide +kernel
theorem dX2_away_12 : decode cX2_away 12 = .ok (.invokespecial 7, 3) := by decide +kernel
theorem dX2_away_15 : decode cX2_away 15 = .ok (.ireturn, 1) := by decide +kernel
theorem dX3_init_0 : decode cX3_init 0 = .ok (.aload_n 0, 1) := by decide +kernel
theorem dX3_init_1 : decode cX3_init 1 = .ok (.invokespecial 1, 3) := by decide +kernel
theorem dX3_init_4 : decode cX3_init 4 = .ok (.return_, 1) := by decide +kernel
theorem dX3_gains_0 : decode cX3_gains 0 = .ok (.iload_n 1, 1) := by decide +kernel
theorem dX3_gains_1 : decode cX3_gains 1 = .ok (.ireturn, 1) := by decide +kernel
theorem dX3_begins_0 : decode cX3_begins 0 = .ok (.iconst 0, 1) := by decide +kernel
theorem dX3_begins_1 : decode cX3_begins 1 = .ok (.ireturn, 1) := by decide +kernel
theorem dX3_away_0 : decode cX3_away 0 = .ok (.iload_n 1, 1) := by decide +kernel
theorem dX3_away_1 : decode cX3_away 1 = .ok (.iload_n 2, 1) := by decide +kernel
theorem dX3_away_2 : decode cX3_away 2 = .ok (.if_icmp .le 9, 3) := by decide +kernel
theorem dX3_away_5 : decode cX3_away 5 = .ok (.iload_n 1, 1) := by decide +kernel
theorem dX3_away_6 : decode cX3_away 6 = .ok (.iload_n 2, 1) := by decide +kernel
theorem dX3_away_7 : decode cX3_away 7 = .ok (.isub, 1) := by decide +kernel
theorem dX3_away_8 : decode cX3_away 8 = .ok (.goto 6, 3) := by decide +kernel
theorem dX3_away_11 : decode cX3_away 11 = .ok (.iload_n 2, 1) := by decide +kernel
theorem dX3_away_12 : decode cX3_away 12 = .ok (.iload_n 1, 1) := by decide +kernel
theorem dX3_away_13 : decode cX3_away 13 = .ok (.isub, 1) := by decide +kernel
theorem dX3_away_14 : decode cX3_away 14 = .ok (.ireturn, 1) := by decide +kernel
theorem dX4_init_0 : decode cX4_init 0 = .ok (.aload_n 0, 1) := by decide +kernel
theorem dX4_init_1 : decode cX4_init 1 = .ok (.invokespecial 3, 3) := by decide +kernel
theorem dX4_init_4 : decode cX4_init 4 = .ok (.aload_n 0, 1) := by decide +kernel
theorem dX4_init_5 : decode cX4_init 5 = .ok (.iconst 4, 1) := by decide +kernel
theorem dX4_init_6 : decode cX4_init 6 = .ok (.newarray .int, 2) := by decide +kernel
theorem dX4_init_8 : decode cX4_init 8 = .ok (.putfield 9, 3) := by decide +kernel
theorem dX4_init_11 : decode cX4_init 11 = .ok (.iconst 0, 1) := by decide +kernel
theorem dX4_init_12 : decode cX4_init 12 = .ok (.iload_n 2, 1) := by decide +kernel
theorem dX4_init_13 : decode cX4_init 13 = .ok (.aload_n 1, 1) := by decide +kernel
theorem dX4_init_14 : decode cX4_init 14 = .ok (.arraylength, 1) := by decide +kernel
theorem dX4_init_15 : decode cX4_init 15 = .ok (.invokestatic 15, 3) := by decide +kernel
theorem dX4_init_18 : decode cX4_init 18 = .ok (.invokestatic 21, 3) := by decide +kernel
theorem dX4_init_21 : decode cX4_init 21 = .ok (.istore 4, 2) := by decide +kernel
theorem dX4_init_23 : decode cX4_init 23 = .ok (.aload_n 0, 1) := by decide +kernel
theorem dX4_init_24 : decode cX4_init 24 = .ok (.iload 4, 2) := by decide +kernel
theorem dX4_init_26 : decode cX4_init 26 = .ok (.newarray .int, 2) := by decide +kernel
theorem dX4_init_28 : decode cX4_init 28 = .ok (.putfield 24, 3) := by decide +kernel
theorem dX4_init_31 : decode cX4_init 31 = .ok (.aload_n 0, 1) := by decide +kernel
theorem dX4_init_32 : decode cX4_init 32 = .ok (.iload 4, 2) := by decide +kernel
theorem dX4_init_34 : decode cX4_init 34 = .ok (.newarray .int, 2) := by decide +kernel
theorem dX4_init_36 : decode cX4_init 36 = .ok (.putfield 27, 3) := by decide +kernel
theorem dX4_init_39 : decode cX4_init 39 = .ok (.iconst 0, 1) := by decide +kernel
theorem dX4_init_40 : decode cX4_init 40 = .ok (.istore 5, 2) := by decide +kernel
theorem dX4_init_42 : decode cX4_init 42 = .ok (.iload 5, 2) := by decide +kernel
theorem dX4_init_44 : decode cX4_init 44 = .ok (.iload 4, 2) := by decide +kernel
theorem dX4_init_46 : decode cX4_init 46 = .ok (.if_icmp .ge 20, 3) := by decide +kernel
theorem dX4_init_49 : decode cX4_init 49 = .ok (.aload_n 0, 1) := by decide +kernel
theorem dX4_init_50 : decode cX4_init 50 = .ok (.getfield 24, 3) := by decide +kernel
theorem dX4_init_53 : decode cX4_init 53 = .ok (.iload 5, 2) := by decide +kernel
theorem dX4_init_55 : decode cX4_init 55 = .ok (.aload_n 1, 1) := by decide +kernel
theorem dX4_init_56 : decode cX4_init 56 = .ok (.iload 5, 2) := by decide +kernel
theorem dX4_init_58 : decode cX4_init 58 = .ok (.iaload, 1) := by decide +kernel
theorem dX4_init_59 : decode cX4_init 59 = .ok (.iastore, 1) := by decide +kernel
theorem dX4_init_60 : decode cX4_init 60 = .ok (.iinc 5 1, 3) := by decide +kernel
theorem dX4_init_63 : decode cX4_init 63 = .ok (.goto (-21), 3) := by decide +kernel
theorem dX4_init_66 : decode cX4_init 66 = .ok (.iconst 0, 1) := by decide +kernel
theorem dX4_init_67 : decode cX4_init 67 = .ok (.istore 5, 2) := by decide +kernel
theorem dX4_init_69 : decode cX4_init 69 = .ok (.iload 5, 2) := by decide +kernel
theorem dX4_init_71 : decode cX4_init 71 = .ok (.iconst 3, 1) := by decide +kernel
theorem dX4_init_72 : decode cX4_init 72 = .ok (.if_icmp .gt 27, 3) := by decide +kernel
theorem dX4_init_75 : decode cX4_init 75 = .ok (.iload 5, 2) := by decide +kernel
theorem dX4_init_77 : decode cX4_init 77 = .ok (.aload_n 3, 1) := by decide +kernel
theorem dX4_init_78 : decode cX4_init 78 = .ok (.arraylength, 1) := by decide +kernel
theorem dX4_init_79 : decode cX4_init 79 = .ok (.if_icmp .ge 20, 3) := by decide +kernel
theorem dX4_init_82 : decode cX4_init 82 = .ok (.aload_n 0, 1) := by decide +kernel
theorem dX4_init_83 : decode cX4_init 83 = .ok (.getfield 9, 3) := by decide +kernel
theorem dX4_init_86 : decode cX4_init 86 = .ok (.iload 5, 2) := by decide +kernel
theorem dX4_init_88 : decode cX4_init 88 = .ok (.aload_n 3, 1) := by decide +kernel
theorem dX4_init_89 : decode cX4_init 89 = .ok (.iload 5, 2) := by decide +kernel
theorem dX4_init_91 : decode cX4_init 91 = .ok (.iaload, 1) := by decide +kernel
theorem dX4_init_92 : decode cX4_init 92 = .ok (.iastore, 1) := by decide +kernel
theorem dX4_init_93 : decode cX4_init 93 = .ok (.iinc 5 1, 3) := by decide +kernel
theorem dX4_init_96 : decode cX4_init 96 = .ok (.goto (-27), 3) := by decide +kernel
theorem dX4_init_99 : decode cX4_init 99 = .ok (.return_, 1) := by decide +kernel
theorem dX4_says_0 : decode cX4_says 0 = .ok (.aload_n 0, 1) := by decide +kernel
theorem dX4_says_1 : decode cX4_says 1 = .ok (.iconst 0, 1) := by decide +kernel
theorem dX4_says_2 : decode cX4_says 2 = .ok (.putfield 30, 3) := by decide +kernel
theorem dX4_says_5 : decode cX4_says 5 = .ok (.iconst 0, 1) := by decide +kernel
theorem dX4_says_6 : decode cX4_says 6 = .ok (.aload_n 0, 1) := by decide +kernel
theorem dX4_says_7 : decode cX4_says 7 = .ok (.getfield 9, 3) := by decide +kernel
theorem dX4_says_10 : decode cX4_says 10 = .ok (.iload_n 1, 1) := by decide +kernel
theorem dX4_says_11 : decode cX4_says 11 = .ok (.iaload, 1) := by decide +kernel
theorem dX4_says_12 : decode cX4_says 12 = .ok (.invokestatic 21, 3) := by decide +kernel
theorem dX4_says_15 : decode cX4_says 15 = .ok (.istore_n 3, 1) := by decide +kernel
theorem dX4_says_16 : decode cX4_says 16 = .ok (.iload_n 3, 1) := by decide +kernel
theorem dX4_says_17 : decode cX4_says 17 = .ok (.aload_n 0, 1) := by decide +kernel
theorem dX4_says_18 : decode cX4_says 18 = .ok (.getfield 9, 3) := by decide +kernel
theorem dX4_says_21 : decode cX4_says 21 = .ok (.iload_n 1, 1) := by decide +kernel
theorem dX4_says_22 : decode cX4_says 22 = .ok (.iconst 1, 1) := by decide +kernel
theorem dX4_says_23 : decode cX4_says 23 = .ok (.iadd, 1) := by decide +kernel
theorem dX4_says_24 : decode cX4_says 24 = .ok (.iaload, 1) := by decide +kernel
theorem dX4_says_25 : decode cX4_says 25 = .ok (.if_icmp .ge 144, 3) := by decide +kernel
theorem dX4_says_28 : decode cX4_says 28 = .ok (.iload_n 3, 1) := by decide +kernel
theorem dX4_says_29 : decode cX4_says 29 = .ok (.aload_n 0, 1) := by decide +kernel
theorem dX4_says_30 : decode cX4_says 30 = .ok (.getfield 24, 3) := by decide +kernel
theorem dX4_says_33 : decode cX4_says 33 = .ok (.arraylength, 1) := by decide +kernel
theorem dX4_says_34 : decode cX4_says 34 = .ok (.if_icmp .ge 135, 3) := by decide +kernel
theorem dX4_says_37 : decode cX4_says 37 = .ok (.aload_n 0, 1) := by decide +kernel
theorem dX4_says_38 : decode cX4_says 38 = .ok (.getfield 24, 3) := by decide +kernel
theorem dX4_says_41 : decode cX4_says 41 = .ok (.iload_n 3, 1) := by decide +kernel
theorem dX4_says_42 : decode cX4_says 42 = .ok (.iaload, 1) := by decide +kernel
theorem dX4_says_43 : decode cX4_says 43 = .ok (.istore 4, 2) := by decide +kernel
theorem dX4_says_45 : decode cX4_says 45 = .ok (.iload 4, 2) := by decide +kernel
theorem dX4_says_47 : decode cX4_says 47 = .ok (.ifCond .lt 12, 3) := by decide +kernel
theorem dX4_says_50 : decode cX4_says 50 = .ok (.aload_n 0, 1) := by decide +kernel
theorem dX4_says_51 : decode cX4_says 51 = .ok (.iload 4, 2) := by decide +kernel
theorem dX4_says_53 : decode cX4_says 53 = .ok (.invokevirtual 34, 3) := by decide +kernel
theorem dX4_says_56 : decode cX4_says 56 = .ok (.goto 107, 3) := by decide +kernel
theorem dX4_says_59 : decode cX4_says 59 = .ok (.iload 4, 2) := by decide +kernel
theorem dX4_says_61 : decode cX4_says 61 = .ok (.bipush (-106), 2) := by decide +kernel
theorem dX4_says_63 : decode cX4_says 63 = .ok (.if_icmp .gt 33, 3) := by decide +kernel
theorem dX4_says_66 : decode cX4_says 66 = .ok (.iload 4, 2) := by decide +kernel
theorem dX4_says_68 : decode cX4_says 68 = .ok (.ineg, 1) := by decide +kernel
theorem dX4_says_69 : decode cX4_says 69 = .ok (.bipush 106, 2) := by decide +kernel
theorem dX4_says_71 : decode cX4_says 71 = .ok (.isub, 1) := by decide +kernel
theorem dX4_says_72 : decode cX4_says 72 = .ok (.istore 5, 2) := by decide +kernel
theorem dX4_says_74 : decode cX4_says 74 = .ok (.aload_n 0, 1) := by decide +kernel
theorem dX4_says_75 : decode cX4_says 75 = .ok (.iload 5, 2) := by decide +kernel
theorem dX4_says_77 : decode cX4_says 77 = .ok (.aload_n 2, 1) := by decide +kernel
theorem dX4_says_78 : decode cX4_says 78 = .ok (.arraylength, 1) := by decide +kernel
theorem dX4_says_79 : decode cX4_says 79 = .ok (.if_icmp .ge 10, 3) := by decide +kernel
theorem dX4_says_82 : decode cX4_says 82 = .ok (.aload_n 2, 1) := by decide +kernel
theorem dX4_says_83 : decode cX4_says 83 = .ok (.iload 5, 2) := by decide +kernel
theorem dX4_says_85 : decode cX4_says 85 = .ok (.iaload, 1) := by decide +kernel
theorem dX4_says_86 : decode cX4_says 86 = .ok (.goto 4, 3) := by decide +kernel
theorem dX4_says_89 : decode cX4_says 89 = .ok (.iconst 0, 1) := by decide +kernel
theorem dX4_says_90 : decode cX4_says 90 = .ok (.invokevirtual 34, 3) := by decide +kernel
theorem dX4_says_93 : decode cX4_says 93 = .ok (.goto 70, 3) := by decide +kernel
theorem dX4_says_96 : decode cX4_says 96 = .ok (.iload 4, 2) := by decide +kernel
theorem dX4_says_98 : decode cX4_says 98 = .ok (.bipush (-3), 2) := by decide +kernel
theorem dX4_says_100 : decode cX4_says 100 = .ok (.if_icmp .ne 15, 3) := by decide +kernel
theorem dX4_says_103 : decode cX4_says 103 = .ok (.aload_n 0, 1) := by decide +kernel
theorem dX4_says_104 : decode cX4_says 104 = .ok (.aload_n 0, 1) := by decide +kernel
theorem dX4_says_105 : decode cX4_says 105 = .ok (.invokevirtual 38, 3) := by decide +kernel
theorem dX4_says_108 : decode cX4_says 108 = .ok (.ineg, 1) := by decide +kernel
theorem dX4_says_109 : decode cX4_says 109 = .ok (.invokevirtual 34, 3) := by decide +kernel
theorem dX4_says_112 : decode cX4_says 112 = .ok (.goto 51, 3) := by decide +kernel
theorem dX4_says_115 : decode cX4_says 115 = .ok (.iload 4, 2) := by decide +kernel
theorem dX4_says_117 : decode cX4_says 117 = .ok (.bipush (-105), 2) := by decide +kernel
theorem dX4_says_119 : decode cX4_says 119 = .ok (.if_icmp .ne 22, 3) := by decide +kernel
theorem dX4_says_122 : decode cX4_says 122 = .ok (.aload_n 0, 1) := by decide +kernel
theorem dX4_says_123 : decode cX4_says 123 = .ok (.aload_n 0, 1) := by decide +kernel
theorem dX4_says_124 : decode cX4_says 124 = .ok (.invokevirtual 38, 3) := by decide +kernel
theorem dX4_says_127 : decode cX4_says 127 = .ok (.ifCond .ne 7, 3) := by decide +kernel
theorem dX4_says_130 : decode cX4_says 130 = .ok (.iconst 1, 1) := by decide +kernel
theorem dX4_says_131 : decode cX4_says 131 = .ok (.goto 4, 3) := by decide +kernel
theorem dX4_says_134 : decode cX4_says 134 = .ok (.iconst 0, 1) := by decide +kernel
theorem dX4_says_135 : decode cX4_says 135 = .ok (.invokevirtual 34, 3) := by decide +kernel
theorem dX4_says_138 : decode cX4_says 138 = .ok (.goto 25, 3) := by decide +kernel
theorem dX4_says_141 : decode cX4_says 141 = .ok (.aload_n 0, 1) := by decide +kernel
theorem dX4_says_142 : decode cX4_says 142 = .ok (.invokevirtual 38, 3) := by decide +kernel
theorem dX4_says_145 : decode cX4_says 145 = .ok (.istore 5, 2) := by decide +kernel
theorem dX4_says_147 : decode cX4_says 147 = .ok (.aload_n 0, 1) := by decide +kernel
theorem dX4_says_148 : decode cX4_says 148 = .ok (.iload 4, 2) := by decide +kernel
theorem dX4_says_150 : decode cX4_says 150 = .ok (.ineg, 1) := by decide +kernel
theorem dX4_says_151 : decode cX4_says 151 = .ok (.aload_n 0, 1) := by decide +kernel
theorem dX4_says_152 : decode cX4_says 152 = .ok (.invokevirtual 38, 3) := by decide +kernel
theorem dX4_says_155 : decode cX4_says 155 = .ok (.iload 5, 2) := by decide +kernel
theorem dX4_says_157 : decode cX4_says 157 = .ok (.invokestatic 42, 3) := by decide +kernel
theorem dX4_says_160 : decode cX4_says 160 = .ok (.invokevirtual 34, 3) := by decide +kernel
theorem dX4_says_163 : decode cX4_says 163 = .ok (.iinc 3 1, 3) := by decide +kernel
theorem dX4_says_166 : decode cX4_says 166 = .ok (.goto (-150), 3) := by decide +kernel
theorem dX4_says_169 : decode cX4_says 169 = .ok (.iconst 0, 1) := by decide +kernel
theorem dX4_says_170 : decode cX4_says 170 = .ok (.bipush 99, 2) := by decide +kernel
theorem dX4_says_172 : decode cX4_says 172 = .ok (.aload_n 0, 1) := by decide +kernel
theorem dX4_says_173 : decode cX4_says 173 = .ok (.invokevirtual 38, 3) := by decide +kernel
theorem dX4_says_176 : decode cX4_says 176 = .ok (.invokestatic 15, 3) := by decide +kernel
theorem dX4_says_179 : decode cX4_says 179 = .ok (.invokestatic 21, 3) := by decide +kernel
theorem dX4_says_182 : decode cX4_says 182 = .ok (.ireturn, 1) := by decide +kernel
theorem dX4_joined_0 : decode cX4_joined 0 = .ok (.iload_n 0, 1) := by decide +kernel
theorem dX4_joined_1 : decode cX4_joined 1 = .ok (.lookupswitch 129 #[(42, 75), (43, 67), (45, 71), (60, 79), (61, 90), (103, 101), (104, 115)], 67) := by decide +kernel
theorem dX4_joined_68 : decode cX4_joined 68 = .ok (.iload_n 1, 1) := by decide +kernel
theorem dX4_joined_69 : decode cX4_joined 69 = .ok (.iload_n 2, 1) := by decide +kernel
theorem dX4_joined_70 : decode cX4_joined 70 = .ok (.iadd, 1) := by decide +kernel
theorem dX4_joined_71 : decode cX4_joined 71 = .ok (.ireturn, 1) := by decide +kernel
theorem dX4_joined_72 : decode cX4_joined 72 = .ok (.iload_n 1, 1) := by decide +kernel
theorem dX4_joined_73 : decode cX4_joined 73 = .ok (.iload_n 2, 1) := by decide +kernel
theorem dX4_joined_74 : decode cX4_joined 74 = .ok (.isub, 1) := by decide +kernel
theorem dX4_joined_75 : decode cX4_joined 75 = .ok (.ireturn, 1) := by decide +kernel
theorem dX4_joined_76 : decode cX4_joined 76 = .ok (.iload_n 1, 1) := by decide +kernel
theorem dX4_joined_77 : decode cX4_joined 77 = .ok (.iload_n 2, 1) := by decide +kernel
theorem dX4_joined_78 : decode cX4_joined 78 = .ok (.imul, 1) := by decide +kernel
theorem dX4_joined_79 : decode cX4_joined 79 = .ok (.ireturn, 1) := by decide +kernel
theorem dX4_joined_80 : decode cX4_joined 80 = .ok (.iload_n 1, 1) := by decide +kernel
theorem dX4_joined_81 : decode cX4_joined 81 = .ok (.iload_n 2, 1) := by decide +kernel
theorem dX4_joined_82 : decode cX4_joined 82 = .ok (.if_icmp .ge 7, 3) := by decide +kernel
theorem dX4_joined_85 : decode cX4_joined 85 = .ok (.iconst 1, 1) := by decide +kernel
theorem dX4_joined_86 : decode cX4_joined 86 = .ok (.goto 4, 3) := by decide +kernel
theorem dX4_joined_89 : decode cX4_joined 89 = .ok (.iconst 0, 1) := by decide +kernel
theorem dX4_joined_90 : decode cX4_joined 90 = .ok (.ireturn, 1) := by decide +kernel
theorem dX4_joined_91 : decode cX4_joined 91 = .ok (.iload_n 1, 1) := by decide +kernel
theorem dX4_joined_92 : decode cX4_joined 92 = .ok (.iload_n 2, 1) := by decide +kernel
theorem dX4_joined_93 : decode cX4_joined 93 = .ok (.if_icmp .ne 7, 3) := by decide +kernel
theorem dX4_joined_96 : decode cX4_joined 96 = .ok (.iconst 1, 1) := by decide +kernel
theorem dX4_joined_97 : decode cX4_joined 97 = .ok (.goto 4, 3) := by decide +kernel
theorem dX4_joined_100 : decode cX4_joined 100 = .ok (.iconst 0, 1) := by decide +kernel
theorem dX4_joined_101 : decode cX4_joined 101 = .ok (.ireturn, 1) := by decide +kernel
theorem dX4_joined_102 : decode cX4_joined 102 = .ok (.iload_n 1, 1) := by decide +kernel
theorem dX4_joined_103 : decode cX4_joined 103 = .ok (.ifCond .ne 7, 3) := by decide +kernel
theorem dX4_joined_106 : decode cX4_joined 106 = .ok (.iload_n 2, 1) := by decide +kernel
theorem dX4_joined_107 : decode cX4_joined 107 = .ok (.ifCond .eq 7, 3) := by decide +kernel
theorem dX4_joined_110 : decode cX4_joined 110 = .ok (.iconst 1, 1) := by decide +kernel
theorem dX4_joined_111 : decode cX4_joined 111 = .ok (.goto 4, 3) := by decide +kernel
theorem dX4_joined_114 : decode cX4_joined 114 = .ok (.iconst 0, 1) := by decide +kernel
theorem dX4_joined_115 : decode cX4_joined 115 = .ok (.ireturn, 1) := by decide +kernel
theorem dX4_joined_116 : decode cX4_joined 116 = .ok (.iload_n 1, 1) := by decide +kernel
theorem dX4_joined_117 : decode cX4_joined 117 = .ok (.ifCond .eq 11, 3) := by decide +kernel
theorem dX4_joined_120 : decode cX4_joined 120 = .ok (.iload_n 2, 1) := by decide +kernel
theorem dX4_joined_121 : decode cX4_joined 121 = .ok (.ifCond .eq 7, 3) := by decide +kernel
theorem dX4_joined_124 : decode cX4_joined 124 = .ok (.iconst 1, 1) := by decide +kernel
theorem dX4_joined_125 : decode cX4_joined 125 = .ok (.goto 4, 3) := by decide +kernel
theorem dX4_joined_128 : decode cX4_joined 128 = .ok (.iconst 0, 1) := by decide +kernel
theorem dX4_joined_129 : decode cX4_joined 129 = .ok (.ireturn, 1) := by decide +kernel
theorem dX4_joined_130 : decode cX4_joined 130 = .ok (.iconst 0, 1) := by decide +kernel
theorem dX4_joined_131 : decode cX4_joined 131 = .ok (.ireturn, 1) := by decide +kernel
theorem dX4_push_0 : decode cX4_push 0 = .ok (.aload_n 0, 1) := by decide +kernel
theorem dX4_push_1 : decode cX4_push 1 = .ok (.getfield 30, 3) := by decide +kernel
theorem dX4_push_4 : decode cX4_push 4 = .ok (.aload_n 0, 1) := by decide +kernel
theorem dX4_push_5 : decode cX4_push 5 = .ok (.getfield 27, 3) := by decide +kernel
theorem dX4_push_8 : decode cX4_push 8 = .ok (.arraylength, 1) := by decide +kernel
theorem dX4_push_9 : decode cX4_push 9 = .ok (.if_icmp .ge 23, 3) := by decide +kernel
theorem dX4_push_12 : decode cX4_push 12 = .ok (.aload_n 0, 1) := by decide +kernel
theorem dX4_push_13 : decode cX4_push 13 = .ok (.getfield 27, 3) := by decide +kernel
theorem dX4_push_16 : decode cX4_push 16 = .ok (.aload_n 0, 1) := by decide +kernel
theorem dX4_push_17 : decode cX4_push 17 = .ok (.getfield 30, 3) := by decide +kernel
theorem dX4_push_20 : decode cX4_push 20 = .ok (.iload_n 1, 1) := by decide +kernel
theorem dX4_push_21 : decode cX4_push 21 = .ok (.iastore, 1) := by decide +kernel
theorem dX4_push_22 : decode cX4_push 22 = .ok (.aload_n 0, 1) := by decide +kernel
theorem dX4_push_23 : decode cX4_push 23 = .ok (.dup, 1) := by decide +kernel
theorem dX4_push_24 : decode cX4_push 24 = .ok (.getfield 30, 3) := by decide +kernel
theorem dX4_push_27 : decode cX4_push 27 = .ok (.iconst 1, 1) := by decide +kernel
theorem dX4_push_28 : decode cX4_push 28 = .ok (.iadd, 1) := by decide +kernel
theorem dX4_push_29 : decode cX4_push 29 = .ok (.putfield 30, 3) := by decide +kernel
theorem dX4_push_32 : decode cX4_push 32 = .ok (.return_, 1) := by decide +kernel
theorem dX4_pop_0 : decode cX4_pop 0 = .ok (.aload_n 0, 1) := by decide +kernel
theorem dX4_pop_1 : decode cX4_pop 1 = .ok (.getfield 30, 3) := by decide +kernel
theorem dX4_pop_4 : decode cX4_pop 4 = .ok (.ifCond .gt 5, 3) := by decide +kernel
theorem dX4_pop_7 : decode cX4_pop 7 = .ok (.iconst 0, 1) := by decide +kernel
theorem dX4_pop_8 : decode cX4_pop 8 = .ok (.ireturn, 1) := by decide +kernel
theorem dX4_pop_9 : decode cX4_pop 9 = .ok (.aload_n 0, 1) := by decide +kernel
theorem dX4_pop_10 : decode cX4_pop 10 = .ok (.dup, 1) := by decide +kernel
theorem dX4_pop_11 : decode cX4_pop 11 = .ok (.getfield 30, 3) := by decide +kernel
theorem dX4_pop_14 : decode cX4_pop 14 = .ok (.iconst 1, 1) := by decide +kernel
theorem dX4_pop_15 : decode cX4_pop 15 = .ok (.isub, 1) := by decide +kernel
theorem dX4_pop_16 : decode cX4_pop 16 = .ok (.putfield 30, 3) := by decide +kernel
theorem dX4_pop_19 : decode cX4_pop 19 = .ok (.aload_n 0, 1) := by decide +kernel
theorem dX4_pop_20 : decode cX4_pop 20 = .ok (.getfield 27, 3) := by decide +kernel
theorem dX4_pop_23 : decode cX4_pop 23 = .ok (.aload_n 0, 1) := by decide +kernel
theorem dX4_pop_24 : decode cX4_pop 24 = .ok (.getfield 30, 3) := by decide +kernel
theorem dX4_pop_27 : decode cX4_pop 27 = .ok (.iaload, 1) := by decide +kernel
theorem dX4_pop_28 : decode cX4_pop 28 = .ok (.ireturn, 1) := by decide +kernel
theorem dX5_init_0 : decode cX5_init 0 = .ok (.aload_n 0, 1) := by decide +kernel
theorem dX5_init_1 : decode cX5_init 1 = .ok (.invokespecial 3, 3) := by decide +kernel
theorem dX5_init_4 : decode cX5_init 4 = .ok (.aload_n 0, 1) := by decide +kernel
theorem dX5_init_5 : decode cX5_init 5 = .ok (.bipush 16, 2) := by decide +kernel
theorem dX5_init_7 : decode cX5_init 7 = .ok (.newarray .int, 2) := by decide +kernel
theorem dX5_init_9 : decode cX5_init 9 = .ok (.putfield 9, 3) := by decide +kernel
theorem dX5_init_12 : decode cX5_init 12 = .ok (.aload_n 0, 1) := by decide +kernel
theorem dX5_init_13 : decode cX5_init 13 = .ok (.bipush 8, 2) := by decide +kernel
theorem dX5_init_15 : decode cX5_init 15 = .ok (.newarray .int, 2) := by decide +kernel
theorem dX5_init_17 : decode cX5_init 17 = .ok (.putfield 15, 3) := by decide +kernel
theorem dX5_init_20 : decode cX5_init 20 = .ok (.aload_n 0, 1) := by decide +kernel
theorem dX5_init_21 : decode cX5_init 21 = .ok (.bipush 8, 2) := by decide +kernel
theorem dX5_init_23 : decode cX5_init 23 = .ok (.newarray .int, 2) := by decide +kernel
theorem dX5_init_25 : decode cX5_init 25 = .ok (.putfield 18, 3) := by decide +kernel
theorem dX5_init_28 : decode cX5_init 28 = .ok (.aload_n 0, 1) := by decide +kernel
theorem dX5_init_29 : decode cX5_init 29 = .ok (.bipush 8, 2) := by decide +kernel
theorem dX5_init_31 : decode cX5_init 31 = .ok (.newarray .int, 2) := by decide +kernel
theorem dX5_init_33 : decode cX5_init 33 = .ok (.putfield 21, 3) := by decide +kernel
theorem dX5_init_36 : decode cX5_init 36 = .ok (.aload_n 0, 1) := by decide +kernel
theorem dX5_init_37 : decode cX5_init 37 = .ok (.bipush 8, 2) := by decide +kernel
theorem dX5_init_39 : decode cX5_init 39 = .ok (.newarray .int, 2) := by decide +kernel
theorem dX5_init_41 : decode cX5_init 41 = .ok (.putfield 24, 3) := by decide +kernel
theorem dX5_init_44 : decode cX5_init 44 = .ok (.aload_n 0, 1) := by decide +kernel
theorem dX5_init_45 : decode cX5_init 45 = .ok (.bipush 6, 2) := by decide +kernel
theorem dX5_init_47 : decode cX5_init 47 = .ok (.newarray .int, 2) := by decide +kernel
theorem dX5_init_49 : decode cX5_init 49 = .ok (.putfield 27, 3) := by decide +kernel
theorem dX5_init_52 : decode cX5_init 52 = .ok (.aload_n 0, 1) := by decide +kernel
theorem dX5_init_53 : decode cX5_init 53 = .ok (.bipush 6, 2) := by decide +kernel
theorem dX5_init_55 : decode cX5_init 55 = .ok (.newarray .int, 2) := by decide +kernel
theorem dX5_init_57 : decode cX5_init 57 = .ok (.putfield 30, 3) := by decide +kernel
theorem dX5_init_60 : decode cX5_init 60 = .ok (.aload_n 0, 1) := by decide +kernel
theorem dX5_init_61 : decode cX5_init 61 = .ok (.bipush 20, 2) := by decide +kernel
theorem dX5_init_63 : decode cX5_init 63 = .ok (.putfield 33, 3) := by decide +kernel
theorem dX5_init_66 : decode cX5_init 66 = .ok (.iconst 0, 1) := by decide +kernel
theorem dX5_init_67 : decode cX5_init 67 = .ok (.istore_n 1, 1) := by decide +kernel
theorem dX5_init_68 : decode cX5_init 68 = .ok (.iload_n 1, 1) := by decide +kernel
theorem dX5_init_69 : decode cX5_init 69 = .ok (.bipush 16, 2) := by decide +kernel
theorem dX5_init_71 : decode cX5_init 71 = .ok (.if_icmp .ge 17, 3) := by decide +kernel
theorem dX5_init_74 : decode cX5_init 74 = .ok (.aload_n 0, 1) := by decide +kernel
theorem dX5_init_75 : decode cX5_init 75 = .ok (.getfield 9, 3) := by decide +kernel
theorem dX5_init_78 : decode cX5_init 78 = .ok (.iload_n 1, 1) := by decide +kernel
theorem dX5_init_79 : decode cX5_init 79 = .ok (.bipush 10, 2) := by decide +kernel
theorem dX5_init_81 : decode cX5_init 81 = .ok (.iastore, 1) := by decide +kernel
theorem dX5_init_82 : decode cX5_init 82 = .ok (.iinc 1 1, 3) := by decide +kernel
theorem dX5_init_85 : decode cX5_init 85 = .ok (.goto (-17), 3) := by decide +kernel
theorem dX5_init_88 : decode cX5_init 88 = .ok (.return_, 1) := by decide +kernel
theorem dX5_become_0 : decode cX5_become 0 = .ok (.aload_n 1, 1) := by decide +kernel
theorem dX5_become_1 : decode cX5_become 1 = .ok (.getfield 9, 3) := by decide +kernel
theorem dX5_become_4 : decode cX5_become 4 = .ok (.iconst 0, 1) := by decide +kernel
theorem dX5_become_5 : decode cX5_become 5 = .ok (.aload_n 0, 1) := by decide +kernel
theorem dX5_become_6 : decode cX5_become 6 = .ok (.getfield 9, 3) := by decide +kernel
theorem dX5_become_9 : decode cX5_become 9 = .ok (.iconst 0, 1) := by decide +kernel
theorem dX5_become_10 : decode cX5_become 10 = .ok (.bipush 16, 2) := by decide +kernel
theorem dX5_become_12 : decode cX5_become 12 = .ok (.invokestatic 37, 3) := by decide +kernel
theorem dX5_become_15 : decode cX5_become 15 = .ok (.aload_n 1, 1) := by decide +kernel
theorem dX5_become_16 : decode cX5_become 16 = .ok (.getfield 15, 3) := by decide +kernel
theorem dX5_become_19 : decode cX5_become 19 = .ok (.iconst 0, 1) := by decide +kernel
theorem dX5_become_20 : decode cX5_become 20 = .ok (.aload_n 0, 1) := by decide +kernel
theorem dX5_become_21 : decode cX5_become 21 = .ok (.getfield 15, 3) := by decide +kernel
theorem dX5_become_24 : decode cX5_become 24 = .ok (.iconst 0, 1) := by decide +kernel
theorem dX5_become_25 : decode cX5_become 25 = .ok (.bipush 8, 2) := by decide +kernel
theorem dX5_become_27 : decode cX5_become 27 = .ok (.invokestatic 37, 3) := by decide +kernel
theorem dX5_become_30 : decode cX5_become 30 = .ok (.aload_n 1, 1) := by decide +kernel
theorem dX5_become_31 : decode cX5_become 31 = .ok (.getfield 18, 3) := by decide +kernel
theorem dX5_become_34 : decode cX5_become 34 = .ok (.iconst 0, 1) := by decide +kernel
theorem dX5_become_35 : decode cX5_become 35 = .ok (.aload_n 0, 1) := by decide +kernel
theorem dX5_become_36 : decode cX5_become 36 = .ok (.getfield 18, 3) := by decide +kernel
theorem dX5_become_39 : decode cX5_become 39 = .ok (.iconst 0, 1) := by decide +kernel
theorem dX5_become_40 : decode cX5_become 40 = .ok (.bipush 8, 2) := by decide +kernel
theorem dX5_become_42 : decode cX5_become 42 = .ok (.invokestatic 37, 3) := by decide +kernel
theorem dX5_become_45 : decode cX5_become 45 = .ok (.aload_n 1, 1) := by decide +kernel
theorem dX5_become_46 : decode cX5_become 46 = .ok (.getfield 21, 3) := by decide +kernel
theorem dX5_become_49 : decode cX5_become 49 = .ok (.iconst 0, 1) := by decide +kernel
theorem dX5_become_50 : decode cX5_become 50 = .ok (.aload_n 0, 1) := by decide +kernel
theorem dX5_become_51 : decode cX5_become 51 = .ok (.getfield 21, 3) := by decide +kernel
theorem dX5_become_54 : decode cX5_become 54 = .ok (.iconst 0, 1) := by decide +kernel
theorem dX5_become_55 : decode cX5_become 55 = .ok (.bipush 8, 2) := by decide +kernel
theorem dX5_become_57 : decode cX5_become 57 = .ok (.invokestatic 37, 3) := by decide +kernel
theorem dX5_become_60 : decode cX5_become 60 = .ok (.aload_n 1, 1) := by decide +kernel
theorem dX5_become_61 : decode cX5_become 61 = .ok (.getfield 24, 3) := by decide +kernel
theorem dX5_become_64 : decode cX5_become 64 = .ok (.iconst 0, 1) := by decide +kernel
theorem dX5_become_65 : decode cX5_become 65 = .ok (.aload_n 0, 1) := by decide +kernel
theorem dX5_become_66 : decode cX5_become 66 = .ok (.getfield 24, 3) := by decide +kernel
theorem dX5_become_69 : decode cX5_become 69 = .ok (.iconst 0, 1) := by decide +kernel
theorem dX5_become_70 : decode cX5_become 70 = .ok (.bipush 8, 2) := by decide +kernel
theorem dX5_become_72 : decode cX5_become 72 = .ok (.invokestatic 37, 3) := by decide +kernel
theorem dX5_become_75 : decode cX5_become 75 = .ok (.aload_n 0, 1) := by decide +kernel
theorem dX5_become_76 : decode cX5_become 76 = .ok (.aload_n 1, 1) := by decide +kernel
theorem dX5_become_77 : decode cX5_become 77 = .ok (.getfield 43, 3) := by decide +kernel
theorem dX5_become_80 : decode cX5_become 80 = .ok (.putfield 43, 3) := by decide +kernel
theorem dX5_become_83 : decode cX5_become 83 = .ok (.aload_n 1, 1) := by decide +kernel
theorem dX5_become_84 : decode cX5_become 84 = .ok (.getfield 27, 3) := by decide +kernel
theorem dX5_become_87 : decode cX5_become 87 = .ok (.iconst 0, 1) := by decide +kernel
theorem dX5_become_88 : decode cX5_become 88 = .ok (.aload_n 0, 1) := by decide +kernel
theorem dX5_become_89 : decode cX5_become 89 = .ok (.getfield 27, 3) := by decide +kernel
theorem dX5_become_92 : decode cX5_become 92 = .ok (.iconst 0, 1) := by decide +kernel
theorem dX5_become_93 : decode cX5_become 93 = .ok (.bipush 6, 2) := by decide +kernel
theorem dX5_become_95 : decode cX5_become 95 = .ok (.invokestatic 37, 3) := by decide +kernel
theorem dX5_become_98 : decode cX5_become 98 = .ok (.aload_n 1, 1) := by decide +kernel
theorem dX5_become_99 : decode cX5_become 99 = .ok (.getfield 30, 3) := by decide +kernel
theorem dX5_become_102 : decode cX5_become 102 = .ok (.iconst 0, 1) := by decide +kernel
theorem dX5_become_103 : decode cX5_become 103 = .ok (.aload_n 0, 1) := by decide +kernel
theorem dX5_become_104 : decode cX5_become 104 = .ok (.getfield 30, 3) := by decide +kernel
theorem dX5_become_107 : decode cX5_become 107 = .ok (.iconst 0, 1) := by decide +kernel
theorem dX5_become_108 : decode cX5_become 108 = .ok (.bipush 6, 2) := by decide +kernel
theorem dX5_become_110 : decode cX5_become 110 = .ok (.invokestatic 37, 3) := by decide +kernel
theorem dX5_become_113 : decode cX5_become 113 = .ok (.aload_n 0, 1) := by decide +kernel
theorem dX5_become_114 : decode cX5_become 114 = .ok (.aload_n 1, 1) := by decide +kernel
theorem dX5_become_115 : decode cX5_become 115 = .ok (.getfield 46, 3) := by decide +kernel
theorem dX5_become_118 : decode cX5_become 118 = .ok (.putfield 46, 3) := by decide +kernel
theorem dX5_become_121 : decode cX5_become 121 = .ok (.aload_n 0, 1) := by decide +kernel
theorem dX5_become_122 : decode cX5_become 122 = .ok (.aload_n 1, 1) := by decide +kernel
theorem dX5_become_123 : decode cX5_become 123 = .ok (.getfield 33, 3) := by decide +kernel
theorem dX5_become_126 : decode cX5_become 126 = .ok (.putfield 33, 3) := by decide +kernel
theorem dX5_become_129 : decode cX5_become 129 = .ok (.aload_n 0, 1) := by decide +kernel
theorem dX5_become_130 : decode cX5_become 130 = .ok (.aload_n 1, 1) := by decide +kernel
theorem dX5_become_131 : decode cX5_become 131 = .ok (.getfield 49, 3) := by decide +kernel
theorem dX5_become_134 : decode cX5_become 134 = .ok (.putfield 49, 3) := by decide +kernel
theorem dX5_become_137 : decode cX5_become 137 = .ok (.aload_n 0, 1) := by decide +kernel
theorem dX5_become_138 : decode cX5_become 138 = .ok (.aload_n 1, 1) := by decide +kernel
theorem dX5_become_139 : decode cX5_become 139 = .ok (.getfield 52, 3) := by decide +kernel
theorem dX5_become_142 : decode cX5_become 142 = .ok (.putfield 52, 3) := by decide +kernel
theorem dX5_become_145 : decode cX5_become 145 = .ok (.return_, 1) := by decide +kernel
theorem dX5_cakeOn_0 : decode cX5_cakeOn 0 = .ok (.iconst 0, 1) := by decide +kernel
theorem dX5_cakeOn_1 : decode cX5_cakeOn 1 = .ok (.istore_n 2, 1) := by decide +kernel
theorem dX5_cakeOn_2 : decode cX5_cakeOn 2 = .ok (.iload_n 2, 1) := by decide +kernel
theorem dX5_cakeOn_3 : decode cX5_cakeOn 3 = .ok (.aload_n 0, 1) := by decide +kernel
theorem dX5_cakeOn_4 : decode cX5_cakeOn 4 = .ok (.getfield 43, 3) := by decide +kernel
theorem dX5_cakeOn_7 : decode cX5_cakeOn 7 = .ok (.if_icmp .ge 21, 3) := by decide +kernel
theorem dX5_cakeOn_10 : decode cX5_cakeOn 10 = .ok (.aload_n 0, 1) := by decide +kernel
theorem dX5_cakeOn_11 : decode cX5_cakeOn 11 = .ok (.getfield 24, 3) := by decide +kernel
theorem dX5_cakeOn_14 : decode cX5_cakeOn 14 = .ok (.iload_n 2, 1) := by decide +kernel
theorem dX5_cakeOn_15 : decode cX5_cakeOn 15 = .ok (.iaload, 1) := by decide +kernel
theorem dX5_cakeOn_16 : decode cX5_cakeOn 16 = .ok (.iload_n 1, 1) := by decide +kernel
theorem dX5_cakeOn_17 : decode cX5_cakeOn 17 = .ok (.if_icmp .ne 5, 3) := by decide +kernel
theorem dX5_cakeOn_20 : decode cX5_cakeOn 20 = .ok (.iload_n 2, 1) := by decide +kernel
theorem dX5_cakeOn_21 : decode cX5_cakeOn 21 = .ok (.ireturn, 1) := by decide +kernel
theorem dX5_cakeOn_22 : decode cX5_cakeOn 22 = .ok (.iinc 2 1, 3) := by decide +kernel
theorem dX5_cakeOn_25 : decode cX5_cakeOn 25 = .ok (.goto (-23), 3) := by decide +kernel
theorem dX5_cakeOn_28 : decode cX5_cakeOn 28 = .ok (.iconst (-1), 1) := by decide +kernel
theorem dX5_cakeOn_29 : decode cX5_cakeOn 29 = .ok (.ireturn, 1) := by decide +kernel
theorem dX5_swapPlaces_0 : decode cX5_swapPlaces 0 = .ok (.aload_n 0, 1) := by decide +kernel
theorem dX5_swapPlaces_1 : decode cX5_swapPlaces 1 = .ok (.getfield 24, 3) := by decide +kernel
theorem dX5_swapPlaces_4 : decode cX5_swapPlaces 4 = .ok (.iload_n 1, 1) := by decide +kernel
theorem dX5_swapPlaces_5 : decode cX5_swapPlaces 5 = .ok (.iaload, 1) := by decide +kernel
theorem dX5_swapPlaces_6 : decode cX5_swapPlaces 6 = .ok (.istore_n 3, 1) := by decide +kernel
theorem dX5_swapPlaces_7 : decode cX5_swapPlaces 7 = .ok (.aload_n 0, 1) := by decide +kernel
theorem dX5_swapPlaces_8 : decode cX5_swapPlaces 8 = .ok (.getfield 24, 3) := by decide +kernel
theorem dX5_swapPlaces_11 : decode cX5_swapPlaces 11 = .ok (.iload_n 1, 1) := by decide +kernel
theorem dX5_swapPlaces_12 : decode cX5_swapPlaces 12 = .ok (.aload_n 0, 1) := by decide +kernel
theorem dX5_swapPlaces_13 : decode cX5_swapPlaces 13 = .ok (.getfield 24, 3) := by decide +kernel
theorem dX5_swapPlaces_16 : decode cX5_swapPlaces 16 = .ok (.iload_n 2, 1) := by decide +kernel
theorem dX5_swapPlaces_17 : decode cX5_swapPlaces 17 = .ok (.iaload, 1) := by decide +kernel
theorem dX5_swapPlaces_18 : decode cX5_swapPlaces 18 = .ok (.iastore, 1) := by decide +kernel
theorem dX5_swapPlaces_19 : decode cX5_swapPlaces 19 = .ok (.aload_n 0, 1) := by decide +kernel
theorem dX5_swapPlaces_20 : decode cX5_swapPlaces 20 = .ok (.getfield 24, 3) := by decide +kernel
theorem dX5_swapPlaces_23 : decode cX5_swapPlaces 23 = .ok (.iload_n 2, 1) := by decide +kernel
theorem dX5_swapPlaces_24 : decode cX5_swapPlaces 24 = .ok (.iload_n 3, 1) := by decide +kernel
theorem dX5_swapPlaces_25 : decode cX5_swapPlaces 25 = .ok (.iastore, 1) := by decide +kernel
theorem dX5_swapPlaces_26 : decode cX5_swapPlaces 26 = .ok (.return_, 1) := by decide +kernel
theorem dX5_plan_0 : decode cX5_plan 0 = .ok (.aload_n 0, 1) := by decide +kernel
theorem dX5_plan_1 : decode cX5_plan 1 = .ok (.getfield 27, 3) := by decide +kernel
theorem dX5_plan_4 : decode cX5_plan 4 = .ok (.iload_n 1, 1) := by decide +kernel
theorem dX5_plan_5 : decode cX5_plan 5 = .ok (.iload_n 2, 1) := by decide +kernel
theorem dX5_plan_6 : decode cX5_plan 6 = .ok (.iastore, 1) := by decide +kernel
theorem dX5_plan_7 : decode cX5_plan 7 = .ok (.aload_n 0, 1) := by decide +kernel
theorem dX5_plan_8 : decode cX5_plan 8 = .ok (.getfield 30, 3) := by decide +kernel
theorem dX5_plan_11 : decode cX5_plan 11 = .ok (.iload_n 1, 1) := by decide +kernel
theorem dX5_plan_12 : decode cX5_plan 12 = .ok (.iload_n 3, 1) := by decide +kernel
theorem dX5_plan_13 : decode cX5_plan 13 = .ok (.iastore, 1) := by decide +kernel
theorem dX5_plan_14 : decode cX5_plan 14 = .ok (.aload_n 0, 1) := by decide +kernel
theorem dX5_plan_15 : decode cX5_plan 15 = .ok (.iload_n 1, 1) := by decide +kernel
theorem dX5_plan_16 : decode cX5_plan 16 = .ok (.iconst 1, 1) := by decide +kernel
theorem dX5_plan_17 : decode cX5_plan 17 = .ok (.iadd, 1) := by decide +kernel
theorem dX5_plan_18 : decode cX5_plan 18 = .ok (.putfield 46, 3) := by decide +kernel
theorem dX5_plan_21 : decode cX5_plan 21 = .ok (.return_, 1) := by decide +kernel
theorem dX6_init_0 : decode cX6_init 0 = .ok (.aload_n 0, 1) := by decide +kernel
theorem dX6_init_1 : decode cX6_init 1 = .ok (.invokespecial 3, 3) := by decide +kernel
theorem dX6_init_4 : decode cX6_init 4 = .ok (.aload_n 0, 1) := by decide +kernel
theorem dX6_init_5 : decode cX6_init 5 = .ok (.sipush 160, 3) := by decide +kernel
theorem dX6_init_8 : decode cX6_init 8 = .ok (.newarray .int, 2) := by decide +kernel
theorem dX6_init_10 : decode cX6_init 10 = .ok (.putfield 9, 3) := by decide +kernel
theorem dX6_init_13 : decode cX6_init 13 = .ok (.aload_n 0, 1) := by decide +kernel
theorem dX6_init_14 : decode cX6_init 14 = .ok (.sipush 160, 3) := by decide +kernel
theorem dX6_init_17 : decode cX6_init 17 = .ok (.newarray .int, 2) := by decide +kernel
theorem dX6_init_19 : decode cX6_init 19 = .ok (.putfield 15, 3) := by decide +kernel
theorem dX6_init_22 : decode cX6_init 22 = .ok (.aload_n 0, 1) := by decide +kernel
theorem dX6_init_23 : decode cX6_init 23 = .ok (.iconst 4, 1) := by decide +kernel
theorem dX6_init_24 : decode cX6_init 24 = .ok (.newarray .int, 2) := by decide +kernel
theorem dX6_init_26 : decode cX6_init 26 = .ok (.putfield 18, 3) := by decide +kernel
theorem dX6_init_29 : decode cX6_init 29 = .ok (.return_, 1) := by decide +kernel
theorem dX6_take_0 : decode cX6_take 0 = .ok (.aload_n 0, 1) := by decide +kernel
theorem dX6_take_1 : decode cX6_take 1 = .ok (.getfield 21, 3) := by decide +kernel
theorem dX6_take_4 : decode cX6_take 4 = .ok (.aload_n 0, 1) := by decide +kernel
theorem dX6_take_5 : decode cX6_take 5 = .ok (.getfield 9, 3) := by decide +kernel
theorem dX6_take_8 : decode cX6_take 8 = .ok (.arraylength, 1) := by decide +kernel
theorem dX6_take_9 : decode cX6_take 9 = .ok (.if_icmp .ge 23, 3) := by decide +kernel
theorem dX6_take_12 : decode cX6_take 12 = .ok (.aload_n 0, 1) := by decide +kernel
theorem dX6_take_13 : decode cX6_take 13 = .ok (.getfield 9, 3) := by decide +kernel
theorem dX6_take_16 : decode cX6_take 16 = .ok (.aload_n 0, 1) := by decide +kernel
theorem dX6_take_17 : decode cX6_take 17 = .ok (.getfield 21, 3) := by decide +kernel
theorem dX6_take_20 : decode cX6_take 20 = .ok (.iload_n 1, 1) := by decide +kernel
theorem dX6_take_21 : decode cX6_take 21 = .ok (.iastore, 1) := by decide +kernel
theorem dX6_take_22 : decode cX6_take 22 = .ok (.aload_n 0, 1) := by decide +kernel
theorem dX6_take_23 : decode cX6_take 23 = .ok (.dup, 1) := by decide +kernel
theorem dX6_take_24 : decode cX6_take 24 = .ok (.getfield 21, 3) := by decide +kernel
theorem dX6_take_27 : decode cX6_take 27 = .ok (.iconst 1, 1) := by decide +kernel
theorem dX6_take_28 : decode cX6_take 28 = .ok (.iadd, 1) := by decide +kernel
theorem dX6_take_29 : decode cX6_take 29 = .ok (.putfield 21, 3) := by decide +kernel
theorem dX6_take_32 : decode cX6_take 32 = .ok (.return_, 1) := by decide +kernel
theorem dX6_byteAt_0 : decode cX6_byteAt 0 = .ok (.iload_n 1, 1) := by decide +kernel
theorem dX6_byteAt_1 : decode cX6_byteAt 1 = .ok (.ifCond .lt 29, 3) := by decide +kernel
theorem dX6_byteAt_4 : decode cX6_byteAt 4 = .ok (.iload_n 1, 1) := by decide +kernel
theorem dX6_byteAt_5 : decode cX6_byteAt 5 = .ok (.aload_n 0, 1) := by decide +kernel
theorem dX6_byteAt_6 : decode cX6_byteAt 6 = .ok (.getfield 21, 3) := by decide +kernel
theorem dX6_byteAt_9 : decode cX6_byteAt 9 = .ok (.if_icmp .ge 21, 3) := by decide +kernel
theorem dX6_byteAt_12 : decode cX6_byteAt 12 = .ok (.iload_n 1, 1) := by decide +kernel
theorem dX6_byteAt_13 : decode cX6_byteAt 13 = .ok (.aload_n 0, 1) := by decide +kernel
theorem dX6_byteAt_14 : decode cX6_byteAt 14 = .ok (.getfield 9, 3) := by decide +kernel
theorem dX6_byteAt_17 : decode cX6_byteAt 17 = .ok (.arraylength, 1) := by decide +kernel
theorem dX6_byteAt_18 : decode cX6_byteAt 18 = .ok (.if_icmp .ge 12, 3) := by decide +kernel
theorem dX6_byteAt_21 : decode cX6_byteAt 21 = .ok (.aload_n 0, 1) := by decide +kernel
theorem dX6_byteAt_22 : decode cX6_byteAt 22 = .ok (.getfield 9, 3) := by decide +kernel
theorem dX6_byteAt_25 : decode cX6_byteAt 25 = .ok (.iload_n 1, 1) := by decide +kernel
theorem dX6_byteAt_26 : decode cX6_byteAt 26 = .ok (.iaload, 1) := by decide +kernel
theorem dX6_byteAt_27 : decode cX6_byteAt 27 = .ok (.goto 4, 3) := by decide +kernel
theorem dX6_byteAt_30 : decode cX6_byteAt 30 = .ok (.iconst (-1), 1) := by decide +kernel
theorem dX6_byteAt_31 : decode cX6_byteAt 31 = .ok (.ireturn, 1) := by decide +kernel
theorem dX6_read_0 : decode cX6_read 0 = .ok (.aload_n 0, 1) := by decide +kernel
theorem dX6_read_1 : decode cX6_read 1 = .ok (.iconst 0, 1) := by decide +kernel
theorem dX6_read_2 : decode cX6_read 2 = .ok (.putfield 25, 3) := by decide +kernel
theorem dX6_read_5 : decode cX6_read 5 = .ok (.aload_n 0, 1) := by decide +kernel
theorem dX6_read_6 : decode cX6_read 6 = .ok (.iconst 0, 1) := by decide +kernel
theorem dX6_read_7 : decode cX6_read 7 = .ok (.putfield 28, 3) := by decide +kernel
theorem dX6_read_10 : decode cX6_read 10 = .ok (.aload_n 0, 1) := by decide +kernel
theorem dX6_read_11 : decode cX6_read 11 = .ok (.iconst 0, 1) := by decide +kernel
theorem dX6_read_12 : decode cX6_read 12 = .ok (.putfield 31, 3) := by decide +kernel
theorem dX6_read_15 : decode cX6_read 15 = .ok (.aload_n 0, 1) := by decide +kernel
theorem dX6_read_16 : decode cX6_read 16 = .ok (.invokevirtual 34, 3) := by decide +kernel
theorem dX6_read_19 : decode cX6_read 19 = .ok (.iconst 0, 1) := by decide +kernel
theorem dX6_read_20 : decode cX6_read 20 = .ok (.istore_n 1, 1) := by decide +kernel
theorem dX6_read_21 : decode cX6_read 21 = .ok (.iload_n 1, 1) := by decide +kernel
theorem dX6_read_22 : decode cX6_read 22 = .ok (.iconst 3, 1) := by decide +kernel
theorem dX6_read_23 : decode cX6_read 23 = .ok (.if_icmp .ge 58, 3) := by decide +kernel
theorem dX6_read_26 : decode cX6_read 26 = .ok (.aload_n 0, 1) := by decide +kernel
theorem dX6_read_27 : decode cX6_read 27 = .ok (.getfield 18, 3) := by decide +kernel
theorem dX6_read_30 : decode cX6_read 30 = .ok (.iload_n 1, 1) := by decide +kernel
theorem dX6_read_31 : decode cX6_read 31 = .ok (.aload_n 0, 1) := by decide +kernel
theorem dX6_read_32 : decode cX6_read 32 = .ok (.getfield 25, 3) := by decide +kernel
theorem dX6_read_35 : decode cX6_read 35 = .ok (.iastore, 1) := by decide +kernel
theorem dX6_read_36 : decode cX6_read 36 = .ok (.aload_n 0, 1) := by decide +kernel
theorem dX6_read_37 : decode cX6_read 37 = .ok (.getfield 37, 3) := by decide +kernel
theorem dX6_read_40 : decode cX6_read 40 = .ok (.bipush 100, 2) := by decide +kernel
theorem dX6_read_42 : decode cX6_read 42 = .ok (.iload_n 1, 1) := by decide +kernel
theorem dX6_read_43 : decode cX6_read 43 = .ok (.iadd, 1) := by decide +kernel
theorem dX6_read_44 : decode cX6_read 44 = .ok (.if_icmp .eq 5, 3) := by decide +kernel
theorem dX6_read_47 : decode cX6_read 47 = .ok (.iconst 0, 1) := by decide +kernel
theorem dX6_read_48 : decode cX6_read 48 = .ok (.ireturn, 1) := by decide +kernel
theorem dX6_read_49 : decode cX6_read 49 = .ok (.aload_n 0, 1) := by decide +kernel
theorem dX6_read_50 : decode cX6_read 50 = .ok (.invokevirtual 34, 3) := by decide +kernel
theorem dX6_read_53 : decode cX6_read 53 = .ok (.aload_n 0, 1) := by decide +kernel
theorem dX6_read_54 : decode cX6_read 54 = .ok (.invokevirtual 42, 3) := by decide +kernel
theorem dX6_read_57 : decode cX6_read 57 = .ok (.ifCond .eq 12, 3) := by decide +kernel
theorem dX6_read_60 : decode cX6_read 60 = .ok (.aload_n 0, 1) := by decide +kernel
theorem dX6_read_61 : decode cX6_read 61 = .ok (.getfield 37, 3) := by decide +kernel
theorem dX6_read_64 : decode cX6_read 64 = .ok (.bipush 59, 2) := by decide +kernel
theorem dX6_read_66 : decode cX6_read 66 = .ok (.if_icmp .eq 5, 3) := by decide +kernel
theorem dX6_read_69 : decode cX6_read 69 = .ok (.iconst 0, 1) := by decide +kernel
theorem dX6_read_70 : decode cX6_read 70 = .ok (.ireturn, 1) := by decide +kernel
theorem dX6_read_71 : decode cX6_read 71 = .ok (.aload_n 0, 1) := by decide +kernel
theorem dX6_read_72 : decode cX6_read 72 = .ok (.invokevirtual 34, 3) := by decide +kernel
theorem dX6_read_75 : decode cX6_read 75 = .ok (.iinc 1 1, 3) := by decide +kernel
theorem dX6_read_78 : decode cX6_read 78 = .ok (.goto (-57), 3) := by decide +kernel
theorem dX6_read_81 : decode cX6_read 81 = .ok (.aload_n 0, 1) := by decide +kernel
theorem dX6_read_82 : decode cX6_read 82 = .ok (.getfield 18, 3) := by decide +kernel
theorem dX6_read_85 : decode cX6_read 85 = .ok (.iconst 3, 1) := by decide +kernel
theorem dX6_read_86 : decode cX6_read 86 = .ok (.aload_n 0, 1) := by decide +kernel
theorem dX6_read_87 : decode cX6_read 87 = .ok (.getfield 25, 3) := by decide +kernel
theorem dX6_read_90 : decode cX6_read 90 = .ok (.iastore, 1) := by decide +kernel
theorem dX6_read_91 : decode cX6_read 91 = .ok (.aload_n 0, 1) := by decide +kernel
theorem dX6_read_92 : decode cX6_read 92 = .ok (.getfield 37, 3) := by decide +kernel
theorem dX6_read_95 : decode cX6_read 95 = .ok (.ifCond .ne 7, 3) := by decide +kernel
theorem dX6_read_98 : decode cX6_read 98 = .ok (.iconst 1, 1) := by decide +kernel
theorem dX6_read_99 : decode cX6_read 99 = .ok (.goto 4, 3) := by decide +kernel
theorem dX6_read_102 : decode cX6_read 102 = .ok (.iconst 0, 1) := by decide +kernel
theorem dX6_read_103 : decode cX6_read 103 = .ok (.ireturn, 1) := by decide +kernel
theorem dX6_law_0 : decode cX6_law 0 = .ok (.new 40, 3) := by decide +kernel
theorem dX6_law_3 : decode cX6_law 3 = .ok (.dup, 1) := by decide +kernel
theorem dX6_law_4 : decode cX6_law 4 = .ok (.aload_n 0, 1) := by decide +kernel
theorem dX6_law_5 : decode cX6_law 5 = .ok (.getfield 15, 3) := by decide +kernel
theorem dX6_law_8 : decode cX6_law 8 = .ok (.aload_n 0, 1) := by decide +kernel
theorem dX6_law_9 : decode cX6_law 9 = .ok (.getfield 25, 3) := by decide +kernel
theorem dX6_law_12 : decode cX6_law 12 = .ok (.aload_n 0, 1) := by decide +kernel
theorem dX6_law_13 : decode cX6_law 13 = .ok (.getfield 18, 3) := by decide +kernel
theorem dX6_law_16 : decode cX6_law 16 = .ok (.invokespecial 46, 3) := by decide +kernel
theorem dX6_law_19 : decode cX6_law 19 = .ok (.areturn, 1) := by decide +kernel
theorem dX6_add_0 : decode cX6_add 0 = .ok (.aload_n 0, 1) := by decide +kernel
theorem dX6_add_1 : decode cX6_add 1 = .ok (.getfield 25, 3) := by decide +kernel
theorem dX6_add_4 : decode cX6_add 4 = .ok (.aload_n 0, 1) := by decide +kernel
theorem dX6_add_5 : decode cX6_add 5 = .ok (.getfield 15, 3) := by decide +kernel
theorem dX6_add_8 : decode cX6_add 8 = .ok (.arraylength, 1) := by decide +kernel
theorem dX6_add_9 : decode cX6_add 9 = .ok (.if_icmp .ge 23, 3) := by decide +kernel
theorem dX6_add_12 : decode cX6_add 12 = .ok (.aload_n 0, 1) := by decide +kernel
theorem dX6_add_13 : decode cX6_add 13 = .ok (.getfield 15, 3) := by decide +kernel
theorem dX6_add_16 : decode cX6_add 16 = .ok (.aload_n 0, 1) := by decide +kernel
theorem dX6_add_17 : decode cX6_add 17 = .ok (.getfield 25, 3) := by decide +kernel
theorem dX6_add_20 : decode cX6_add 20 = .ok (.iload_n 1, 1) := by decide +kernel
theorem dX6_add_21 : decode cX6_add 21 = .ok (.iastore, 1) := by decide +kernel
theorem dX6_add_22 : decode cX6_add 22 = .ok (.aload_n 0, 1) := by decide +kernel
theorem dX6_add_23 : decode cX6_add 23 = .ok (.dup, 1) := by decide +kernel
theorem dX6_add_24 : decode cX6_add 24 = .ok (.getfield 25, 3) := by decide +kernel
theorem dX6_add_27 : decode cX6_add 27 = .ok (.iconst 1, 1) := by decide +kernel
theorem dX6_add_28 : decode cX6_add 28 = .ok (.iadd, 1) := by decide +kernel
theorem dX6_add_29 : decode cX6_add 29 = .ok (.putfield 25, 3) := by decide +kernel
theorem dX6_add_32 : decode cX6_add 32 = .ok (.return_, 1) := by decide +kernel
theorem dX6_advance_0 : decode cX6_advance 0 = .ok (.aload_n 0, 1) := by decide +kernel
theorem dX6_advance_1 : decode cX6_advance 1 = .ok (.aload_n 0, 1) := by decide +kernel
theorem dX6_advance_2 : decode cX6_advance 2 = .ok (.getfield 31, 3) := by decide +kernel
theorem dX6_advance_5 : decode cX6_advance 5 = .ok (.putfield 49, 3) := by decide +kernel
theorem dX6_advance_8 : decode cX6_advance 8 = .ok (.aload_n 0, 1) := by decide +kernel
theorem dX6_advance_9 : decode cX6_advance 9 = .ok (.getfield 49, 3) := by decide +kernel
theorem dX6_advance_12 : decode cX6_advance 12 = .ok (.aload_n 0, 1) := by decide +kernel
theorem dX6_advance_13 : decode cX6_advance 13 = .ok (.getfield 21, 3) := by decide +kernel
theorem dX6_advance_16 : decode cX6_advance 16 = .ok (.if_icmp .ge 42, 3) := by decide +kernel
theorem dX6_advance_19 : decode cX6_advance 19 = .ok (.aload_n 0, 1) := by decide +kernel
theorem dX6_advance_20 : decode cX6_advance 20 = .ok (.aload_n 0, 1) := by decide +kernel
theorem dX6_advance_21 : decode cX6_advance 21 = .ok (.getfield 49, 3) := by decide +kernel
theorem dX6_advance_24 : decode cX6_advance 24 = .ok (.invokevirtual 52, 3) := by decide +kernel
theorem dX6_advance_27 : decode cX6_advance 27 = .ok (.bipush 32, 2) := by decide +kernel
theorem dX6_advance_29 : decode cX6_advance 29 = .ok (.if_icmp .eq 16, 3) := by decide +kernel
theorem dX6_advance_32 : decode cX6_advance 32 = .ok (.aload_n 0, 1) := by decide +kernel
theorem dX6_advance_33 : decode cX6_advance 33 = .ok (.aload_n 0, 1) := by decide +kernel
theorem dX6_advance_34 : decode cX6_advance 34 = .ok (.getfield 49, 3) := by decide +kernel
theorem dX6_advance_37 : decode cX6_advance 37 = .ok (.invokevirtual 52, 3) := by decide +kernel
theorem dX6_advance_40 : decode cX6_advance 40 = .ok (.bipush 10, 2) := by decide +kernel
theorem dX6_advance_42 : decode cX6_advance 42 = .ok (.if_icmp .ne 16, 3) := by decide +kernel
theorem dX6_advance_45 : decode cX6_advance 45 = .ok (.aload_n 0, 1) := by decide +kernel
theorem dX6_advance_46 : decode cX6_advance 46 = .ok (.dup, 1) := by decide +kernel
theorem dX6_advance_47 : decode cX6_advance 47 = .ok (.getfield 49, 3) := by decide +kernel
theorem dX6_advance_50 : decode cX6_advance 50 = .ok (.iconst 1, 1) := by decide +kernel
theorem dX6_advance_51 : decode cX6_advance 51 = .ok (.iadd, 1) := by decide +kernel
theorem dX6_advance_52 : decode cX6_advance 52 = .ok (.putfield 49, 3) := by decide +kernel
theorem dX6_advance_55 : decode cX6_advance 55 = .ok (.goto (-47), 3) := by decide +kernel
theorem dX6_advance_58 : decode cX6_advance 58 = .ok (.aload_n 0, 1) := by decide +kernel
theorem dX6_advance_59 : decode cX6_advance 59 = .ok (.aload_n 0, 1) := by decide +kernel
theorem dX6_advance_60 : decode cX6_advance 60 = .ok (.getfield 49, 3) := by decide +kernel
theorem dX6_advance_63 : decode cX6_advance 63 = .ok (.invokevirtual 52, 3) := by decide +kernel
theorem dX6_advance_66 : decode cX6_advance 66 = .ok (.istore_n 1, 1) := by decide +kernel
theorem dX6_advance_67 : decode cX6_advance 67 = .ok (.iload_n 1, 1) := by decide +kernel
theorem dX6_advance_68 : decode cX6_advance 68 = .ok (.iconst (-1), 1) := by decide +kernel
theorem dX6_advance_69 : decode cX6_advance 69 = .ok (.if_icmp .ne 11, 3) := by decide +kernel
theorem dX6_advance_72 : decode cX6_advance 72 = .ok (.aload_n 0, 1) := by decide +kernel
theorem dX6_advance_73 : decode cX6_advance 73 = .ok (.iconst 0, 1) := by decide +kernel
theorem dX6_advance_74 : decode cX6_advance 74 = .ok (.putfield 37, 3) := by decide +kernel
theorem dX6_advance_77 : decode cX6_advance 77 = .ok (.goto 46, 3) := by decide +kernel
theorem dX6_advance_80 : decode cX6_advance 80 = .ok (.iload_n 1, 1) := by decide +kernel
theorem dX6_advance_81 : decode cX6_advance 81 = .ok (.bipush 97, 2) := by decide +kernel
theorem dX6_advance_83 : decode cX6_advance 83 = .ok (.if_icmp .lt 16, 3) := by decide +kernel
theorem dX6_advance_86 : decode cX6_advance 86 = .ok (.iload_n 1, 1) := by decide +kernel
theorem dX6_advance_87 : decode cX6_advance 87 = .ok (.bipush 122, 2) := by decide +kernel
theorem dX6_advance_89 : decode cX6_advance 89 = .ok (.if_icmp .gt 10, 3) := by decide +kernel
theorem dX6_advance_92 : decode cX6_advance 92 = .ok (.aload_n 0, 1) := by decide +kernel
theorem dX6_advance_93 : decode cX6_advance 93 = .ok (.invokevirtual 56, 3) := by decide +kernel
theorem dX6_advance_96 : decode cX6_advance 96 = .ok (.goto 27, 3) := by decide +kernel
theorem dX6_advance_99 : decode cX6_advance 99 = .ok (.iload_n 1, 1) := by decide +kernel
theorem dX6_advance_100 : decode cX6_advance 100 = .ok (.bipush 48, 2) := by decide +kernel
theorem dX6_advance_102 : decode cX6_advance 102 = .ok (.if_icmp .lt 16, 3) := by decide +kernel
theorem dX6_advance_105 : decode cX6_advance 105 = .ok (.iload_n 1, 1) := by decide +kernel
theorem dX6_advance_106 : decode cX6_advance 106 = .ok (.bipush 57, 2) := by decide +kernel
theorem dX6_advance_108 : decode cX6_advance 108 = .ok (.if_icmp .gt 10, 3) := by decide +kernel
theorem dX6_advance_111 : decode cX6_advance 111 = .ok (.aload_n 0, 1) := by decide +kernel
theorem dX6_advance_112 : decode cX6_advance 112 = .ok (.invokevirtual 59, 3) := by decide +kernel
theorem dX6_advance_115 : decode cX6_advance 115 = .ok (.goto 8, 3) := by decide +kernel
theorem dX6_advance_118 : decode cX6_advance 118 = .ok (.aload_n 0, 1) := by decide +kernel
theorem dX6_advance_119 : decode cX6_advance 119 = .ok (.iload_n 1, 1) := by decide +kernel
theorem dX6_advance_120 : decode cX6_advance 120 = .ok (.invokevirtual 62, 3) := by decide +kernel
theorem dX6_advance_123 : decode cX6_advance 123 = .ok (.return_, 1) := by decide +kernel
theorem dX6_endOf_0 : decode cX6_endOf 0 = .ok (.aload_n 0, 1) := by decide +kernel
theorem dX6_endOf_1 : decode cX6_endOf 1 = .ok (.getfield 49, 3) := by decide +kernel
theorem dX6_endOf_4 : decode cX6_endOf 4 = .ok (.istore_n 3, 1) := by decide +kernel
theorem dX6_endOf_5 : decode cX6_endOf 5 = .ok (.iload_n 3, 1) := by decide +kernel
theorem dX6_endOf_6 : decode cX6_endOf 6 = .ok (.aload_n 0, 1) := by decide +kernel
theorem dX6_endOf_7 : decode cX6_endOf 7 = .ok (.getfield 21, 3) := by decide +kernel
theorem dX6_endOf_10 : decode cX6_endOf 10 = .ok (.if_icmp .ge 27, 3) := by decide +kernel
theorem dX6_endOf_13 : decode cX6_endOf 13 = .ok (.aload_n 0, 1) := by decide +kernel
theorem dX6_endOf_14 : decode cX6_endOf 14 = .ok (.iload_n 3, 1) := by decide +kernel
theorem dX6_endOf_15 : decode cX6_endOf 15 = .ok (.invokevirtual 52, 3) := by decide +kernel
theorem dX6_endOf_18 : decode cX6_endOf 18 = .ok (.iload_n 1, 1) := by decide +kernel
theorem dX6_endOf_19 : decode cX6_endOf 19 = .ok (.if_icmp .lt 18, 3) := by decide +kernel
theorem dX6_endOf_22 : decode cX6_endOf 22 = .ok (.aload_n 0, 1) := by decide +kernel
theorem dX6_endOf_23 : decode cX6_endOf 23 = .ok (.iload_n 3, 1) := by decide +kernel
theorem dX6_endOf_24 : decode cX6_endOf 24 = .ok (.invokevirtual 52, 3) := by decide +kernel
theorem dX6_endOf_27 : decode cX6_endOf 27 = .ok (.iload_n 2, 1) := by decide +kernel
theorem dX6_endOf_28 : decode cX6_endOf 28 = .ok (.if_icmp .gt 9, 3) := by decide +kernel
theorem dX6_endOf_31 : decode cX6_endOf 31 = .ok (.iinc 3 1, 3) := by decide +kernel
theorem dX6_endOf_34 : decode cX6_endOf 34 = .ok (.goto (-29), 3) := by decide +kernel
theorem dX6_endOf_37 : decode cX6_endOf 37 = .ok (.iload_n 3, 1) := by decide +kernel
theorem dX6_endOf_38 : decode cX6_endOf 38 = .ok (.ireturn, 1) := by decide +kernel
theorem dX6_readWord_0 : decode cX6_readWord 0 = .ok (.aload_n 0, 1) := by decide +kernel
theorem dX6_readWord_1 : decode cX6_readWord 1 = .ok (.aload_n 0, 1) := by decide +kernel
theorem dX6_readWord_2 : decode cX6_readWord 2 = .ok (.bipush 97, 2) := by decide +kernel
theorem dX6_readWord_4 : decode cX6_readWord 4 = .ok (.bipush 122, 2) := by decide +kernel
theorem dX6_readWord_6 : decode cX6_readWord 6 = .ok (.invokevirtual 66, 3) := by decide +kernel
theorem dX6_readWord_9 : decode cX6_readWord 9 = .ok (.putfield 31, 3) := by decide +kernel
theorem dX6_readWord_12 : decode cX6_readWord 12 = .ok (.aload_n 0, 1) := by decide +kernel
theorem dX6_readWord_13 : decode cX6_readWord 13 = .ok (.iconst 1, 1) := by decide +kernel
theorem dX6_readWord_14 : decode cX6_readWord 14 = .ok (.putfield 37, 3) := by decide +kernel
theorem dX6_readWord_17 : decode cX6_readWord 17 = .ok (.iconst 0, 1) := by decide +kernel
theorem dX6_readWord_18 : decode cX6_readWord 18 = .ok (.istore_n 1, 1) := by decide +kernel
theorem dX6_readWord_19 : decode cX6_readWord 19 = .ok (.iload_n 1, 1) := by decide +kernel
theorem dX6_readWord_20 : decode cX6_readWord 20 = .ok (.bipush 12, 2) := by decide +kernel
theorem dX6_readWord_22 : decode cX6_readWord 22 = .ok (.if_icmp .ge 28, 3) := by decide +kernel
theorem dX6_readWord_25 : decode cX6_readWord 25 = .ok (.aload_n 0, 1) := by decide +kernel
theorem dX6_readWord_26 : decode cX6_readWord 26 = .ok (.iload_n 1, 1) := by decide +kernel
theorem dX6_readWord_27 : decode cX6_readWord 27 = .ok (.invokestatic 70, 3) := by decide +kernel
theorem dX6_readWord_30 : decode cX6_readWord 30 = .ok (.invokevirtual 74, 3) := by decide +kernel
theorem dX6_readWord_33 : decode cX6_readWord 33 = .ok (.ifCond .eq 11, 3) := by decide +kernel
theorem dX6_readWord_36 : decode cX6_readWord 36 = .ok (.aload_n 0, 1) := by decide +kernel
theorem dX6_readWord_37 : decode cX6_readWord 37 = .ok (.bipush 100, 2) := by decide +kernel
theorem dX6_readWord_39 : decode cX6_readWord 39 = .ok (.iload_n 1, 1) := by decide +kernel
theorem dX6_readWord_40 : decode cX6_readWord 40 = .ok (.iadd, 1) := by decide +kernel
theorem dX6_readWord_41 : decode cX6_readWord 41 = .ok (.putfield 37, 3) := by decide +kernel
theorem dX6_readWord_44 : decode cX6_readWord 44 = .ok (.iinc 1 1, 3) := by decide +kernel
theorem dX6_readWord_47 : decode cX6_readWord 47 = .ok (.goto (-28), 3) := by decide +kernel
theorem dX6_readWord_50 : decode cX6_readWord 50 = .ok (.return_, 1) := by decide +kernel
theorem dX6_readNumber_0 : decode cX6_readNumber 0 = .ok (.aload_n 0, 1) := by decide +kernel
theorem dX6_readNumber_1 : decode cX6_readNumber 1 = .ok (.aload_n 0, 1) := by decide +kernel
theorem dX6_readNumber_2 : decode cX6_readNumber 2 = .ok (.bipush 48, 2) := by decide +kernel
theorem dX6_readNumber_4 : decode cX6_readNumber 4 = .ok (.bipush 57, 2) := by decide +kernel
theorem dX6_readNumber_6 : decode cX6_readNumber 6 = .ok (.invokevirtual 66, 3) := by decide +kernel
theorem dX6_readNumber_9 : decode cX6_readNumber 9 = .ok (.putfield 31, 3) := by decide +kernel
theorem dX6_readNumber_12 : decode cX6_readNumber 12 = .ok (.aload_n 0, 1) := by decide +kernel
theorem dX6_readNumber_13 : decode cX6_readNumber 13 = .ok (.aload_n 0, 1) := by decide +kernel
theorem dX6_readNumber_14 : decode cX6_readNumber 14 = .ok (.getfield 31, 3) := by decide +kernel
theorem dX6_readNumber_17 : decode cX6_readNumber 17 = .ok (.aload_n 0, 1) := by decide +kernel
theorem dX6_readNumber_18 : decode cX6_readNumber 18 = .ok (.getfield 49, 3) := by decide +kernel
theorem dX6_readNumber_21 : decode cX6_readNumber 21 = .ok (.isub, 1) := by decide +kernel
theorem dX6_readNumber_22 : decode cX6_readNumber 22 = .ok (.iconst 4, 1) := by decide +kernel
theorem dX6_readNumber_23 : decode cX6_readNumber 23 = .ok (.if_icmp .le 7, 3) := by decide +kernel
theorem dX6_readNumber_26 : decode cX6_readNumber 26 = .ok (.iconst 1, 1) := by decide +kernel
theorem dX6_readNumber_27 : decode cX6_readNumber 27 = .ok (.goto 4, 3) := by decide +kernel
theorem dX6_readNumber_30 : decode cX6_readNumber 30 = .ok (.iconst 2, 1) := by decide +kernel
theorem dX6_readNumber_31 : decode cX6_readNumber 31 = .ok (.putfield 37, 3) := by decide +kernel
theorem dX6_readNumber_34 : decode cX6_readNumber 34 = .ok (.aload_n 0, 1) := by decide +kernel
theorem dX6_readNumber_35 : decode cX6_readNumber 35 = .ok (.iconst 0, 1) := by decide +kernel
theorem dX6_readNumber_36 : decode cX6_readNumber 36 = .ok (.putfield 78, 3) := by decide +kernel
theorem dX6_readNumber_39 : decode cX6_readNumber 39 = .ok (.aload_n 0, 1) := by decide +kernel
theorem dX6_readNumber_40 : decode cX6_readNumber 40 = .ok (.getfield 49, 3) := by decide +kernel
theorem dX6_readNumber_43 : decode cX6_readNumber 43 = .ok (.istore_n 1, 1) := by decide +kernel
theorem dX6_readNumber_44 : decode cX6_readNumber 44 = .ok (.iload_n 1, 1) := by decide +kernel
theorem dX6_readNumber_45 : decode cX6_readNumber 45 = .ok (.aload_n 0, 1) := by decide +kernel
theorem dX6_readNumber_46 : decode cX6_readNumber 46 = .ok (.getfield 31, 3) := by decide +kernel
theorem dX6_readNumber_49 : decode cX6_readNumber 49 = .ok (.if_icmp .ge 37, 3) := by decide +kernel
theorem dX6_readNumber_52 : decode cX6_readNumber 52 = .ok (.aload_n 0, 1) := by decide +kernel
theorem dX6_readNumber_53 : decode cX6_readNumber 53 = .ok (.getfield 37, 3) := by decide +kernel
theorem dX6_readNumber_56 : decode cX6_readNumber 56 = .ok (.iconst 2, 1) := by decide +kernel
theorem dX6_readNumber_57 : decode cX6_readNumber 57 = .ok (.if_icmp .ne 29, 3) := by decide +kernel
theorem dX6_readNumber_60 : decode cX6_readNumber 60 = .ok (.aload_n 0, 1) := by decide +kernel
theorem dX6_readNumber_61 : decode cX6_readNumber 61 = .ok (.bipush 10, 2) := by decide +kernel
theorem dX6_readNumber_63 : decode cX6_readNumber 63 = .ok (.aload_n 0, 1) := by decide +kernel
theorem dX6_readNumber_64 : decode cX6_readNumber 64 = .ok (.getfield 78, 3) := by decide +kernel
theorem dX6_readNumber_67 : decode cX6_readNumber 67 = .ok (.imul, 1) := by decide +kernel
theorem dX6_readNumber_68 : decode cX6_readNumber 68 = .ok (.aload_n 0, 1) := by decide +kernel
theorem dX6_readNumber_69 : decode cX6_readNumber 69 = .ok (.iload_n 1, 1) := by decide +kernel
theorem dX6_readNumber_70 : decode cX6_readNumber 70 = .ok (.invokevirtual 52, 3) := by decide +kernel
theorem dX6_readNumber_73 : decode cX6_readNumber 73 = .ok (.iadd, 1) := by decide +kernel
theorem dX6_readNumber_74 : decode cX6_readNumber 74 = .ok (.bipush 48, 2) := by decide +kernel
theorem dX6_readNumber_76 : decode cX6_readNumber 76 = .ok (.isub, 1) := by decide +kernel
theorem dX6_readNumber_77 : decode cX6_readNumber 77 = .ok (.putfield 78, 3) := by decide +kernel
theorem dX6_readNumber_80 : decode cX6_readNumber 80 = .ok (.iinc 1 1, 3) := by decide +kernel
theorem dX6_readNumber_83 : decode cX6_readNumber 83 = .ok (.goto (-39), 3) := by decide +kernel
theorem dX6_readNumber_86 : decode cX6_readNumber 86 = .ok (.return_, 1) := by decide +kernel
theorem dX6_readSign_0 : decode cX6_readSign 0 = .ok (.aload_n 0, 1) := by decide +kernel
theorem dX6_readSign_1 : decode cX6_readSign 1 = .ok (.aload_n 0, 1) := by decide +kernel
theorem dX6_readSign_2 : decode cX6_readSign 2 = .ok (.getfield 49, 3) := by decide +kernel
theorem dX6_readSign_5 : decode cX6_readSign 5 = .ok (.iconst 1, 1) := by decide +kernel
theorem dX6_readSign_6 : decode cX6_readSign 6 = .ok (.iadd, 1) := by decide +kernel
theorem dX6_readSign_7 : decode cX6_readSign 7 = .ok (.putfield 31, 3) := by decide +kernel
theorem dX6_readSign_10 : decode cX6_readSign 10 = .ok (.iload_n 1, 1) := by decide +kernel
theorem dX6_readSign_11 : decode cX6_readSign 11 = .ok (.tableswitch 109 40 61 #[101, 101, 101, 101, 109, 101, 109, 109, 109, 109, 109, 109, 109, 109, 109, 109, 109, 109, 109, 101, 101, 101], 101) := by decide +kernel
theorem dX6_readSign_112 : decode cX6_readSign 112 = .ok (.aload_n 0, 1) := by decide +kernel
theorem dX6_readSign_113 : decode cX6_readSign 113 = .ok (.iload_n 1, 1) := by decide +kernel
theorem dX6_readSign_114 : decode cX6_readSign 114 = .ok (.putfield 37, 3) := by decide +kernel
theorem dX6_readSign_117 : decode cX6_readSign 117 = .ok (.goto 8, 3) := by decide +kernel
theorem dX6_readSign_120 : decode cX6_readSign 120 = .ok (.aload_n 0, 1) := by decide +kernel
theorem dX6_readSign_121 : decode cX6_readSign 121 = .ok (.iconst 1, 1) := by decide +kernel
theorem dX6_readSign_122 : decode cX6_readSign 122 = .ok (.putfield 37, 3) := by decide +kernel
theorem dX6_readSign_125 : decode cX6_readSign 125 = .ok (.return_, 1) := by decide +kernel
theorem dX6_isHere_0 : decode cX6_isHere 0 = .ok (.aload_n 1, 1) := by decide +kernel
theorem dX6_isHere_1 : decode cX6_isHere 1 = .ok (.invokevirtual 81, 3) := by decide +kernel
theorem dX6_isHere_4 : decode cX6_isHere 4 = .ok (.aload_n 0, 1) := by decide +kernel
theorem dX6_isHere_5 : decode cX6_isHere 5 = .ok (.getfield 31, 3) := by decide +kernel
theorem dX6_isHere_8 : decode cX6_isHere 8 = .ok (.aload_n 0, 1) := by decide +kernel
theorem dX6_isHere_9 : decode cX6_isHere 9 = .ok (.getfield 49, 3) := by decide +kernel
theorem dX6_isHere_12 : decode cX6_isHere 12 = .ok (.isub, 1) := by decide +kernel
theorem dX6_isHere_13 : decode cX6_isHere 13 = .ok (.if_icmp .eq 5, 3) := by decide +kernel
theorem dX6_isHere_16 : decode cX6_isHere 16 = .ok (.iconst 0, 1) := by decide +kernel
theorem dX6_isHere_17 : decode cX6_isHere 17 = .ok (.ireturn, 1) := by decide +kernel
theorem dX6_isHere_18 : decode cX6_isHere 18 = .ok (.iconst 0, 1) := by decide +kernel
theorem dX6_isHere_19 : decode cX6_isHere 19 = .ok (.istore_n 2, 1) := by decide +kernel
theorem dX6_isHere_20 : decode cX6_isHere 20 = .ok (.iload_n 2, 1) := by decide +kernel
theorem dX6_isHere_21 : decode cX6_isHere 21 = .ok (.aload_n 1, 1) := by decide +kernel
theorem dX6_isHere_22 : decode cX6_isHere 22 = .ok (.invokevirtual 81, 3) := by decide +kernel
theorem dX6_isHere_25 : decode cX6_isHere 25 = .ok (.if_icmp .ge 29, 3) := by decide +kernel
theorem dX6_isHere_28 : decode cX6_isHere 28 = .ok (.aload_n 1, 1) := by decide +kernel
theorem dX6_isHere_29 : decode cX6_isHere 29 = .ok (.iload_n 2, 1) := by decide +kernel
theorem dX6_isHere_30 : decode cX6_isHere 30 = .ok (.invokevirtual 87, 3) := by decide +kernel
theorem dX6_isHere_33 : decode cX6_isHere 33 = .ok (.aload_n 0, 1) := by decide +kernel
theorem dX6_isHere_34 : decode cX6_isHere 34 = .ok (.aload_n 0, 1) := by decide +kernel
theorem dX6_isHere_35 : decode cX6_isHere 35 = .ok (.getfield 49, 3) := by decide +kernel
theorem dX6_isHere_38 : decode cX6_isHere 38 = .ok (.iload_n 2, 1) := by decide +kernel
theorem dX6_isHere_39 : decode cX6_isHere 39 = .ok (.iadd, 1) := by decide +kernel
theorem dX6_isHere_40 : decode cX6_isHere 40 = .ok (.invokevirtual 52, 3) := by decide +kernel
theorem dX6_isHere_43 : decode cX6_isHere 43 = .ok (.if_icmp .eq 5, 3) := by decide +kernel
theorem dX6_isHere_46 : decode cX6_isHere 46 = .ok (.iconst 0, 1) := by decide +kernel
theorem dX6_isHere_47 : decode cX6_isHere 47 = .ok (.ireturn, 1) := by decide +kernel
theorem dX6_isHere_48 : decode cX6_isHere 48 = .ok (.iinc 2 1, 3) := by decide +kernel
theorem dX6_isHere_51 : decode cX6_isHere 51 = .ok (.goto (-31), 3) := by decide +kernel
theorem dX6_isHere_54 : decode cX6_isHere 54 = .ok (.iconst 1, 1) := by decide +kernel
theorem dX6_isHere_55 : decode cX6_isHere 55 = .ok (.ireturn, 1) := by decide +kernel
theorem dX6_word_0 : decode cX6_word 0 = .ok (.iload_n 0, 1) := by decide +kernel
theorem dX6_word_1 : decode cX6_word 1 = .ok (.tableswitch 92 0 10 #[59, 62, 65, 68, 71, 74, 77, 80, 83, 86, 89], 59) := by decide +kernel
theorem dX6_word_60 : decode cX6_word 60 = .ok (.ldc 91, 2) := by decide +kernel
theorem dX6_word_62 : decode cX6_word 62 = .ok (.areturn, 1) := by decide +kernel
theorem dX6_word_63 : decode cX6_word 63 = .ok (.ldc 93, 2) := by decide +kernel
theorem dX6_word_65 : decode cX6_word 65 = .ok (.areturn, 1) := by decide +kernel
theorem dX6_word_66 : decode cX6_word 66 = .ok (.ldc 95, 2) := by decide +kernel
theorem dX6_word_68 : decode cX6_word 68 = .ok (.areturn, 1) := by decide +kernel
theorem dX6_word_69 : decode cX6_word 69 = .ok (.ldc 97, 2) := by decide +kernel
theorem dX6_word_71 : decode cX6_word 71 = .ok (.areturn, 1) := by decide +kernel
theorem dX6_word_72 : decode cX6_word 72 = .ok (.ldc 99, 2) := by decide +kernel
theorem dX6_word_74 : decode cX6_word 74 = .ok (.areturn, 1) := by decide +kernel
theorem dX6_word_75 : decode cX6_word 75 = .ok (.ldc 101, 2) := by decide +kernel
theorem dX6_word_77 : decode cX6_word 77 = .ok (.areturn, 1) := by decide +kernel
theorem dX6_word_78 : decode cX6_word 78 = .ok (.ldc 103, 2) := by decide +kernel
theorem dX6_word_80 : decode cX6_word 80 = .ok (.areturn, 1) := by decide +kernel
theorem dX6_word_81 : decode cX6_word 81 = .ok (.ldc 105, 2) := by decide +kernel
theorem dX6_word_83 : decode cX6_word 83 = .ok (.areturn, 1) := by decide +kernel
theorem dX6_word_84 : decode cX6_word 84 = .ok (.ldc 107, 2) := by decide +kernel
theorem dX6_word_86 : decode cX6_word 86 = .ok (.areturn, 1) := by decide +kernel
theorem dX6_word_87 : decode cX6_word 87 = .ok (.ldc 109, 2) := by decide +kernel
theorem dX6_word_89 : decode cX6_word 89 = .ok (.areturn, 1) := by decide +kernel
theorem dX6_word_90 : decode cX6_word 90 = .ok (.ldc 111, 2) := by decide +kernel
theorem dX6_word_92 : decode cX6_word 92 = .ok (.areturn, 1) := by decide +kernel
theorem dX6_word_93 : decode cX6_word 93 = .ok (.ldc 113, 2) := by decide +kernel
theorem dX6_word_95 : decode cX6_word 95 = .ok (.areturn, 1) := by decide +kernel
theorem dX6_readOr_0 : decode cX6_readOr 0 = .ok (.aload_n 0, 1) := by decide +kernel
theorem dX6_readOr_1 : decode cX6_readOr 1 = .ok (.invokevirtual 115, 3) := by decide +kernel
theorem dX6_readOr_4 : decode cX6_readOr 4 = .ok (.istore_n 1, 1) := by decide +kernel
theorem dX6_readOr_5 : decode cX6_readOr 5 = .ok (.iconst 0, 1) := by decide +kernel
theorem dX6_readOr_6 : decode cX6_readOr 6 = .ok (.istore_n 2, 1) := by decide +kernel
theorem dX6_readOr_7 : decode cX6_readOr 7 = .ok (.iload_n 2, 1) := by decide +kernel
theorem dX6_readOr_8 : decode cX6_readOr 8 = .ok (.aload_n 0, 1) := by decide +kernel
theorem dX6_readOr_9 : decode cX6_readOr 9 = .ok (.getfield 21, 3) := by decide +kernel
theorem dX6_readOr_12 : decode cX6_readOr 12 = .ok (.if_icmp .ge 37, 3) := by decide +kernel
theorem dX6_readOr_15 : decode cX6_readOr 15 = .ok (.iload_n 1, 1) := by decide +kernel
theorem dX6_readOr_16 : decode cX6_readOr 16 = .ok (.ifCond .eq 33, 3) := by decide +kernel
theorem dX6_readOr_19 : decode cX6_readOr 19 = .ok (.aload_n 0, 1) := by decide +kernel
theorem dX6_readOr_20 : decode cX6_readOr 20 = .ok (.getfield 37, 3) := by decide +kernel
theorem dX6_readOr_23 : decode cX6_readOr 23 = .ok (.bipush 103, 2) := by decide +kernel
theorem dX6_readOr_25 : decode cX6_readOr 25 = .ok (.if_icmp .ne 24, 3) := by decide +kernel
theorem dX6_readOr_28 : decode cX6_readOr 28 = .ok (.aload_n 0, 1) := by decide +kernel
theorem dX6_readOr_29 : decode cX6_readOr 29 = .ok (.invokevirtual 34, 3) := by decide +kernel
theorem dX6_readOr_32 : decode cX6_readOr 32 = .ok (.aload_n 0, 1) := by decide +kernel
theorem dX6_readOr_33 : decode cX6_readOr 33 = .ok (.invokevirtual 115, 3) := by decide +kernel
theorem dX6_readOr_36 : decode cX6_readOr 36 = .ok (.istore_n 1, 1) := by decide +kernel
theorem dX6_readOr_37 : decode cX6_readOr 37 = .ok (.aload_n 0, 1) := by decide +kernel
theorem dX6_readOr_38 : decode cX6_readOr 38 = .ok (.bipush (-103), 2) := by decide +kernel
theorem dX6_readOr_40 : decode cX6_readOr 40 = .ok (.invokevirtual 118, 3) := by decide +kernel
theorem dX6_readOr_43 : decode cX6_readOr 43 = .ok (.iinc 2 1, 3) := by decide +kernel
theorem dX6_readOr_46 : decode cX6_readOr 46 = .ok (.goto (-39), 3) := by decide +kernel
theorem dX6_readOr_49 : decode cX6_readOr 49 = .ok (.iload_n 1, 1) := by decide +kernel
theorem dX6_readOr_50 : decode cX6_readOr 50 = .ok (.ireturn, 1) := by decide +kernel
theorem dX6_readAnd_0 : decode cX6_readAnd 0 = .ok (.aload_n 0, 1) := by decide +kernel
theorem dX6_readAnd_1 : decode cX6_readAnd 1 = .ok (.invokevirtual 121, 3) := by decide +kernel
theorem dX6_readAnd_4 : decode cX6_readAnd 4 = .ok (.istore_n 1, 1) := by decide +kernel
theorem dX6_readAnd_5 : decode cX6_readAnd 5 = .ok (.iconst 0, 1) := by decide +kernel
theorem dX6_readAnd_6 : decode cX6_readAnd 6 = .ok (.istore_n 2, 1) := by decide +kernel
theorem dX6_readAnd_7 : decode cX6_readAnd 7 = .ok (.iload_n 2, 1) := by decide +kernel
theorem dX6_readAnd_8 : decode cX6_readAnd 8 = .ok (.aload_n 0, 1) := by decide +kernel
theorem dX6_readAnd_9 : decode cX6_readAnd 9 = .ok (.getfield 21, 3) := by decide +kernel
theorem dX6_readAnd_12 : decode cX6_readAnd 12 = .ok (.if_icmp .ge 37, 3) := by decide +kernel
theorem dX6_readAnd_15 : decode cX6_readAnd 15 = .ok (.iload_n 1, 1) := by decide +kernel
theorem dX6_readAnd_16 : decode cX6_readAnd 16 = .ok (.ifCond .eq 33, 3) := by decide +kernel
theorem dX6_readAnd_19 : decode cX6_readAnd 19 = .ok (.aload_n 0, 1) := by decide +kernel
theorem dX6_readAnd_20 : decode cX6_readAnd 20 = .ok (.getfield 37, 3) := by decide +kernel
theorem dX6_readAnd_23 : decode cX6_readAnd 23 = .ok (.bipush 104, 2) := by decide +kernel
theorem dX6_readAnd_25 : decode cX6_readAnd 25 = .ok (.if_icmp .ne 24, 3) := by decide +kernel
theorem dX6_readAnd_28 : decode cX6_readAnd 28 = .ok (.aload_n 0, 1) := by decide +kernel
theorem dX6_readAnd_29 : decode cX6_readAnd 29 = .ok (.invokevirtual 34, 3) := by decide +kernel
theorem dX6_readAnd_32 : decode cX6_readAnd 32 = .ok (.aload_n 0, 1) := by decide +kernel
theorem dX6_readAnd_33 : decode cX6_readAnd 33 = .ok (.invokevirtual 121, 3) := by decide +kernel
theorem dX6_readAnd_36 : decode cX6_readAnd 36 = .ok (.istore_n 1, 1) := by decide +kernel
theorem dX6_readAnd_37 : decode cX6_readAnd 37 = .ok (.aload_n 0, 1) := by decide +kernel
theorem dX6_readAnd_38 : decode cX6_readAnd 38 = .ok (.bipush (-104), 2) := by decide +kernel
theorem dX6_readAnd_40 : decode cX6_readAnd 40 = .ok (.invokevirtual 118, 3) := by decide +kernel
theorem dX6_readAnd_43 : decode cX6_readAnd 43 = .ok (.iinc 2 1, 3) := by decide +kernel
theorem dX6_readAnd_46 : decode cX6_readAnd 46 = .ok (.goto (-39), 3) := by decide +kernel
theorem dX6_readAnd_49 : decode cX6_readAnd 49 = .ok (.iload_n 1, 1) := by decide +kernel
theorem dX6_readAnd_50 : decode cX6_readAnd 50 = .ok (.ireturn, 1) := by decide +kernel
theorem dX6_readNot_0 : decode cX6_readNot 0 = .ok (.aload_n 0, 1) := by decide +kernel
theorem dX6_readNot_1 : decode cX6_readNot 1 = .ok (.getfield 37, 3) := by decide +kernel
theorem dX6_readNot_4 : decode cX6_readNot 4 = .ok (.bipush 105, 2) := by decide +kernel
theorem dX6_readNot_6 : decode cX6_readNot 6 = .ok (.if_icmp .eq 8, 3) := by decide +kernel
theorem dX6_readNot_9 : decode cX6_readNot 9 = .ok (.aload_n 0, 1) := by decide +kernel
theorem dX6_readNot_10 : decode cX6_readNot 10 = .ok (.invokevirtual 124, 3) := by decide +kernel
theorem dX6_readNot_13 : decode cX6_readNot 13 = .ok (.ireturn, 1) := by decide +kernel
theorem dX6_readNot_14 : decode cX6_readNot 14 = .ok (.aload_n 0, 1) := by decide +kernel
theorem dX6_readNot_15 : decode cX6_readNot 15 = .ok (.getfield 28, 3) := by decide +kernel
theorem dX6_readNot_18 : decode cX6_readNot 18 = .ok (.iconst 5, 1) := by decide +kernel
theorem dX6_readNot_19 : decode cX6_readNot 19 = .ok (.if_icmp .lt 5, 3) := by decide +kernel
theorem dX6_readNot_22 : decode cX6_readNot 22 = .ok (.iconst 0, 1) := by decide +kernel
theorem dX6_readNot_23 : decode cX6_readNot 23 = .ok (.ireturn, 1) := by decide +kernel
theorem dX6_readNot_24 : decode cX6_readNot 24 = .ok (.aload_n 0, 1) := by decide +kernel
theorem dX6_readNot_25 : decode cX6_readNot 25 = .ok (.dup, 1) := by decide +kernel
theorem dX6_readNot_26 : decode cX6_readNot 26 = .ok (.getfield 28, 3) := by decide +kernel
theorem dX6_readNot_29 : decode cX6_readNot 29 = .ok (.iconst 1, 1) := by decide +kernel
theorem dX6_readNot_30 : decode cX6_readNot 30 = .ok (.iadd, 1) := by decide +kernel
theorem dX6_readNot_31 : decode cX6_readNot 31 = .ok (.putfield 28, 3) := by decide +kernel
theorem dX6_readNot_34 : decode cX6_readNot 34 = .ok (.aload_n 0, 1) := by decide +kernel
theorem dX6_readNot_35 : decode cX6_readNot 35 = .ok (.invokevirtual 34, 3) := by decide +kernel
theorem dX6_readNot_38 : decode cX6_readNot 38 = .ok (.aload_n 0, 1) := by decide +kernel
theorem dX6_readNot_39 : decode cX6_readNot 39 = .ok (.invokevirtual 121, 3) := by decide +kernel
theorem dX6_readNot_42 : decode cX6_readNot 42 = .ok (.istore_n 1, 1) := by decide +kernel
theorem dX6_readNot_43 : decode cX6_readNot 43 = .ok (.aload_n 0, 1) := by decide +kernel
theorem dX6_readNot_44 : decode cX6_readNot 44 = .ok (.dup, 1) := by decide +kernel
theorem dX6_readNot_45 : decode cX6_readNot 45 = .ok (.getfield 28, 3) := by decide +kernel
theorem dX6_readNot_48 : decode cX6_readNot 48 = .ok (.iconst 1, 1) := by decide +kernel
theorem dX6_readNot_49 : decode cX6_readNot 49 = .ok (.isub, 1) := by decide +kernel
theorem dX6_readNot_50 : decode cX6_readNot 50 = .ok (.putfield 28, 3) := by decide +kernel
theorem dX6_readNot_53 : decode cX6_readNot 53 = .ok (.aload_n 0, 1) := by decide +kernel
theorem dX6_readNot_54 : decode cX6_readNot 54 = .ok (.bipush (-105), 2) := by decide +kernel
theorem dX6_readNot_56 : decode cX6_readNot 56 = .ok (.invokevirtual 118, 3) := by decide +kernel
theorem dX6_readNot_59 : decode cX6_readNot 59 = .ok (.iload_n 1, 1) := by decide +kernel
theorem dX6_readNot_60 : decode cX6_readNot 60 = .ok (.ireturn, 1) := by decide +kernel
theorem dX6_readCompared_0 : decode cX6_readCompared 0 = .ok (.aload_n 0, 1) := by decide +kernel
theorem dX6_readCompared_1 : decode cX6_readCompared 1 = .ok (.invokevirtual 127, 3) := by decide +kernel
theorem dX6_readCompared_4 : decode cX6_readCompared 4 = .ok (.istore_n 1, 1) := by decide +kernel
theorem dX6_readCompared_5 : decode cX6_readCompared 5 = .ok (.aload_n 0, 1) := by decide +kernel
theorem dX6_readCompared_6 : decode cX6_readCompared 6 = .ok (.getfield 37, 3) := by decide +kernel
theorem dX6_readCompared_9 : decode cX6_readCompared 9 = .ok (.istore_n 2, 1) := by decide +kernel
theorem dX6_readCompared_10 : decode cX6_readCompared 10 = .ok (.iload_n 1, 1) := by decide +kernel
theorem dX6_readCompared_11 : decode cX6_readCompared 11 = .ok (.ifCond .eq 30, 3) := by decide +kernel
theorem dX6_readCompared_14 : decode cX6_readCompared 14 = .ok (.iload_n 2, 1) := by decide +kernel
theorem dX6_readCompared_15 : decode cX6_readCompared 15 = .ok (.bipush 60, 2) := by decide +kernel
theorem dX6_readCompared_17 : decode cX6_readCompared 17 = .ok (.if_icmp .eq 9, 3) := by decide +kernel
theorem dX6_readCompared_20 : decode cX6_readCompared 20 = .ok (.iload_n 2, 1) := by decide +kernel
theorem dX6_readCompared_21 : decode cX6_readCompared 21 = .ok (.bipush 61, 2) := by decide +kernel
theorem dX6_readCompared_23 : decode cX6_readCompared 23 = .ok (.if_icmp .ne 18, 3) := by decide +kernel
theorem dX6_readCompared_26 : decode cX6_readCompared 26 = .ok (.aload_n 0, 1) := by decide +kernel
theorem dX6_readCompared_27 : decode cX6_readCompared 27 = .ok (.invokevirtual 34, 3) := by decide +kernel
theorem dX6_readCompared_30 : decode cX6_readCompared 30 = .ok (.aload_n 0, 1) := by decide +kernel
theorem dX6_readCompared_31 : decode cX6_readCompared 31 = .ok (.invokevirtual 127, 3) := by decide +kernel
theorem dX6_readCompared_34 : decode cX6_readCompared 34 = .ok (.istore_n 1, 1) := by decide +kernel
theorem dX6_readCompared_35 : decode cX6_readCompared 35 = .ok (.aload_n 0, 1) := by decide +kernel
theorem dX6_readCompared_36 : decode cX6_readCompared 36 = .ok (.iload_n 2, 1) := by decide +kernel
theorem dX6_readCompared_37 : decode cX6_readCompared 37 = .ok (.ineg, 1) := by decide +kernel
theorem dX6_readCompared_38 : decode cX6_readCompared 38 = .ok (.invokevirtual 118, 3) := by decide +kernel
theorem dX6_readCompared_41 : decode cX6_readCompared 41 = .ok (.iload_n 1, 1) := by decide +kernel
theorem dX6_readCompared_42 : decode cX6_readCompared 42 = .ok (.ireturn, 1) := by decide +kernel
theorem dX6_readSum_0 : decode cX6_readSum 0 = .ok (.aload_n 0, 1) := by decide +kernel
theorem dX6_readSum_1 : decode cX6_readSum 1 = .ok (.invokevirtual 130, 3) := by decide +kernel
theorem dX6_readSum_4 : decode cX6_readSum 4 = .ok (.istore_n 1, 1) := by decide +kernel
theorem dX6_readSum_5 : decode cX6_readSum 5 = .ok (.iconst 0, 1) := by decide +kernel
theorem dX6_readSum_6 : decode cX6_readSum 6 = .ok (.istore_n 2, 1) := by decide +kernel
theorem dX6_readSum_7 : decode cX6_readSum 7 = .ok (.iload_n 2, 1) := by decide +kernel
theorem dX6_readSum_8 : decode cX6_readSum 8 = .ok (.aload_n 0, 1) := by decide +kernel
theorem dX6_readSum_9 : decode cX6_readSum 9 = .ok (.getfield 21, 3) := by decide +kernel
theorem dX6_readSum_12 : decode cX6_readSum 12 = .ok (.if_icmp .ge 51, 3) := by decide +kernel
theorem dX6_readSum_15 : decode cX6_readSum 15 = .ok (.iload_n 1, 1) := by decide +kernel
theorem dX6_readSum_16 : decode cX6_readSum 16 = .ok (.ifCond .eq 47, 3) := by decide +kernel
theorem dX6_readSum_19 : decode cX6_readSum 19 = .ok (.aload_n 0, 1) := by decide +kernel
theorem dX6_readSum_20 : decode cX6_readSum 20 = .ok (.getfield 37, 3) := by decide +kernel
theorem dX6_readSum_23 : decode cX6_readSum 23 = .ok (.bipush 43, 2) := by decide +kernel
theorem dX6_readSum_25 : decode cX6_readSum 25 = .ok (.if_icmp .eq 12, 3) := by decide +kernel
theorem dX6_readSum_28 : decode cX6_readSum 28 = .ok (.aload_n 0, 1) := by decide +kernel
theorem dX6_readSum_29 : decode cX6_readSum 29 = .ok (.getfield 37, 3) := by decide +kernel
theorem dX6_readSum_32 : decode cX6_readSum 32 = .ok (.bipush 45, 2) := by decide +kernel
theorem dX6_readSum_34 : decode cX6_readSum 34 = .ok (.if_icmp .ne 29, 3) := by decide +kernel
theorem dX6_readSum_37 : decode cX6_readSum 37 = .ok (.aload_n 0, 1) := by decide +kernel
theorem dX6_readSum_38 : decode cX6_readSum 38 = .ok (.getfield 37, 3) := by decide +kernel
theorem dX6_readSum_41 : decode cX6_readSum 41 = .ok (.istore_n 3, 1) := by decide +kernel
theorem dX6_readSum_42 : decode cX6_readSum 42 = .ok (.aload_n 0, 1) := by decide +kernel
theorem dX6_readSum_43 : decode cX6_readSum 43 = .ok (.invokevirtual 34, 3) := by decide +kernel
theorem dX6_readSum_46 : decode cX6_readSum 46 = .ok (.aload_n 0, 1) := by decide +kernel
theorem dX6_readSum_47 : decode cX6_readSum 47 = .ok (.invokevirtual 130, 3) := by decide +kernel
theorem dX6_readSum_50 : decode cX6_readSum 50 = .ok (.istore_n 1, 1) := by decide +kernel
theorem dX6_readSum_51 : decode cX6_readSum 51 = .ok (.aload_n 0, 1) := by decide +kernel
theorem dX6_readSum_52 : decode cX6_readSum 52 = .ok (.iload_n 3, 1) := by decide +kernel
theorem dX6_readSum_53 : decode cX6_readSum 53 = .ok (.ineg, 1) := by decide +kernel
theorem dX6_readSum_54 : decode cX6_readSum 54 = .ok (.invokevirtual 118, 3) := by decide +kernel
theorem dX6_readSum_57 : decode cX6_readSum 57 = .ok (.iinc 2 1, 3) := by decide +kernel
theorem dX6_readSum_60 : decode cX6_readSum 60 = .ok (.goto (-53), 3) := by decide +kernel
theorem dX6_readSum_63 : decode cX6_readSum 63 = .ok (.iload_n 1, 1) := by decide +kernel
theorem dX6_readSum_64 : decode cX6_readSum 64 = .ok (.ireturn, 1) := by decide +kernel
theorem dX6_readTerm_0 : decode cX6_readTerm 0 = .ok (.aload_n 0, 1) := by decide +kernel
theorem dX6_readTerm_1 : decode cX6_readTerm 1 = .ok (.invokevirtual 133, 3) := by decide +kernel
theorem dX6_readTerm_4 : decode cX6_readTerm 4 = .ok (.istore_n 1, 1) := by decide +kernel
theorem dX6_readTerm_5 : decode cX6_readTerm 5 = .ok (.iconst 0, 1) := by decide +kernel
theorem dX6_readTerm_6 : decode cX6_readTerm 6 = .ok (.istore_n 2, 1) := by decide +kernel
theorem dX6_readTerm_7 : decode cX6_readTerm 7 = .ok (.iload_n 2, 1) := by decide +kernel
theorem dX6_readTerm_8 : decode cX6_readTerm 8 = .ok (.aload_n 0, 1) := by decide +kernel
theorem dX6_readTerm_9 : decode cX6_readTerm 9 = .ok (.getfield 21, 3) := by decide +kernel
theorem dX6_readTerm_12 : decode cX6_readTerm 12 = .ok (.if_icmp .ge 37, 3) := by decide +kernel
theorem dX6_readTerm_15 : decode cX6_readTerm 15 = .ok (.iload_n 1, 1) := by decide +kernel
theorem dX6_readTerm_16 : decode cX6_readTerm 16 = .ok (.ifCond .eq 33, 3) := by decide +kernel
theorem dX6_readTerm_19 : decode cX6_readTerm 19 = .ok (.aload_n 0, 1) := by decide +kernel
theorem dX6_readTerm_20 : decode cX6_readTerm 20 = .ok (.getfield 37, 3) := by decide +kernel
theorem dX6_readTerm_23 : decode cX6_readTerm 23 = .ok (.bipush 42, 2) := by decide +kernel
theorem dX6_readTerm_25 : decode cX6_readTerm 25 = .ok (.if_icmp .ne 24, 3) := by decide +kernel
theorem dX6_readTerm_28 : decode cX6_readTerm 28 = .ok (.aload_n 0, 1) := by decide +kernel
theorem dX6_readTerm_29 : decode cX6_readTerm 29 = .ok (.invokevirtual 34, 3) := by decide +kernel
theorem dX6_readTerm_32 : decode cX6_readTerm 32 = .ok (.aload_n 0, 1) := by decide +kernel
theorem dX6_readTerm_33 : decode cX6_readTerm 33 = .ok (.invokevirtual 133, 3) := by decide +kernel
theorem dX6_readTerm_36 : decode cX6_readTerm 36 = .ok (.istore_n 1, 1) := by decide +kernel
theorem dX6_readTerm_37 : decode cX6_readTerm 37 = .ok (.aload_n 0, 1) := by decide +kernel
theorem dX6_readTerm_38 : decode cX6_readTerm 38 = .ok (.bipush (-42), 2) := by decide +kernel
theorem dX6_readTerm_40 : decode cX6_readTerm 40 = .ok (.invokevirtual 118, 3) := by decide +kernel
theorem dX6_readTerm_43 : decode cX6_readTerm 43 = .ok (.iinc 2 1, 3) := by decide +kernel
theorem dX6_readTerm_46 : decode cX6_readTerm 46 = .ok (.goto (-39), 3) := by decide +kernel
theorem dX6_readTerm_49 : decode cX6_readTerm 49 = .ok (.iload_n 1, 1) := by decide +kernel
theorem dX6_readTerm_50 : decode cX6_readTerm 50 = .ok (.ireturn, 1) := by decide +kernel
theorem dX6_readOne_0 : decode cX6_readOne 0 = .ok (.aload_n 0, 1) := by decide +kernel
theorem dX6_readOne_1 : decode cX6_readOne 1 = .ok (.getfield 37, 3) := by decide +kernel
theorem dX6_readOne_4 : decode cX6_readOne 4 = .ok (.iconst 2, 1) := by decide +kernel
theorem dX6_readOne_5 : decode cX6_readOne 5 = .ok (.if_icmp .ne 17, 3) := by decide +kernel
theorem dX6_readOne_8 : decode cX6_readOne 8 = .ok (.aload_n 0, 1) := by decide +kernel
theorem dX6_readOne_9 : decode cX6_readOne 9 = .ok (.aload_n 0, 1) := by decide +kernel
theorem dX6_readOne_10 : decode cX6_readOne 10 = .ok (.getfield 78, 3) := by decide +kernel
theorem dX6_readOne_13 : decode cX6_readOne 13 = .ok (.invokevirtual 118, 3) := by decide +kernel
theorem dX6_readOne_16 : decode cX6_readOne 16 = .ok (.aload_n 0, 1) := by decide +kernel
theorem dX6_readOne_17 : decode cX6_readOne 17 = .ok (.invokevirtual 34, 3) := by decide +kernel
theorem dX6_readOne_20 : decode cX6_readOne 20 = .ok (.iconst 1, 1) := by decide +kernel
theorem dX6_readOne_21 : decode cX6_readOne 21 = .ok (.ireturn, 1) := by decide +kernel
theorem dX6_readOne_22 : decode cX6_readOne 22 = .ok (.aload_n 0, 1) := by decide +kernel
theorem dX6_readOne_23 : decode cX6_readOne 23 = .ok (.getfield 37, 3) := by decide +kernel
theorem dX6_readOne_26 : decode cX6_readOne 26 = .ok (.bipush 106, 2) := by decide +kernel
theorem dX6_readOne_28 : decode cX6_readOne 28 = .ok (.if_icmp .lt 18, 3) := by decide +kernel
theorem dX6_readOne_31 : decode cX6_readOne 31 = .ok (.aload_n 0, 1) := by decide +kernel
theorem dX6_readOne_32 : decode cX6_readOne 32 = .ok (.aload_n 0, 1) := by decide +kernel
theorem dX6_readOne_33 : decode cX6_readOne 33 = .ok (.getfield 37, 3) := by decide +kernel
theorem dX6_readOne_36 : decode cX6_readOne 36 = .ok (.ineg, 1) := by decide +kernel
theorem dX6_readOne_37 : decode cX6_readOne 37 = .ok (.invokevirtual 118, 3) := by decide +kernel
theorem dX6_readOne_40 : decode cX6_readOne 40 = .ok (.aload_n 0, 1) := by decide +kernel
theorem dX6_readOne_41 : decode cX6_readOne 41 = .ok (.invokevirtual 34, 3) := by decide +kernel
theorem dX6_readOne_44 : decode cX6_readOne 44 = .ok (.iconst 1, 1) := by decide +kernel
theorem dX6_readOne_45 : decode cX6_readOne 45 = .ok (.ireturn, 1) := by decide +kernel
theorem dX6_readOne_46 : decode cX6_readOne 46 = .ok (.aload_n 0, 1) := by decide +kernel
theorem dX6_readOne_47 : decode cX6_readOne 47 = .ok (.getfield 37, 3) := by decide +kernel
theorem dX6_readOne_50 : decode cX6_readOne 50 = .ok (.bipush 45, 2) := by decide +kernel
theorem dX6_readOne_52 : decode cX6_readOne 52 = .ok (.if_icmp .eq 12, 3) := by decide +kernel
theorem dX6_readOne_55 : decode cX6_readOne 55 = .ok (.aload_n 0, 1) := by decide +kernel
theorem dX6_readOne_56 : decode cX6_readOne 56 = .ok (.getfield 37, 3) := by decide +kernel
theorem dX6_readOne_59 : decode cX6_readOne 59 = .ok (.bipush 40, 2) := by decide +kernel
theorem dX6_readOne_61 : decode cX6_readOne 61 = .ok (.if_icmp .ne 11, 3) := by decide +kernel
theorem dX6_readOne_64 : decode cX6_readOne 64 = .ok (.aload_n 0, 1) := by decide +kernel
theorem dX6_readOne_65 : decode cX6_readOne 65 = .ok (.getfield 28, 3) := by decide +kernel
theorem dX6_readOne_68 : decode cX6_readOne 68 = .ok (.iconst 5, 1) := by decide +kernel
theorem dX6_readOne_69 : decode cX6_readOne 69 = .ok (.if_icmp .lt 5, 3) := by decide +kernel
theorem dX6_readOne_72 : decode cX6_readOne 72 = .ok (.iconst 0, 1) := by decide +kernel
theorem dX6_readOne_73 : decode cX6_readOne 73 = .ok (.ireturn, 1) := by decide +kernel
theorem dX6_readOne_74 : decode cX6_readOne 74 = .ok (.aload_n 0, 1) := by decide +kernel
theorem dX6_readOne_75 : decode cX6_readOne 75 = .ok (.getfield 37, 3) := by decide +kernel
theorem dX6_readOne_78 : decode cX6_readOne 78 = .ok (.bipush 45, 2) := by decide +kernel
theorem dX6_readOne_80 : decode cX6_readOne 80 = .ok (.if_icmp .ne 10, 3) := by decide +kernel
theorem dX6_readOne_83 : decode cX6_readOne 83 = .ok (.aload_n 0, 1) := by decide +kernel
theorem dX6_readOne_84 : decode cX6_readOne 84 = .ok (.invokevirtual 136, 3) := by decide +kernel
theorem dX6_readOne_87 : decode cX6_readOne 87 = .ok (.goto 7, 3) := by decide +kernel
theorem dX6_readOne_90 : decode cX6_readOne 90 = .ok (.aload_n 0, 1) := by decide +kernel
theorem dX6_readOne_91 : decode cX6_readOne 91 = .ok (.invokevirtual 139, 3) := by decide +kernel
theorem dX6_readOne_94 : decode cX6_readOne 94 = .ok (.ireturn, 1) := by decide +kernel
theorem dX6_readNegative_0 : decode cX6_readNegative 0 = .ok (.aload_n 0, 1) := by decide +kernel
theorem dX6_readNegative_1 : decode cX6_readNegative 1 = .ok (.dup, 1) := by decide +kernel
theorem dX6_readNegative_2 : decode cX6_readNegative 2 = .ok (.getfield 28, 3) := by decide +kernel
theorem dX6_readNegative_5 : decode cX6_readNegative 5 = .ok (.iconst 1, 1) := by decide +kernel
theorem dX6_readNegative_6 : decode cX6_readNegative 6 = .ok (.iadd, 1) := by decide +kernel
theorem dX6_readNegative_7 : decode cX6_readNegative 7 = .ok (.putfield 28, 3) := by decide +kernel
theorem dX6_readNegative_10 : decode cX6_readNegative 10 = .ok (.aload_n 0, 1) := by decide +kernel
theorem dX6_readNegative_11 : decode cX6_readNegative 11 = .ok (.invokevirtual 34, 3) := by decide +kernel
theorem dX6_readNegative_14 : decode cX6_readNegative 14 = .ok (.aload_n 0, 1) := by decide +kernel
theorem dX6_readNegative_15 : decode cX6_readNegative 15 = .ok (.invokevirtual 133, 3) := by decide +kernel
theorem dX6_readNegative_18 : decode cX6_readNegative 18 = .ok (.istore_n 1, 1) := by decide +kernel
theorem dX6_readNegative_19 : decode cX6_readNegative 19 = .ok (.aload_n 0, 1) := by decide +kernel
theorem dX6_readNegative_20 : decode cX6_readNegative 20 = .ok (.dup, 1) := by decide +kernel
theorem dX6_readNegative_21 : decode cX6_readNegative 21 = .ok (.getfield 28, 3) := by decide +kernel
theorem dX6_readNegative_24 : decode cX6_readNegative 24 = .ok (.iconst 1, 1) := by decide +kernel
theorem dX6_readNegative_25 : decode cX6_readNegative 25 = .ok (.isub, 1) := by decide +kernel
theorem dX6_readNegative_26 : decode cX6_readNegative 26 = .ok (.putfield 28, 3) := by decide +kernel
theorem dX6_readNegative_29 : decode cX6_readNegative 29 = .ok (.aload_n 0, 1) := by decide +kernel
theorem dX6_readNegative_30 : decode cX6_readNegative 30 = .ok (.bipush (-3), 2) := by decide +kernel
theorem dX6_readNegative_32 : decode cX6_readNegative 32 = .ok (.invokevirtual 118, 3) := by decide +kernel
theorem dX6_readNegative_35 : decode cX6_readNegative 35 = .ok (.iload_n 1, 1) := by decide +kernel
theorem dX6_readNegative_36 : decode cX6_readNegative 36 = .ok (.ireturn, 1) := by decide +kernel
theorem dX6_readInner_0 : decode cX6_readInner 0 = .ok (.aload_n 0, 1) := by decide +kernel
theorem dX6_readInner_1 : decode cX6_readInner 1 = .ok (.dup, 1) := by decide +kernel
theorem dX6_readInner_2 : decode cX6_readInner 2 = .ok (.getfield 28, 3) := by decide +kernel
theorem dX6_readInner_5 : decode cX6_readInner 5 = .ok (.iconst 1, 1) := by decide +kernel
theorem dX6_readInner_6 : decode cX6_readInner 6 = .ok (.iadd, 1) := by decide +kernel
theorem dX6_readInner_7 : decode cX6_readInner 7 = .ok (.putfield 28, 3) := by decide +kernel
theorem dX6_readInner_10 : decode cX6_readInner 10 = .ok (.aload_n 0, 1) := by decide +kernel
theorem dX6_readInner_11 : decode cX6_readInner 11 = .ok (.invokevirtual 34, 3) := by decide +kernel
theorem dX6_readInner_14 : decode cX6_readInner 14 = .ok (.aload_n 0, 1) := by decide +kernel
theorem dX6_readInner_15 : decode cX6_readInner 15 = .ok (.invokevirtual 42, 3) := by decide +kernel
theorem dX6_readInner_18 : decode cX6_readInner 18 = .ok (.ifCond .eq 16, 3) := by decide +kernel
theorem dX6_readInner_21 : decode cX6_readInner 21 = .ok (.aload_n 0, 1) := by decide +kernel
theorem dX6_readInner_22 : decode cX6_readInner 22 = .ok (.getfield 37, 3) := by decide +kernel
theorem dX6_readInner_25 : decode cX6_readInner 25 = .ok (.bipush 41, 2) := by decide +kernel
theorem dX6_readInner_27 : decode cX6_readInner 27 = .ok (.if_icmp .ne 7, 3) := by decide +kernel
theorem dX6_readInner_30 : decode cX6_readInner 30 = .ok (.iconst 1, 1) := by decide +kernel
theorem dX6_readInner_31 : decode cX6_readInner 31 = .ok (.goto 4, 3) := by decide +kernel
theorem dX6_readInner_34 : decode cX6_readInner 34 = .ok (.iconst 0, 1) := by decide +kernel
theorem dX6_readInner_35 : decode cX6_readInner 35 = .ok (.istore_n 1, 1) := by decide +kernel
theorem dX6_readInner_36 : decode cX6_readInner 36 = .ok (.aload_n 0, 1) := by decide +kernel
theorem dX6_readInner_37 : decode cX6_readInner 37 = .ok (.dup, 1) := by decide +kernel
theorem dX6_readInner_38 : decode cX6_readInner 38 = .ok (.getfield 28, 3) := by decide +kernel
theorem dX6_readInner_41 : decode cX6_readInner 41 = .ok (.iconst 1, 1) := by decide +kernel
theorem dX6_readInner_42 : decode cX6_readInner 42 = .ok (.isub, 1) := by decide +kernel
theorem dX6_readInner_43 : decode cX6_readInner 43 = .ok (.putfield 28, 3) := by decide +kernel
theorem dX6_readInner_46 : decode cX6_readInner 46 = .ok (.iload_n 1, 1) := by decide +kernel
theorem dX6_readInner_47 : decode cX6_readInner 47 = .ok (.ifCond .eq 7, 3) := by decide +kernel
theorem dX6_readInner_50 : decode cX6_readInner 50 = .ok (.aload_n 0, 1) := by decide +kernel
theorem dX6_readInner_51 : decode cX6_readInner 51 = .ok (.invokevirtual 34, 3) := by decide +kernel
theorem dX6_readInner_54 : decode cX6_readInner 54 = .ok (.iload_n 1, 1) := by decide +kernel
theorem dX6_readInner_55 : decode cX6_readInner 55 = .ok (.ireturn, 1) := by decide +kernel
theorem dX7_init_0 : decode cX7_init 0 = .ok (.aload_n 0, 1) := by decide +kernel
theorem dX7_init_1 : decode cX7_init 1 = .ok (.invokespecial 3, 3) := by decide +kernel
theorem dX7_init_4 : decode cX7_init 4 = .ok (.aload_n 0, 1) := by decide +kernel
theorem dX7_init_5 : decode cX7_init 5 = .ok (.bipush 40, 2) := by decide +kernel
theorem dX7_init_7 : decode cX7_init 7 = .ok (.newarray .int, 2) := by decide +kernel
theorem dX7_init_9 : decode cX7_init 9 = .ok (.putfield 9, 3) := by decide +kernel
theorem dX7_init_12 : decode cX7_init 12 = .ok (.aload_n 0, 1) := by decide +kernel
theorem dX7_init_13 : decode cX7_init 13 = .ok (.iconst (-1), 1) := by decide +kernel
theorem dX7_init_14 : decode cX7_init 14 = .ok (.putfield 15, 3) := by decide +kernel
theorem dX7_init_17 : decode cX7_init 17 = .ok (.return_, 1) := by decide +kernel
theorem dX7_become_0 : decode cX7_become 0 = .ok (.aload_n 0, 1) := by decide +kernel
theorem dX7_become_1 : decode cX7_become 1 = .ok (.iload_n 1, 1) := by decide +kernel
theorem dX7_become_2 : decode cX7_become 2 = .ok (.putfield 15, 3) := by decide +kernel
theorem dX7_become_5 : decode cX7_become 5 = .ok (.aload_n 0, 1) := by decide +kernel
theorem dX7_become_6 : decode cX7_become 6 = .ok (.iload_n 2, 1) := by decide +kernel
theorem dX7_become_7 : decode cX7_become 7 = .ok (.putfield 19, 3) := by decide +kernel
theorem dX7_become_10 : decode cX7_become 10 = .ok (.iconst 0, 1) := by decide +kernel
theorem dX7_become_11 : decode cX7_become 11 = .ok (.istore_n 3, 1) := by decide +kernel
theorem dX7_become_12 : decode cX7_become 12 = .ok (.iload_n 3, 1) := by decide +kernel
theorem dX7_become_13 : decode cX7_become 13 = .ok (.aload_n 0, 1) := by decide +kernel
theorem dX7_become_14 : decode cX7_become 14 = .ok (.getfield 9, 3) := by decide +kernel
theorem dX7_become_17 : decode cX7_become 17 = .ok (.arraylength, 1) := by decide +kernel
theorem dX7_become_18 : decode cX7_become 18 = .ok (.if_icmp .ge 16, 3) := by decide +kernel
theorem dX7_become_21 : decode cX7_become 21 = .ok (.aload_n 0, 1) := by decide +kernel
theorem dX7_become_22 : decode cX7_become 22 = .ok (.getfield 9, 3) := by decide +kernel
theorem dX7_become_25 : decode cX7_become 25 = .ok (.iload_n 3, 1) := by decide +kernel
theorem dX7_become_26 : decode cX7_become 26 = .ok (.iconst 0, 1) := by decide +kernel
theorem dX7_become_27 : decode cX7_become 27 = .ok (.iastore, 1) := by decide +kernel
theorem dX7_become_28 : decode cX7_become 28 = .ok (.iinc 3 1, 3) := by decide +kernel
theorem dX7_become_31 : decode cX7_become 31 = .ok (.goto (-19), 3) := by decide +kernel
theorem dX7_become_34 : decode cX7_become 34 = .ok (.return_, 1) := by decide +kernel
theorem dX7_cellAt_0 : decode cX7_cellAt 0 = .ok (.iload_n 1, 1) := by decide +kernel
theorem dX7_cellAt_1 : decode cX7_cellAt 1 = .ok (.ifCond .lt 21, 3) := by decide +kernel
theorem dX7_cellAt_4 : decode cX7_cellAt 4 = .ok (.iload_n 1, 1) := by decide +kernel
theorem dX7_cellAt_5 : decode cX7_cellAt 5 = .ok (.aload_n 0, 1) := by decide +kernel
theorem dX7_cellAt_6 : decode cX7_cellAt 6 = .ok (.getfield 9, 3) := by decide +kernel
theorem dX7_cellAt_9 : decode cX7_cellAt 9 = .ok (.arraylength, 1) := by decide +kernel
theorem dX7_cellAt_10 : decode cX7_cellAt 10 = .ok (.if_icmp .ge 12, 3) := by decide +kernel
theorem dX7_cellAt_13 : decode cX7_cellAt 13 = .ok (.aload_n 0, 1) := by decide +kernel
theorem dX7_cellAt_14 : decode cX7_cellAt 14 = .ok (.getfield 9, 3) := by decide +kernel
theorem dX7_cellAt_17 : decode cX7_cellAt 17 = .ok (.iload_n 1, 1) := by decide +kernel
theorem dX7_cellAt_18 : decode cX7_cellAt 18 = .ok (.iaload, 1) := by decide +kernel
theorem dX7_cellAt_19 : decode cX7_cellAt 19 = .ok (.goto 4, 3) := by decide +kernel
theorem dX7_cellAt_22 : decode cX7_cellAt 22 = .ok (.iconst 0, 1) := by decide +kernel
theorem dX7_cellAt_23 : decode cX7_cellAt 23 = .ok (.ireturn, 1) := by decide +kernel
theorem dX7_put_0 : decode cX7_put 0 = .ok (.iload_n 1, 1) := by decide +kernel
theorem dX7_put_1 : decode cX7_put 1 = .ok (.ifCond .lt 44, 3) := by decide +kernel
theorem dX7_put_4 : decode cX7_put 4 = .ok (.iload_n 1, 1) := by decide +kernel
theorem dX7_put_5 : decode cX7_put 5 = .ok (.aload_n 0, 1) := by decide +kernel
theorem dX7_put_6 : decode cX7_put 6 = .ok (.getfield 9, 3) := by decide +kernel
theorem dX7_put_9 : decode cX7_put 9 = .ok (.arraylength, 1) := by decide +kernel
theorem dX7_put_10 : decode cX7_put 10 = .ok (.if_icmp .ge 35, 3) := by decide +kernel
theorem dX7_put_13 : decode cX7_put 13 = .ok (.aload_n 0, 1) := by decide +kernel
theorem dX7_put_14 : decode cX7_put 14 = .ok (.getfield 9, 3) := by decide +kernel
theorem dX7_put_17 : decode cX7_put 17 = .ok (.iload_n 1, 1) := by decide +kernel
theorem dX7_put_18 : decode cX7_put 18 = .ok (.aload_n 0, 1) := by decide +kernel
theorem dX7_put_19 : decode cX7_put 19 = .ok (.getfield 15, 3) := by decide +kernel
theorem dX7_put_22 : decode cX7_put 22 = .ok (.ifCond .ne 8, 3) := by decide +kernel
theorem dX7_put_25 : decode cX7_put 25 = .ok (.iload_n 2, 1) := by decide +kernel
theorem dX7_put_26 : decode cX7_put 26 = .ok (.i2b, 1) := by decide +kernel
theorem dX7_put_27 : decode cX7_put 27 = .ok (.goto 17, 3) := by decide +kernel
theorem dX7_put_30 : decode cX7_put 30 = .ok (.aload_n 0, 1) := by decide +kernel
theorem dX7_put_31 : decode cX7_put 31 = .ok (.getfield 15, 3) := by decide +kernel
theorem dX7_put_34 : decode cX7_put 34 = .ok (.iconst 1, 1) := by decide +kernel
theorem dX7_put_35 : decode cX7_put 35 = .ok (.if_icmp .ne 8, 3) := by decide +kernel
theorem dX7_put_38 : decode cX7_put 38 = .ok (.iload_n 2, 1) := by decide +kernel
theorem dX7_put_39 : decode cX7_put 39 = .ok (.i2s, 1) := by decide +kernel
theorem dX7_put_40 : decode cX7_put 40 = .ok (.goto 4, 3) := by decide +kernel
theorem dX7_put_43 : decode cX7_put 43 = .ok (.iload_n 2, 1) := by decide +kernel
theorem dX7_put_44 : decode cX7_put 44 = .ok (.iastore, 1) := by decide +kernel
theorem dX7_put_45 : decode cX7_put 45 = .ok (.return_, 1) := by decide +kernel
theorem dX8_init_0 : decode cX8_init 0 = .ok (.aload_n 0, 1) := by decide +kernel
theorem dX8_init_1 : decode cX8_init 1 = .ok (.invokespecial 1, 3) := by decide +kernel
theorem dX8_init_4 : decode cX8_init 4 = .ok (.return_, 1) := by decide +kernel
theorem dX8_gains_0 : decode cX8_gains 0 = .ok (.aload_n 0, 1) := by decide +kernel
theorem dX8_gains_1 : decode cX8_gains 1 = .ok (.iload_n 1, 1) := by decide +kernel
theorem dX8_gains_2 : decode cX8_gains 2 = .ok (.iload_n 2, 1) := by decide +kernel
theorem dX8_gains_3 : decode cX8_gains 3 = .ok (.iload_n 3, 1) := by decide +kernel
theorem dX8_gains_4 : decode cX8_gains 4 = .ok (.invokespecial 7, 3) := by decide +kernel
theorem dX8_gains_7 : decode cX8_gains 7 = .ok (.istore 4, 2) := by decide +kernel
theorem dX8_gains_9 : decode cX8_gains 9 = .ok (.iload_n 2, 1) := by decide +kernel
theorem dX8_gains_10 : decode cX8_gains 10 = .ok (.bipush 10, 2) := by decide +kernel
theorem dX8_gains_12 : decode cX8_gains 12 = .ok (.iload_n 3, 1) := by decide +kernel
theorem dX8_gains_13 : decode cX8_gains 13 = .ok (.imul, 1) := by decide +kernel
theorem dX8_gains_14 : decode cX8_gains 14 = .ok (.bipush 20, 2) := by decide +kernel
theorem dX8_gains_16 : decode cX8_gains 16 = .ok (.iadd, 1) := by decide +kernel
theorem dX8_gains_17 : decode cX8_gains 17 = .ok (.if_icmp .le 10, 3) := by decide +kernel
theorem dX8_gains_20 : decode cX8_gains 20 = .ok (.iconst 3, 1) := by decide +kernel
theorem dX8_gains_21 : decode cX8_gains 21 = .ok (.iload 4, 2) := by decide +kernel
theorem dX8_gains_23 : decode cX8_gains 23 = .ok (.imul, 1) := by decide +kernel
theorem dX8_gains_24 : decode cX8_gains 24 = .ok (.goto 5, 3) := by decide +kernel
theorem dX8_gains_27 : decode cX8_gains 27 = .ok (.iload 4, 2) := by decide +kernel
theorem dX8_gains_29 : decode cX8_gains 29 = .ok (.ireturn, 1) := by decide +kernel
theorem dX8_away_0 : decode cX8_away 0 = .ok (.aload_n 0, 1) := by decide +kernel
theorem dX8_away_1 : decode cX8_away 1 = .ok (.iload_n 1, 1) := by decide +kernel
theorem dX8_away_2 : decode cX8_away 2 = .ok (.iload_n 2, 1) := by decide +kernel
theorem dX8_away_3 : decode cX8_away 3 = .ok (.invokespecial 11, 3) := by decide +kernel
theorem dX8_away_6 : decode cX8_away 6 = .ok (.istore_n 3, 1) := by decide +kernel
theorem dX8_away_7 : decode cX8_away 7 = .ok (.iload_n 1, 1) := by decide +kernel
theorem dX8_away_8 : decode cX8_away 8 = .ok (.iload_n 2, 1) := by decide +kernel
theorem dX8_away_9 : decode cX8_away 9 = .ok (.if_icmp .le 9, 3) := by decide +kernel
theorem dX8_away_12 : decode cX8_away 12 = .ok (.iconst 2, 1) := by decide +kernel
theorem dX8_away_13 : decode cX8_away 13 = .ok (.iload_n 3, 1) := by decide +kernel
theorem dX8_away_14 : decode cX8_away 14 = .ok (.imul, 1) := by decide +kernel
theorem dX8_away_15 : decode cX8_away 15 = .ok (.goto 4, 3) := by decide +kernel
theorem dX8_away_18 : decode cX8_away 18 = .ok (.iload_n 3, 1) := by decide +kernel
theorem dX8_away_19 : decode cX8_away 19 = .ok (.ireturn, 1) := by decide +kernel
theorem dX9_init_0 : decode cX9_init 0 = .ok (.aload_n 0, 1) := by decide +kernel
theorem dX9_init_1 : decode cX9_init 1 = .ok (.invokespecial 1, 3) := by decide +kernel
theorem dX9_init_4 : decode cX9_init 4 = .ok (.return_, 1) := by decide +kernel
theorem dX9_gains_0 : decode cX9_gains 0 = .ok (.aload_n 0, 1) := by decide +kernel
theorem dX9_gains_1 : decode cX9_gains 1 = .ok (.iload_n 1, 1) := by decide +kernel
theorem dX9_gains_2 : decode cX9_gains 2 = .ok (.iload_n 2, 1) := by decide +kernel
theorem dX9_gains_3 : decode cX9_gains 3 = .ok (.iload_n 3, 1) := by decide +kernel
theorem dX9_gains_4 : decode cX9_gains 4 = .ok (.invokespecial 7, 3) := by decide +kernel
theorem dX9_gains_7 : decode cX9_gains 7 = .ok (.iconst 2, 1) := by decide +kernel
theorem dX9_gains_8 : decode cX9_gains 8 = .ok (.imul, 1) := by decide +kernel
theorem dX9_gains_9 : decode cX9_gains 9 = .ok (.iconst 3, 1) := by decide +kernel
theorem dX9_gains_10 : decode cX9_gains 10 = .ok (.idiv, 1) := by decide +kernel
theorem dX9_gains_11 : decode cX9_gains 11 = .ok (.ireturn, 1) := by decide +kernel
theorem dX9_begins_0 : decode cX9_begins 0 = .ok (.aload_n 0, 1) := by decide +kernel
theorem dX9_begins_1 : decode cX9_begins 1 = .ok (.iload_n 1, 1) := by decide +kernel
theorem dX9_begins_2 : decode cX9_begins 2 = .ok (.invokespecial 11, 3) := by decide +kernel
theorem dX9_begins_5 : decode cX9_begins 5 = .ok (.iload_n 1, 1) := by decide +kernel
theorem dX9_begins_6 : decode cX9_begins 6 = .ok (.iconst 3, 1) := by decide +kernel
theorem dX9_begins_7 : decode cX9_begins 7 = .ok (.idiv, 1) := by decide +kernel
theorem dX9_begins_8 : decode cX9_begins 8 = .ok (.iadd, 1) := by decide +kernel
theorem dX9_begins_9 : decode cX9_begins 9 = .ok (.ireturn, 1) := by decide +kernel
theorem dX10_init_0 : decode cX10_init 0 = .ok (.aload_n 0, 1) := by decide +kernel
theorem dX10_init_1 : decode cX10_init 1 = .ok (.invokespecial 1, 3) := by decide +kernel
theorem dX10_init_4 : decode cX10_init 4 = .ok (.return_, 1) := by decide +kernel
theorem dX10_gains_0 : decode cX10_gains 0 = .ok (.aload_n 0, 1) := by decide +kernel
theorem dX10_gains_1 : decode cX10_gains 1 = .ok (.iload_n 1, 1) := by decide +kernel
theorem dX10_gains_2 : decode cX10_gains 2 = .ok (.iload_n 2, 1) := by decide +kernel
theorem dX10_gains_3 : decode cX10_gains 3 = .ok (.iload_n 3, 1) := by decide +kernel
theorem dX10_gains_4 : decode cX10_gains 4 = .ok (.invokespecial 7, 3) := by decide +kernel
theorem dX10_gains_7 : decode cX10_gains 7 = .ok (.iload_n 3, 1) := by decide +kernel
theorem dX10_gains_8 : decode cX10_gains 8 = .ok (.iconst 2, 1) := by decide +kernel
theorem dX10_gains_9 : decode cX10_gains 9 = .ok (.idiv, 1) := by decide +kernel
theorem dX10_gains_10 : decode cX10_gains 10 = .ok (.iadd, 1) := by decide +kernel
theorem dX10_gains_11 : decode cX10_gains 11 = .ok (.ireturn, 1) := by decide +kernel
theorem dX11_init_0 : decode cX11_init 0 = .ok (.aload_n 0, 1) := by decide +kernel
theorem dX11_init_1 : decode cX11_init 1 = .ok (.invokespecial 1, 3) := by decide +kernel
theorem dX11_init_4 : decode cX11_init 4 = .ok (.aload_n 0, 1) := by decide +kernel
theorem dX11_init_5 : decode cX11_init 5 = .ok (.new 7, 3) := by decide +kernel
theorem dX11_init_8 : decode cX11_init 8 = .ok (.dup, 1) := by decide +kernel
theorem dX11_init_9 : decode cX11_init 9 = .ok (.invokespecial 9, 3) := by decide +kernel
theorem dX11_init_12 : decode cX11_init 12 = .ok (.putfield 10, 3) := by decide +kernel
theorem dX11_init_15 : decode cX11_init 15 = .ok (.aload_n 0, 1) := by decide +kernel
theorem dX11_init_16 : decode cX11_init 16 = .ok (.new 7, 3) := by decide +kernel
theorem dX11_init_19 : decode cX11_init 19 = .ok (.dup, 1) := by decide +kernel
theorem dX11_init_20 : decode cX11_init 20 = .ok (.invokespecial 9, 3) := by decide +kernel
theorem dX11_init_23 : decode cX11_init 23 = .ok (.putfield 16, 3) := by decide +kernel
theorem dX11_init_26 : decode cX11_init 26 = .ok (.aload_n 0, 1) := by decide +kernel
theorem dX11_init_27 : decode cX11_init 27 = .ok (.new 7, 3) := by decide +kernel
theorem dX11_init_30 : decode cX11_init 30 = .ok (.dup, 1) := by decide +kernel
theorem dX11_init_31 : decode cX11_init 31 = .ok (.invokespecial 9, 3) := by decide +kernel
theorem dX11_init_34 : decode cX11_init 34 = .ok (.putfield 19, 3) := by decide +kernel
theorem dX11_init_37 : decode cX11_init 37 = .ok (.aload_n 0, 1) := by decide +kernel
theorem dX11_init_38 : decode cX11_init 38 = .ok (.new 22, 3) := by decide +kernel
theorem dX11_init_41 : decode cX11_init 41 = .ok (.dup, 1) := by decide +kernel
theorem dX11_init_42 : decode cX11_init 42 = .ok (.invokespecial 24, 3) := by decide +kernel
theorem dX11_init_45 : decode cX11_init 45 = .ok (.putfield 25, 3) := by decide +kernel
theorem dX11_init_48 : decode cX11_init 48 = .ok (.aload_n 0, 1) := by decide +kernel
theorem dX11_init_49 : decode cX11_init 49 = .ok (.new 29, 3) := by decide +kernel
theorem dX11_init_52 : decode cX11_init 52 = .ok (.dup, 1) := by decide +kernel
theorem dX11_init_53 : decode cX11_init 53 = .ok (.invokespecial 31, 3) := by decide +kernel
theorem dX11_init_56 : decode cX11_init 56 = .ok (.putfield 32, 3) := by decide +kernel
theorem dX11_init_59 : decode cX11_init 59 = .ok (.aload_n 0, 1) := by decide +kernel
theorem dX11_init_60 : decode cX11_init 60 = .ok (.bipush 6, 2) := by decide +kernel
theorem dX11_init_62 : decode cX11_init 62 = .ok (.anewarray 36, 3) := by decide +kernel
theorem dX11_init_65 : decode cX11_init 65 = .ok (.putfield 38, 3) := by decide +kernel
theorem dX11_init_68 : decode cX11_init 68 = .ok (.aload_n 0, 1) := by decide +kernel
theorem dX11_init_69 : decode cX11_init 69 = .ok (.iconst 4, 1) := by decide +kernel
theorem dX11_init_70 : decode cX11_init 70 = .ok (.anewarray 42, 3) := by decide +kernel
theorem dX11_init_73 : decode cX11_init 73 = .ok (.putfield 44, 3) := by decide +kernel
theorem dX11_init_76 : decode cX11_init 76 = .ok (.iconst 0, 1) := by decide +kernel
theorem dX11_init_77 : decode cX11_init 77 = .ok (.istore_n 1, 1) := by decide +kernel
theorem dX11_init_78 : decode cX11_init 78 = .ok (.iload_n 1, 1) := by decide +kernel
theorem dX11_init_79 : decode cX11_init 79 = .ok (.iconst 4, 1) := by decide +kernel
theorem dX11_init_80 : decode cX11_init 80 = .ok (.if_icmp .ge 22, 3) := by decide +kernel
theorem dX11_init_83 : decode cX11_init 83 = .ok (.aload_n 0, 1) := by decide +kernel
theorem dX11_init_84 : decode cX11_init 84 = .ok (.getfield 44, 3) := by decide +kernel
theorem dX11_init_87 : decode cX11_init 87 = .ok (.iload_n 1, 1) := by decide +kernel
theorem dX11_init_88 : decode cX11_init 88 = .ok (.new 42, 3) := by decide +kernel
theorem dX11_init_91 : decode cX11_init 91 = .ok (.dup, 1) := by decide +kernel
theorem dX11_init_92 : decode cX11_init 92 = .ok (.invokespecial 48, 3) := by decide +kernel
theorem dX11_init_95 : decode cX11_init 95 = .ok (.aastore, 1) := by decide +kernel
theorem dX11_init_96 : decode cX11_init 96 = .ok (.iinc 1 1, 3) := by decide +kernel
theorem dX11_init_99 : decode cX11_init 99 = .ok (.goto (-21), 3) := by decide +kernel
theorem dX11_init_102 : decode cX11_init 102 = .ok (.iconst 0, 1) := by decide +kernel
theorem dX11_init_103 : decode cX11_init 103 = .ok (.istore_n 1, 1) := by decide +kernel
theorem dX11_init_104 : decode cX11_init 104 = .ok (.iload_n 1, 1) := by decide +kernel
theorem dX11_init_105 : decode cX11_init 105 = .ok (.ldc 49, 2) := by decide +kernel
theorem dX11_init_107 : decode cX11_init 107 = .ok (.invokevirtual 51, 3) := by decide +kernel
theorem dX11_init_110 : decode cX11_init 110 = .ok (.if_icmp .ge 22, 3) := by decide +kernel
theorem dX11_init_113 : decode cX11_init 113 = .ok (.aload_n 0, 1) := by decide +kernel
theorem dX11_init_114 : decode cX11_init 114 = .ok (.getfield 32, 3) := by decide +kernel
theorem dX11_init_117 : decode cX11_init 117 = .ok (.ldc 49, 2) := by decide +kernel
theorem dX11_init_119 : decode cX11_init 119 = .ok (.iload_n 1, 1) := by decide +kernel
theorem dX11_init_120 : decode cX11_init 120 = .ok (.invokevirtual 57, 3) := by decide +kernel
theorem dX11_init_123 : decode cX11_init 123 = .ok (.invokevirtual 61, 3) := by decide +kernel
theorem dX11_init_126 : decode cX11_init 126 = .ok (.iinc 1 1, 3) := by decide +kernel
theorem dX11_init_129 : decode cX11_init 129 = .ok (.goto (-25), 3) := by decide +kernel
theorem dX11_init_132 : decode cX11_init 132 = .ok (.aload_n 0, 1) := by decide +kernel
theorem dX11_init_133 : decode cX11_init 133 = .ok (.invokevirtual 65, 3) := by decide +kernel
theorem dX11_init_136 : decode cX11_init 136 = .ok (.pop, 1) := by decide +kernel
theorem dX11_init_137 : decode cX11_init 137 = .ok (.return_, 1) := by decide +kernel
theorem dX11_count_0 : decode cX11_count 0 = .ok (.iload_n 1, 1) := by decide +kernel
theorem dX11_count_1 : decode cX11_count 1 = .ok (.tableswitch 96 0 6 #[43, 51, 59, 67, 75, 80, 88], 43) := by decide +kernel
theorem dX11_count_44 : decode cX11_count 44 = .ok (.aload_n 0, 1) := by decide +kernel
theorem dX11_count_45 : decode cX11_count 45 = .ok (.getfield 10, 3) := by decide +kernel
theorem dX11_count_48 : decode cX11_count 48 = .ok (.getfield 68, 3) := by decide +kernel
theorem dX11_count_51 : decode cX11_count 51 = .ok (.ireturn, 1) := by decide +kernel
theorem dX11_count_52 : decode cX11_count 52 = .ok (.aload_n 0, 1) := by decide +kernel
theorem dX11_count_53 : decode cX11_count 53 = .ok (.getfield 10, 3) := by decide +kernel
theorem dX11_count_56 : decode cX11_count 56 = .ok (.getfield 72, 3) := by decide +kernel
theorem dX11_count_59 : decode cX11_count 59 = .ok (.ireturn, 1) := by decide +kernel
theorem dX11_count_60 : decode cX11_count 60 = .ok (.aload_n 0, 1) := by decide +kernel
theorem dX11_count_61 : decode cX11_count 61 = .ok (.getfield 10, 3) := by decide +kernel
theorem dX11_count_64 : decode cX11_count 64 = .ok (.getfield 75, 3) := by decide +kernel
theorem dX11_count_67 : decode cX11_count 67 = .ok (.ireturn, 1) := by decide +kernel
theorem dX11_count_68 : decode cX11_count 68 = .ok (.aload_n 0, 1) := by decide +kernel
theorem dX11_count_69 : decode cX11_count 69 = .ok (.getfield 10, 3) := by decide +kernel
theorem dX11_count_72 : decode cX11_count 72 = .ok (.getfield 78, 3) := by decide +kernel
theorem dX11_count_75 : decode cX11_count 75 = .ok (.ireturn, 1) := by decide +kernel
theorem dX11_count_76 : decode cX11_count 76 = .ok (.aload_n 0, 1) := by decide +kernel
theorem dX11_count_77 : decode cX11_count 77 = .ok (.getfield 81, 3) := by decide +kernel
theorem dX11_count_80 : decode cX11_count 80 = .ok (.ireturn, 1) := by decide +kernel
theorem dX11_count_81 : decode cX11_count 81 = .ok (.aload_n 0, 1) := by decide +kernel
theorem dX11_count_82 : decode cX11_count 82 = .ok (.getfield 10, 3) := by decide +kernel
theorem dX11_count_85 : decode cX11_count 85 = .ok (.getfield 84, 3) := by decide +kernel
theorem dX11_count_88 : decode cX11_count 88 = .ok (.ireturn, 1) := by decide +kernel
theorem dX11_count_89 : decode cX11_count 89 = .ok (.aload_n 0, 1) := by decide +kernel
theorem dX11_count_90 : decode cX11_count 90 = .ok (.getfield 32, 3) := by decide +kernel
theorem dX11_count_93 : decode cX11_count 93 = .ok (.getfield 87, 3) := by decide +kernel
theorem dX11_count_96 : decode cX11_count 96 = .ok (.ireturn, 1) := by decide +kernel
theorem dX11_count_97 : decode cX11_count 97 = .ok (.bipush (-2), 2) := by decide +kernel
theorem dX11_count_99 : decode cX11_count 99 = .ok (.ireturn, 1) := by decide +kernel
theorem dX11_set_0 : decode cX11_set 0 = .ok (.iload_n 1, 1) := by decide +kernel
theorem dX11_set_1 : decode cX11_set 1 = .ok (.tableswitch 46 0 2 #[27, 34, 40], 27) := by decide +kernel
theorem dX11_set_28 : decode cX11_set 28 = .ok (.aload_n 0, 1) := by decide +kernel
theorem dX11_set_29 : decode cX11_set 29 = .ok (.iload_n 2, 1) := by decide +kernel
theorem dX11_set_30 : decode cX11_set 30 = .ok (.iload_n 3, 1) := by decide +kernel
theorem dX11_set_31 : decode cX11_set 31 = .ok (.invokevirtual 90, 3) := by decide +kernel
theorem dX11_set_34 : decode cX11_set 34 = .ok (.ireturn, 1) := by decide +kernel
theorem dX11_set_35 : decode cX11_set 35 = .ok (.aload_n 0, 1) := by decide +kernel
theorem dX11_set_36 : decode cX11_set 36 = .ok (.iload_n 3, 1) := by decide +kernel
theorem dX11_set_37 : decode cX11_set 37 = .ok (.invokevirtual 94, 3) := by decide +kernel
theorem dX11_set_40 : decode cX11_set 40 = .ok (.ireturn, 1) := by decide +kernel
theorem dX11_set_41 : decode cX11_set 41 = .ok (.aload_n 0, 1) := by decide +kernel
theorem dX11_set_42 : decode cX11_set 42 = .ok (.iload_n 3, 1) := by decide +kernel
theorem dX11_set_43 : decode cX11_set 43 = .ok (.invokevirtual 98, 3) := by decide +kernel
theorem dX11_set_46 : decode cX11_set 46 = .ok (.ireturn, 1) := by decide +kernel
theorem dX11_set_47 : decode cX11_set 47 = .ok (.bipush (-5), 2) := by decide +kernel
theorem dX11_set_49 : decode cX11_set 49 = .ok (.ireturn, 1) := by decide +kernel
theorem dX11_setHot_0 : decode cX11_setHot 0 = .ok (.iload_n 1, 1) := by decide +kernel
theorem dX11_setHot_1 : decode cX11_setHot 1 = .ok (.iconst 0, 1) := by decide +kernel
theorem dX11_setHot_2 : decode cX11_setHot 2 = .ok (.bipush 15, 2) := by decide +kernel
theorem dX11_setHot_4 : decode cX11_setHot 4 = .ok (.invokestatic 101, 3) := by decide +kernel
theorem dX11_setHot_7 : decode cX11_setHot 7 = .ok (.ifCond .ne 6, 3) := by decide +kernel
theorem dX11_setHot_10 : decode cX11_setHot 10 = .ok (.bipush (-6), 2) := by decide +kernel
theorem dX11_setHot_12 : decode cX11_setHot 12 = .ok (.ireturn, 1) := by decide +kernel
theorem dX11_setHot_13 : decode cX11_setHot 13 = .ok (.iload_n 2, 1) := by decide +kernel
theorem dX11_setHot_14 : decode cX11_setHot 14 = .ok (.iconst 0, 1) := by decide +kernel
theorem dX11_setHot_15 : decode cX11_setHot 15 = .ok (.bipush 99, 2) := by decide +kernel
theorem dX11_setHot_17 : decode cX11_setHot 17 = .ok (.invokestatic 101, 3) := by decide +kernel
theorem dX11_setHot_20 : decode cX11_setHot 20 = .ok (.ifCond .ne 6, 3) := by decide +kernel
theorem dX11_setHot_23 : decode cX11_setHot 23 = .ok (.bipush (-7), 2) := by decide +kernel
theorem dX11_setHot_25 : decode cX11_setHot 25 = .ok (.ireturn, 1) := by decide +kernel
theorem dX11_setHot_26 : decode cX11_setHot 26 = .ok (.aload_n 0, 1) := by decide +kernel
theorem dX11_setHot_27 : decode cX11_setHot 27 = .ok (.getfield 10, 3) := by decide +kernel
theorem dX11_setHot_30 : decode cX11_setHot 30 = .ok (.getfield 105, 3) := by decide +kernel
theorem dX11_setHot_33 : decode cX11_setHot 33 = .ok (.iload_n 1, 1) := by decide +kernel
theorem dX11_setHot_34 : decode cX11_setHot 34 = .ok (.iaload, 1) := by decide +kernel
theorem dX11_setHot_35 : decode cX11_setHot 35 = .ok (.istore_n 3, 1) := by decide +kernel
theorem dX11_setHot_36 : decode cX11_setHot 36 = .ok (.aload_n 0, 1) := by decide +kernel
theorem dX11_setHot_37 : decode cX11_setHot 37 = .ok (.getfield 10, 3) := by decide +kernel
theorem dX11_setHot_40 : decode cX11_setHot 40 = .ok (.getfield 105, 3) := by decide +kernel
theorem dX11_setHot_43 : decode cX11_setHot 43 = .ok (.iload_n 1, 1) := by decide +kernel
theorem dX11_setHot_44 : decode cX11_setHot 44 = .ok (.iload_n 2, 1) := by decide +kernel
theorem dX11_setHot_45 : decode cX11_setHot 45 = .ok (.iastore, 1) := by decide +kernel
theorem dX11_setHot_46 : decode cX11_setHot 46 = .ok (.iload_n 3, 1) := by decide +kernel
theorem dX11_setHot_47 : decode cX11_setHot 47 = .ok (.ireturn, 1) := by decide +kernel
theorem dX11_setTime_0 : decode cX11_setTime 0 = .ok (.iload_n 1, 1) := by decide +kernel
theorem dX11_setTime_1 : decode cX11_setTime 1 = .ok (.iconst 1, 1) := by decide +kernel
theorem dX11_setTime_2 : decode cX11_setTime 2 = .ok (.bipush 40, 2) := by decide +kernel
theorem dX11_setTime_4 : decode cX11_setTime 4 = .ok (.invokestatic 101, 3) := by decide +kernel
theorem dX11_setTime_7 : decode cX11_setTime 7 = .ok (.ifCond .ne 6, 3) := by decide +kernel
theorem dX11_setTime_10 : decode cX11_setTime 10 = .ok (.bipush (-7), 2) := by decide +kernel
theorem dX11_setTime_12 : decode cX11_setTime 12 = .ok (.ireturn, 1) := by decide +kernel
theorem dX11_setTime_13 : decode cX11_setTime 13 = .ok (.aload_n 0, 1) := by decide +kernel
theorem dX11_setTime_14 : decode cX11_setTime 14 = .ok (.getfield 10, 3) := by decide +kernel
theorem dX11_setTime_17 : decode cX11_setTime 17 = .ok (.getfield 72, 3) := by decide +kernel
theorem dX11_setTime_20 : decode cX11_setTime 20 = .ok (.istore_n 2, 1) := by decide +kernel
theorem dX11_setTime_21 : decode cX11_setTime 21 = .ok (.aload_n 0, 1) := by decide +kernel
theorem dX11_setTime_22 : decode cX11_setTime 22 = .ok (.getfield 10, 3) := by decide +kernel
theorem dX11_setTime_25 : decode cX11_setTime 25 = .ok (.iload_n 1, 1) := by decide +kernel
theorem dX11_setTime_26 : decode cX11_setTime 26 = .ok (.putfield 72, 3) := by decide +kernel
theorem dX11_setTime_29 : decode cX11_setTime 29 = .ok (.iload_n 2, 1) := by decide +kernel
theorem dX11_setTime_30 : decode cX11_setTime 30 = .ok (.ireturn, 1) := by decide +kernel
theorem dX11_setLies_0 : decode cX11_setLies 0 = .ok (.iload_n 1, 1) := by decide +kernel
theorem dX11_setLies_1 : decode cX11_setLies 1 = .ok (.iconst 0, 1) := by decide +kernel
theorem dX11_setLies_2 : decode cX11_setLies 2 = .ok (.iconst 3, 1) := by decide +kernel
theorem dX11_setLies_3 : decode cX11_setLies 3 = .ok (.invokestatic 101, 3) := by decide +kernel
theorem dX11_setLies_6 : decode cX11_setLies 6 = .ok (.ifCond .ne 6, 3) := by decide +kernel
theorem dX11_setLies_9 : decode cX11_setLies 9 = .ok (.bipush (-7), 2) := by decide +kernel
theorem dX11_setLies_11 : decode cX11_setLies 11 = .ok (.ireturn, 1) := by decide +kernel
theorem dX11_setLies_12 : decode cX11_setLies 12 = .ok (.aload_n 0, 1) := by decide +kernel
theorem dX11_setLies_13 : decode cX11_setLies 13 = .ok (.getfield 10, 3) := by decide +kernel
theorem dX11_setLies_16 : decode cX11_setLies 16 = .ok (.getfield 75, 3) := by decide +kernel
theorem dX11_setLies_19 : decode cX11_setLies 19 = .ok (.istore_n 2, 1) := by decide +kernel
theorem dX11_setLies_20 : decode cX11_setLies 20 = .ok (.aload_n 0, 1) := by decide +kernel
theorem dX11_setLies_21 : decode cX11_setLies 21 = .ok (.getfield 10, 3) := by decide +kernel
theorem dX11_setLies_24 : decode cX11_setLies 24 = .ok (.iload_n 1, 1) := by decide +kernel
theorem dX11_setLies_25 : decode cX11_setLies 25 = .ok (.putfield 75, 3) := by decide +kernel
theorem dX11_setLies_28 : decode cX11_setLies 28 = .ok (.iload_n 2, 1) := by decide +kernel
theorem dX11_setLies_29 : decode cX11_setLies 29 = .ok (.ireturn, 1) := by decide +kernel
theorem dX11_hot_0 : decode cX11_hot 0 = .ok (.iload_n 1, 1) := by decide +kernel
theorem dX11_hot_1 : decode cX11_hot 1 = .ok (.iconst 0, 1) := by decide +kernel
theorem dX11_hot_2 : decode cX11_hot 2 = .ok (.bipush 15, 2) := by decide +kernel
theorem dX11_hot_4 : decode cX11_hot 4 = .ok (.invokestatic 101, 3) := by decide +kernel
theorem dX11_hot_7 : decode cX11_hot 7 = .ok (.ifCond .eq 15, 3) := by decide +kernel
theorem dX11_hot_10 : decode cX11_hot 10 = .ok (.aload_n 0, 1) := by decide +kernel
theorem dX11_hot_11 : decode cX11_hot 11 = .ok (.getfield 10, 3) := by decide +kernel
theorem dX11_hot_14 : decode cX11_hot 14 = .ok (.getfield 105, 3) := by decide +kernel
theorem dX11_hot_17 : decode cX11_hot 17 = .ok (.iload_n 1, 1) := by decide +kernel
theorem dX11_hot_18 : decode cX11_hot 18 = .ok (.iaload, 1) := by decide +kernel
theorem dX11_hot_19 : decode cX11_hot 19 = .ok (.goto 5, 3) := by decide +kernel
theorem dX11_hot_22 : decode cX11_hot 22 = .ok (.bipush (-2), 2) := by decide +kernel
theorem dX11_hot_24 : decode cX11_hot 24 = .ok (.ireturn, 1) := by decide +kernel
theorem dX11_spot_0 : decode cX11_spot 0 = .ok (.iload_n 1, 1) := by decide +kernel
theorem dX11_spot_1 : decode cX11_spot 1 = .ok (.iconst 0, 1) := by decide +kernel
theorem dX11_spot_2 : decode cX11_spot 2 = .ok (.bipush 15, 2) := by decide +kernel
theorem dX11_spot_4 : decode cX11_spot 4 = .ok (.invokestatic 101, 3) := by decide +kernel
theorem dX11_spot_7 : decode cX11_spot 7 = .ok (.ifCond .eq 12, 3) := by decide +kernel
theorem dX11_spot_10 : decode cX11_spot 10 = .ok (.iload_n 2, 1) := by decide +kernel
theorem dX11_spot_11 : decode cX11_spot 11 = .ok (.iconst 0, 1) := by decide +kernel
theorem dX11_spot_12 : decode cX11_spot 12 = .ok (.iconst 3, 1) := by decide +kernel
theorem dX11_spot_13 : decode cX11_spot 13 = .ok (.invokestatic 101, 3) := by decide +kernel
theorem dX11_spot_16 : decode cX11_spot 16 = .ok (.ifCond .ne 6, 3) := by decide +kernel
theorem dX11_spot_19 : decode cX11_spot 19 = .ok (.bipush (-2), 2) := by decide +kernel
theorem dX11_spot_21 : decode cX11_spot 21 = .ok (.ireturn, 1) := by decide +kernel
theorem dX11_spot_22 : decode cX11_spot 22 = .ok (.iload_n 1, 1) := by decide +kernel
theorem dX11_spot_23 : decode cX11_spot 23 = .ok (.iload_n 2, 1) := by decide +kernel
theorem dX11_spot_24 : decode cX11_spot 24 = .ok (.invokestatic 109, 3) := by decide +kernel
theorem dX11_spot_27 : decode cX11_spot 27 = .ok (.ireturn, 1) := by decide +kernel
theorem dX11_feed_0 : decode cX11_feed 0 = .ok (.iload_n 1, 1) := by decide +kernel
theorem dX11_feed_1 : decode cX11_feed 1 = .ok (.iconst 1, 1) := by decide +kernel
theorem dX11_feed_2 : decode cX11_feed 2 = .ok (.iconst 5, 1) := by decide +kernel
theorem dX11_feed_3 : decode cX11_feed 3 = .ok (.invokestatic 101, 3) := by decide +kernel
theorem dX11_feed_6 : decode cX11_feed 6 = .ok (.ifCond .eq 41, 3) := by decide +kernel
theorem dX11_feed_9 : decode cX11_feed 9 = .ok (.iload_n 2, 1) := by decide +kernel
theorem dX11_feed_10 : decode cX11_feed 10 = .ok (.invokestatic 112, 3) := by decide +kernel
theorem dX11_feed_13 : decode cX11_feed 13 = .ok (.ifCond .eq 34, 3) := by decide +kernel
theorem dX11_feed_16 : decode cX11_feed 16 = .ok (.iload_n 3, 1) := by decide +kernel
theorem dX11_feed_17 : decode cX11_feed 17 = .ok (.invokestatic 112, 3) := by decide +kernel
theorem dX11_feed_20 : decode cX11_feed 20 = .ok (.ifCond .eq 27, 3) := by decide +kernel
theorem dX11_feed_23 : decode cX11_feed 23 = .ok (.iload 4, 2) := by decide +kernel
theorem dX11_feed_25 : decode cX11_feed 25 = .ok (.invokestatic 112, 3) := by decide +kernel
theorem dX11_feed_28 : decode cX11_feed 28 = .ok (.ifCond .eq 19, 3) := by decide +kernel
theorem dX11_feed_31 : decode cX11_feed 31 = .ok (.iload 5, 2) := by decide +kernel
theorem dX11_feed_33 : decode cX11_feed 33 = .ok (.invokestatic 112, 3) := by decide +kernel
theorem dX11_feed_36 : decode cX11_feed 36 = .ok (.ifCond .eq 11, 3) := by decide +kernel
theorem dX11_feed_39 : decode cX11_feed 39 = .ok (.iload 6, 2) := by decide +kernel
theorem dX11_feed_41 : decode cX11_feed 41 = .ok (.invokestatic 112, 3) := by decide +kernel
theorem dX11_feed_44 : decode cX11_feed 44 = .ok (.ifCond .ne 6, 3) := by decide +kernel
theorem dX11_feed_47 : decode cX11_feed 47 = .ok (.bipush (-2), 2) := by decide +kernel
theorem dX11_feed_49 : decode cX11_feed 49 = .ok (.ireturn, 1) := by decide +kernel
theorem dX11_feed_50 : decode cX11_feed 50 = .ok (.iload_n 1, 1) := by decide +kernel
theorem dX11_feed_51 : decode cX11_feed 51 = .ok (.sipush 160, 3) := by decide +kernel
theorem dX11_feed_54 : decode cX11_feed 54 = .ok (.aload_n 0, 1) := by decide +kernel
theorem dX11_feed_55 : decode cX11_feed 55 = .ok (.getfield 32, 3) := by decide +kernel
theorem dX11_feed_58 : decode cX11_feed 58 = .ok (.getfield 87, 3) := by decide +kernel
theorem dX11_feed_61 : decode cX11_feed 61 = .ok (.isub, 1) := by decide +kernel
theorem dX11_feed_62 : decode cX11_feed 62 = .ok (.if_icmp .le 6, 3) := by decide +kernel
theorem dX11_feed_65 : decode cX11_feed 65 = .ok (.bipush (-4), 2) := by decide +kernel
theorem dX11_feed_67 : decode cX11_feed 67 = .ok (.ireturn, 1) := by decide +kernel
theorem dX11_feed_68 : decode cX11_feed 68 = .ok (.iconst 0, 1) := by decide +kernel
theorem dX11_feed_69 : decode cX11_feed 69 = .ok (.istore 7, 2) := by decide +kernel
theorem dX11_feed_71 : decode cX11_feed 71 = .ok (.iload 7, 2) := by decide +kernel
theorem dX11_feed_73 : decode cX11_feed 73 = .ok (.iload_n 1, 1) := by decide +kernel
theorem dX11_feed_74 : decode cX11_feed 74 = .ok (.if_icmp .ge 59, 3) := by decide +kernel
theorem dX11_feed_77 : decode cX11_feed 77 = .ok (.aload_n 0, 1) := by decide +kernel
theorem dX11_feed_78 : decode cX11_feed 78 = .ok (.getfield 32, 3) := by decide +kernel
theorem dX11_feed_81 : decode cX11_feed 81 = .ok (.iload 7, 2) := by decide +kernel
theorem dX11_feed_83 : decode cX11_feed 83 = .ok (.ifCond .ne 7, 3) := by decide +kernel
theorem dX11_feed_86 : decode cX11_feed 86 = .ok (.iload_n 2, 1) := by decide +kernel
theorem dX11_feed_87 : decode cX11_feed 87 = .ok (.goto 37, 3) := by decide +kernel
theorem dX11_feed_90 : decode cX11_feed 90 = .ok (.iload 7, 2) := by decide +kernel
theorem dX11_feed_92 : decode cX11_feed 92 = .ok (.iconst 1, 1) := by decide +kernel
theorem dX11_feed_93 : decode cX11_feed 93 = .ok (.if_icmp .ne 7, 3) := by decide +kernel
theorem dX11_feed_96 : decode cX11_feed 96 = .ok (.iload_n 3, 1) := by decide +kernel
theorem dX11_feed_97 : decode cX11_feed 97 = .ok (.goto 27, 3) := by decide +kernel
theorem dX11_feed_100 : decode cX11_feed 100 = .ok (.iload 7, 2) := by decide +kernel
theorem dX11_feed_102 : decode cX11_feed 102 = .ok (.iconst 2, 1) := by decide +kernel
theorem dX11_feed_103 : decode cX11_feed 103 = .ok (.if_icmp .ne 8, 3) := by decide +kernel
theorem dX11_feed_106 : decode cX11_feed 106 = .ok (.iload 4, 2) := by decide +kernel
theorem dX11_feed_108 : decode cX11_feed 108 = .ok (.goto 16, 3) := by decide +kernel
theorem dX11_feed_111 : decode cX11_feed 111 = .ok (.iload 7, 2) := by decide +kernel
theorem dX11_feed_113 : decode cX11_feed 113 = .ok (.iconst 3, 1) := by decide +kernel
theorem dX11_feed_114 : decode cX11_feed 114 = .ok (.if_icmp .ne 8, 3) := by decide +kernel
theorem dX11_feed_117 : decode cX11_feed 117 = .ok (.iload 5, 2) := by decide +kernel
theorem dX11_feed_119 : decode cX11_feed 119 = .ok (.goto 5, 3) := by decide +kernel
theorem dX11_feed_122 : decode cX11_feed 122 = .ok (.iload 6, 2) := by decide +kernel
theorem dX11_feed_124 : decode cX11_feed 124 = .ok (.invokevirtual 61, 3) := by decide +kernel
theorem dX11_feed_127 : decode cX11_feed 127 = .ok (.iinc 7 1, 3) := by decide +kernel
theorem dX11_feed_130 : decode cX11_feed 130 = .ok (.goto (-59), 3) := by decide +kernel
theorem dX11_feed_133 : decode cX11_feed 133 = .ok (.aload_n 0, 1) := by decide +kernel
theorem dX11_feed_134 : decode cX11_feed 134 = .ok (.getfield 32, 3) := by decide +kernel
theorem dX11_feed_137 : decode cX11_feed 137 = .ok (.getfield 87, 3) := by decide +kernel
theorem dX11_feed_140 : decode cX11_feed 140 = .ok (.ireturn, 1) := by decide +kernel
theorem dX11_text_0 : decode cX11_text 0 = .ok (.aload_n 0, 1) := by decide +kernel
theorem dX11_text_1 : decode cX11_text 1 = .ok (.getfield 81, 3) := by decide +kernel
theorem dX11_text_4 : decode cX11_text 4 = .ok (.bipush 6, 2) := by decide +kernel
theorem dX11_text_6 : decode cX11_text 6 = .ok (.if_icmp .lt 8, 3) := by decide +kernel
theorem dX11_text_9 : decode cX11_text 9 = .ok (.bipush (-4), 2) := by decide +kernel
theorem dX11_text_11 : decode cX11_text 11 = .ok (.goto 7, 3) := by decide +kernel
theorem dX11_text_14 : decode cX11_text 14 = .ok (.aload_n 0, 1) := by decide +kernel
theorem dX11_text_15 : decode cX11_text 15 = .ok (.invokevirtual 65, 3) := by decide +kernel
theorem dX11_text_18 : decode cX11_text 18 = .ok (.ireturn, 1) := by decide +kernel
theorem dX11_readText_0 : decode cX11_readText 0 = .ok (.aload_n 0, 1) := by decide +kernel
theorem dX11_readText_1 : decode cX11_readText 1 = .ok (.getfield 32, 3) := by decide +kernel
theorem dX11_readText_4 : decode cX11_readText 4 = .ok (.invokevirtual 116, 3) := by decide +kernel
theorem dX11_readText_7 : decode cX11_readText 7 = .ok (.istore_n 1, 1) := by decide +kernel
theorem dX11_readText_8 : decode cX11_readText 8 = .ok (.aload_n 0, 1) := by decide +kernel
theorem dX11_readText_9 : decode cX11_readText 9 = .ok (.getfield 32, 3) := by decide +kernel
theorem dX11_readText_12 : decode cX11_readText 12 = .ok (.getfield 120, 3) := by decide +kernel
theorem dX11_readText_15 : decode cX11_readText 15 = .ok (.istore_n 2, 1) := by decide +kernel
theorem dX11_readText_16 : decode cX11_readText 16 = .ok (.aload_n 0, 1) := by decide +kernel
theorem dX11_readText_17 : decode cX11_readText 17 = .ok (.getfield 32, 3) := by decide +kernel
theorem dX11_readText_20 : decode cX11_readText 20 = .ok (.iconst 0, 1) := by decide +kernel
theorem dX11_readText_21 : decode cX11_readText 21 = .ok (.putfield 87, 3) := by decide +kernel
theorem dX11_readText_24 : decode cX11_readText 24 = .ok (.iload_n 1, 1) := by decide +kernel
theorem dX11_readText_25 : decode cX11_readText 25 = .ok (.ifCond .eq 15, 3) := by decide +kernel
theorem dX11_readText_28 : decode cX11_readText 28 = .ok (.aload_n 0, 1) := by decide +kernel
theorem dX11_readText_29 : decode cX11_readText 29 = .ok (.getfield 81, 3) := by decide +kernel
theorem dX11_readText_32 : decode cX11_readText 32 = .ok (.aload_n 0, 1) := by decide +kernel
theorem dX11_readText_33 : decode cX11_readText 33 = .ok (.getfield 38, 3) := by decide +kernel
theorem dX11_readText_36 : decode cX11_readText 36 = .ok (.arraylength, 1) := by decide +kernel
theorem dX11_readText_37 : decode cX11_readText 37 = .ok (.if_icmp .lt 8, 3) := by decide +kernel
theorem dX11_readText_40 : decode cX11_readText 40 = .ok (.bipush (-100), 2) := by decide +kernel
theorem dX11_readText_42 : decode cX11_readText 42 = .ok (.iload_n 2, 1) := by decide +kernel
theorem dX11_readText_43 : decode cX11_readText 43 = .ok (.isub, 1) := by decide +kernel
theorem dX11_readText_44 : decode cX11_readText 44 = .ok (.ireturn, 1) := by decide +kernel
theorem dX11_readText_45 : decode cX11_readText 45 = .ok (.aload_n 0, 1) := by decide +kernel
theorem dX11_readText_46 : decode cX11_readText 46 = .ok (.getfield 38, 3) := by decide +kernel
theorem dX11_readText_49 : decode cX11_readText 49 = .ok (.aload_n 0, 1) := by decide +kernel
theorem dX11_readText_50 : decode cX11_readText 50 = .ok (.getfield 81, 3) := by decide +kernel
theorem dX11_readText_53 : decode cX11_readText 53 = .ok (.aload_n 0, 1) := by decide +kernel
theorem dX11_readText_54 : decode cX11_readText 54 = .ok (.getfield 32, 3) := by decide +kernel
theorem dX11_readText_57 : decode cX11_readText 57 = .ok (.invokevirtual 123, 3) := by decide +kernel
theorem dX11_readText_60 : decode cX11_readText 60 = .ok (.aastore, 1) := by decide +kernel
theorem dX11_readText_61 : decode cX11_readText 61 = .ok (.aload_n 0, 1) := by decide +kernel
theorem dX11_readText_62 : decode cX11_readText 62 = .ok (.dup, 1) := by decide +kernel
theorem dX11_readText_63 : decode cX11_readText 63 = .ok (.getfield 81, 3) := by decide +kernel
theorem dX11_readText_66 : decode cX11_readText 66 = .ok (.iconst 1, 1) := by decide +kernel
theorem dX11_readText_67 : decode cX11_readText 67 = .ok (.iadd, 1) := by decide +kernel
theorem dX11_readText_68 : decode cX11_readText 68 = .ok (.putfield 81, 3) := by decide +kernel
theorem dX11_readText_71 : decode cX11_readText 71 = .ok (.aload_n 0, 1) := by decide +kernel
theorem dX11_readText_72 : decode cX11_readText 72 = .ok (.getfield 81, 3) := by decide +kernel
theorem dX11_readText_75 : decode cX11_readText 75 = .ok (.iconst 1, 1) := by decide +kernel
theorem dX11_readText_76 : decode cX11_readText 76 = .ok (.isub, 1) := by decide +kernel
theorem dX11_readText_77 : decode cX11_readText 77 = .ok (.ireturn, 1) := by decide +kernel
theorem dX11_force_0 : decode cX11_force 0 = .ok (.iload_n 1, 1) := by decide +kernel
theorem dX11_force_1 : decode cX11_force 1 = .ok (.iconst 0, 1) := by decide +kernel
theorem dX11_force_2 : decode cX11_force 2 = .ok (.aload_n 0, 1) := by decide +kernel
theorem dX11_force_3 : decode cX11_force 3 = .ok (.getfield 81, 3) := by decide +kernel
theorem dX11_force_6 : decode cX11_force 6 = .ok (.iconst 1, 1) := by decide +kernel
theorem dX11_force_7 : decode cX11_force 7 = .ok (.isub, 1) := by decide +kernel
theorem dX11_force_8 : decode cX11_force 8 = .ok (.invokestatic 101, 3) := by decide +kernel
theorem dX11_force_11 : decode cX11_force 11 = .ok (.ifCond .ne 6, 3) := by decide +kernel
theorem dX11_force_14 : decode cX11_force 14 = .ok (.bipush (-2), 2) := by decide +kernel
theorem dX11_force_16 : decode cX11_force 16 = .ok (.ireturn, 1) := by decide +kernel
theorem dX11_force_17 : decode cX11_force 17 = .ok (.aload_n 0, 1) := by decide +kernel
theorem dX11_force_18 : decode cX11_force 18 = .ok (.getfield 10, 3) := by decide +kernel
theorem dX11_force_21 : decode cX11_force 21 = .ok (.getfield 84, 3) := by decide +kernel
theorem dX11_force_24 : decode cX11_force 24 = .ok (.istore_n 2, 1) := by decide +kernel
theorem dX11_force_25 : decode cX11_force 25 = .ok (.aload_n 0, 1) := by decide +kernel
theorem dX11_force_26 : decode cX11_force 26 = .ok (.getfield 10, 3) := by decide +kernel
theorem dX11_force_29 : decode cX11_force 29 = .ok (.iload_n 1, 1) := by decide +kernel
theorem dX11_force_30 : decode cX11_force 30 = .ok (.putfield 84, 3) := by decide +kernel
theorem dX11_force_33 : decode cX11_force 33 = .ok (.iload_n 2, 1) := by decide +kernel
theorem dX11_force_34 : decode cX11_force 34 = .ok (.ireturn, 1) := by decide +kernel
theorem dX11_asks_0 : decode cX11_asks 0 = .ok (.iload_n 1, 1) := by decide +kernel
theorem dX11_asks_1 : decode cX11_asks 1 = .ok (.iconst 0, 1) := by decide +kernel
theorem dX11_asks_2 : decode cX11_asks 2 = .ok (.iconst 2, 1) := by decide +kernel
theorem dX11_asks_3 : decode cX11_asks 3 = .ok (.invokestatic 101, 3) := by decide +kernel
theorem dX11_asks_6 : decode cX11_asks 6 = .ok (.ifCond .eq 19, 3) := by decide +kernel
theorem dX11_asks_9 : decode cX11_asks 9 = .ok (.iload_n 3, 1) := by decide +kernel
theorem dX11_asks_10 : decode cX11_asks 10 = .ok (.iconst 0, 1) := by decide +kernel
theorem dX11_asks_11 : decode cX11_asks 11 = .ok (.sipush 999, 3) := by decide +kernel
theorem dX11_asks_14 : decode cX11_asks 14 = .ok (.invokestatic 101, 3) := by decide +kernel
theorem dX11_asks_17 : decode cX11_asks 17 = .ok (.ifCond .eq 8, 3) := by decide +kernel
theorem dX11_asks_20 : decode cX11_asks 20 = .ok (.iload 4, 2) := by decide +kernel
theorem dX11_asks_22 : decode cX11_asks 22 = .ok (.ifCond .ge 6, 3) := by decide +kernel
theorem dX11_asks_25 : decode cX11_asks 25 = .ok (.bipush (-2), 2) := by decide +kernel
theorem dX11_asks_27 : decode cX11_asks 27 = .ok (.ireturn, 1) := by decide +kernel
theorem dX11_asks_28 : decode cX11_asks 28 = .ok (.iload_n 2, 1) := by decide +kernel
theorem dX11_asks_29 : decode cX11_asks 29 = .ok (.bipush 100, 2) := by decide +kernel
theorem dX11_asks_31 : decode cX11_asks 31 = .ok (.idiv, 1) := by decide +kernel
theorem dX11_asks_32 : decode cX11_asks 32 = .ok (.istore 5, 2) := by decide +kernel
theorem dX11_asks_34 : decode cX11_asks 34 = .ok (.iload_n 2, 1) := by decide +kernel
theorem dX11_asks_35 : decode cX11_asks 35 = .ok (.bipush 100, 2) := by decide +kernel
theorem dX11_asks_37 : decode cX11_asks 37 = .ok (.irem, 1) := by decide +kernel
theorem dX11_asks_38 : decode cX11_asks 38 = .ok (.istore 6, 2) := by decide +kernel
theorem dX11_asks_40 : decode cX11_asks 40 = .ok (.iload_n 2, 1) := by decide +kernel
theorem dX11_asks_41 : decode cX11_asks 41 = .ok (.ifCond .lt 29, 3) := by decide +kernel
theorem dX11_asks_44 : decode cX11_asks 44 = .ok (.iload 5, 2) := by decide +kernel
theorem dX11_asks_46 : decode cX11_asks 46 = .ok (.bipush 99, 2) := by decide +kernel
theorem dX11_asks_48 : decode cX11_asks 48 = .ok (.if_icmp .gt 22, 3) := by decide +kernel
theorem dX11_asks_51 : decode cX11_asks 51 = .ok (.iload 6, 2) := by decide +kernel
theorem dX11_asks_53 : decode cX11_asks 53 = .ok (.bipush 40, 2) := by decide +kernel
theorem dX11_asks_55 : decode cX11_asks 55 = .ok (.if_icmp .ge 15, 3) := by decide +kernel
theorem dX11_asks_58 : decode cX11_asks 58 = .ok (.aload_n 0, 1) := by decide +kernel
theorem dX11_asks_59 : decode cX11_asks 59 = .ok (.iload 4, 2) := by decide +kernel
theorem dX11_asks_61 : decode cX11_asks 61 = .ok (.bipush 100, 2) := by decide +kernel
theorem dX11_asks_63 : decode cX11_asks 63 = .ok (.idiv, 1) := by decide +kernel
theorem dX11_asks_64 : decode cX11_asks 64 = .ok (.invokevirtual 126, 3) := by decide +kernel
theorem dX11_asks_67 : decode cX11_asks 67 = .ok (.ifCond .ne 6, 3) := by decide +kernel
theorem dX11_asks_70 : decode cX11_asks 70 = .ok (.bipush (-2), 2) := by decide +kernel
theorem dX11_asks_72 : decode cX11_asks 72 = .ok (.ireturn, 1) := by decide +kernel
theorem dX11_asks_73 : decode cX11_asks 73 = .ok (.aload_n 0, 1) := by decide +kernel
theorem dX11_asks_74 : decode cX11_asks 74 = .ok (.aload_n 0, 1) := by decide +kernel
theorem dX11_asks_75 : decode cX11_asks 75 = .ok (.getfield 10, 3) := by decide +kernel
theorem dX11_asks_78 : decode cX11_asks 78 = .ok (.invokevirtual 129, 3) := by decide +kernel
theorem dX11_asks_81 : decode cX11_asks 81 = .ok (.aload_n 0, 1) := by decide +kernel
theorem dX11_asks_82 : decode cX11_asks 82 = .ok (.getfield 25, 3) := by decide +kernel
theorem dX11_asks_85 : decode cX11_asks 85 = .ok (.iload 4, 2) := by decide +kernel
theorem dX11_asks_87 : decode cX11_asks 87 = .ok (.bipush 100, 2) := by decide +kernel
theorem dX11_asks_89 : decode cX11_asks 89 = .ok (.idiv, 1) := by decide +kernel
theorem dX11_asks_90 : decode cX11_asks 90 = .ok (.iload 5, 2) := by decide +kernel
theorem dX11_asks_92 : decode cX11_asks 92 = .ok (.iload 6, 2) := by decide +kernel
theorem dX11_asks_94 : decode cX11_asks 94 = .ok (.iload_n 3, 1) := by decide +kernel
theorem dX11_asks_95 : decode cX11_asks 95 = .ok (.iload 4, 2) := by decide +kernel
theorem dX11_asks_97 : decode cX11_asks 97 = .ok (.bipush 100, 2) := by decide +kernel
theorem dX11_asks_99 : decode cX11_asks 99 = .ok (.irem, 1) := by decide +kernel
theorem dX11_asks_100 : decode cX11_asks 100 = .ok (.invokevirtual 133, 3) := by decide +kernel
theorem dX11_asks_103 : decode cX11_asks 103 = .ok (.aload_n 0, 1) := by decide +kernel
theorem dX11_asks_104 : decode cX11_asks 104 = .ok (.getfield 25, 3) := by decide +kernel
theorem dX11_asks_107 : decode cX11_asks 107 = .ok (.iload_n 1, 1) := by decide +kernel
theorem dX11_asks_108 : decode cX11_asks 108 = .ok (.invokevirtual 137, 3) := by decide +kernel
theorem dX11_asks_111 : decode cX11_asks 111 = .ok (.ireturn, 1) := by decide +kernel
theorem dX11_cake_0 : decode cX11_cake 0 = .ok (.iload_n 1, 1) := by decide +kernel
theorem dX11_cake_1 : decode cX11_cake 1 = .ok (.iconst 0, 1) := by decide +kernel
theorem dX11_cake_2 : decode cX11_cake 2 = .ok (.bipush 59, 2) := by decide +kernel
theorem dX11_cake_4 : decode cX11_cake 4 = .ok (.invokestatic 101, 3) := by decide +kernel
theorem dX11_cake_7 : decode cX11_cake 7 = .ok (.ifCond .eq 24, 3) := by decide +kernel
theorem dX11_cake_10 : decode cX11_cake 10 = .ok (.iload_n 2, 1) := by decide +kernel
theorem dX11_cake_11 : decode cX11_cake 11 = .ok (.iconst 0, 1) := by decide +kernel
theorem dX11_cake_12 : decode cX11_cake 12 = .ok (.sipush 999, 3) := by decide +kernel
theorem dX11_cake_15 : decode cX11_cake 15 = .ok (.invokestatic 101, 3) := by decide +kernel
theorem dX11_cake_18 : decode cX11_cake 18 = .ok (.ifCond .eq 13, 3) := by decide +kernel
theorem dX11_cake_21 : decode cX11_cake 21 = .ok (.iload_n 3, 1) := by decide +kernel
theorem dX11_cake_22 : decode cX11_cake 22 = .ok (.iconst 0, 1) := by decide +kernel
theorem dX11_cake_23 : decode cX11_cake 23 = .ok (.bipush 15, 2) := by decide +kernel
theorem dX11_cake_25 : decode cX11_cake 25 = .ok (.invokestatic 101, 3) := by decide +kernel
theorem dX11_cake_28 : decode cX11_cake 28 = .ok (.ifCond .ne 6, 3) := by decide +kernel
theorem dX11_cake_31 : decode cX11_cake 31 = .ok (.bipush (-2), 2) := by decide +kernel
theorem dX11_cake_33 : decode cX11_cake 33 = .ok (.ireturn, 1) := by decide +kernel
theorem dX11_cake_34 : decode cX11_cake 34 = .ok (.aload_n 0, 1) := by decide +kernel
theorem dX11_cake_35 : decode cX11_cake 35 = .ok (.getfield 10, 3) := by decide +kernel
theorem dX11_cake_38 : decode cX11_cake 38 = .ok (.iload_n 3, 1) := by decide +kernel
theorem dX11_cake_39 : decode cX11_cake 39 = .ok (.invokevirtual 140, 3) := by decide +kernel
theorem dX11_cake_42 : decode cX11_cake 42 = .ok (.iconst (-1), 1) := by decide +kernel
theorem dX11_cake_43 : decode cX11_cake 43 = .ok (.if_icmp .eq 6, 3) := by decide +kernel
theorem dX11_cake_46 : decode cX11_cake 46 = .ok (.bipush (-3), 2) := by decide +kernel
theorem dX11_cake_48 : decode cX11_cake 48 = .ok (.ireturn, 1) := by decide +kernel
theorem dX11_cake_49 : decode cX11_cake 49 = .ok (.aload_n 0, 1) := by decide +kernel
theorem dX11_cake_50 : decode cX11_cake 50 = .ok (.getfield 10, 3) := by decide +kernel
theorem dX11_cake_53 : decode cX11_cake 53 = .ok (.getfield 68, 3) := by decide +kernel
theorem dX11_cake_56 : decode cX11_cake 56 = .ok (.bipush 8, 2) := by decide +kernel
theorem dX11_cake_58 : decode cX11_cake 58 = .ok (.if_icmp .lt 6, 3) := by decide +kernel
theorem dX11_cake_61 : decode cX11_cake 61 = .ok (.bipush (-4), 2) := by decide +kernel
theorem dX11_cake_63 : decode cX11_cake 63 = .ok (.ireturn, 1) := by decide +kernel
theorem dX11_cake_64 : decode cX11_cake 64 = .ok (.aload_n 0, 1) := by decide +kernel
theorem dX11_cake_65 : decode cX11_cake 65 = .ok (.getfield 10, 3) := by decide +kernel
theorem dX11_cake_68 : decode cX11_cake 68 = .ok (.getfield 68, 3) := by decide +kernel
theorem dX11_cake_71 : decode cX11_cake 71 = .ok (.istore 4, 2) := by decide +kernel
theorem dX11_cake_73 : decode cX11_cake 73 = .ok (.aload_n 0, 1) := by decide +kernel
theorem dX11_cake_74 : decode cX11_cake 74 = .ok (.getfield 10, 3) := by decide +kernel
theorem dX11_cake_77 : decode cX11_cake 77 = .ok (.getfield 143, 3) := by decide +kernel
theorem dX11_cake_80 : decode cX11_cake 80 = .ok (.iload 4, 2) := by decide +kernel
theorem dX11_cake_82 : decode cX11_cake 82 = .ok (.iload_n 1, 1) := by decide +kernel
theorem dX11_cake_83 : decode cX11_cake 83 = .ok (.bipush 10, 2) := by decide +kernel
theorem dX11_cake_85 : decode cX11_cake 85 = .ok (.idiv, 1) := by decide +kernel
theorem dX11_cake_86 : decode cX11_cake 86 = .ok (.iastore, 1) := by decide +kernel
theorem dX11_cake_87 : decode cX11_cake 87 = .ok (.aload_n 0, 1) := by decide +kernel
theorem dX11_cake_88 : decode cX11_cake 88 = .ok (.getfield 10, 3) := by decide +kernel
theorem dX11_cake_91 : decode cX11_cake 91 = .ok (.getfield 146, 3) := by decide +kernel
theorem dX11_cake_94 : decode cX11_cake 94 = .ok (.iload 4, 2) := by decide +kernel
theorem dX11_cake_96 : decode cX11_cake 96 = .ok (.iload_n 1, 1) := by decide +kernel
theorem dX11_cake_97 : decode cX11_cake 97 = .ok (.bipush 10, 2) := by decide +kernel
theorem dX11_cake_99 : decode cX11_cake 99 = .ok (.irem, 1) := by decide +kernel
theorem dX11_cake_100 : decode cX11_cake 100 = .ok (.iastore, 1) := by decide +kernel
theorem dX11_cake_101 : decode cX11_cake 101 = .ok (.aload_n 0, 1) := by decide +kernel
theorem dX11_cake_102 : decode cX11_cake 102 = .ok (.getfield 10, 3) := by decide +kernel
theorem dX11_cake_105 : decode cX11_cake 105 = .ok (.getfield 149, 3) := by decide +kernel
theorem dX11_cake_108 : decode cX11_cake 108 = .ok (.iload 4, 2) := by decide +kernel
theorem dX11_cake_110 : decode cX11_cake 110 = .ok (.iload_n 2, 1) := by decide +kernel
theorem dX11_cake_111 : decode cX11_cake 111 = .ok (.iastore, 1) := by decide +kernel
theorem dX11_cake_112 : decode cX11_cake 112 = .ok (.aload_n 0, 1) := by decide +kernel
theorem dX11_cake_113 : decode cX11_cake 113 = .ok (.getfield 10, 3) := by decide +kernel
theorem dX11_cake_116 : decode cX11_cake 116 = .ok (.getfield 152, 3) := by decide +kernel
theorem dX11_cake_119 : decode cX11_cake 119 = .ok (.iload 4, 2) := by decide +kernel
theorem dX11_cake_121 : decode cX11_cake 121 = .ok (.iload_n 3, 1) := by decide +kernel
theorem dX11_cake_122 : decode cX11_cake 122 = .ok (.iastore, 1) := by decide +kernel
theorem dX11_cake_123 : decode cX11_cake 123 = .ok (.aload_n 0, 1) := by decide +kernel
theorem dX11_cake_124 : decode cX11_cake 124 = .ok (.getfield 10, 3) := by decide +kernel
theorem dX11_cake_127 : decode cX11_cake 127 = .ok (.dup, 1) := by decide +kernel
theorem dX11_cake_128 : decode cX11_cake 128 = .ok (.getfield 68, 3) := by decide +kernel
theorem dX11_cake_131 : decode cX11_cake 131 = .ok (.iconst 1, 1) := by decide +kernel
theorem dX11_cake_132 : decode cX11_cake 132 = .ok (.iadd, 1) := by decide +kernel
theorem dX11_cake_133 : decode cX11_cake 133 = .ok (.putfield 68, 3) := by decide +kernel
theorem dX11_cake_136 : decode cX11_cake 136 = .ok (.iload 4, 2) := by decide +kernel
theorem dX11_cake_138 : decode cX11_cake 138 = .ok (.ireturn, 1) := by decide +kernel
theorem dX11_move_0 : decode cX11_move 0 = .ok (.aload_n 0, 1) := by decide +kernel
theorem dX11_move_1 : decode cX11_move 1 = .ok (.iload_n 1, 1) := by decide +kernel
theorem dX11_move_2 : decode cX11_move 2 = .ok (.invokevirtual 126, 3) := by decide +kernel
theorem dX11_move_5 : decode cX11_move 5 = .ok (.ifCond .ne 6, 3) := by decide +kernel
theorem dX11_move_8 : decode cX11_move 8 = .ok (.bipush (-5), 2) := by decide +kernel
theorem dX11_move_10 : decode cX11_move 10 = .ok (.ireturn, 1) := by decide +kernel
theorem dX11_move_11 : decode cX11_move 11 = .ok (.iload_n 2, 1) := by decide +kernel
theorem dX11_move_12 : decode cX11_move 12 = .ok (.iconst 0, 1) := by decide +kernel
theorem dX11_move_13 : decode cX11_move 13 = .ok (.bipush 15, 2) := by decide +kernel
theorem dX11_move_15 : decode cX11_move 15 = .ok (.invokestatic 101, 3) := by decide +kernel
theorem dX11_move_18 : decode cX11_move 18 = .ok (.ifCond .ne 6, 3) := by decide +kernel
theorem dX11_move_21 : decode cX11_move 21 = .ok (.bipush (-7), 2) := by decide +kernel
theorem dX11_move_23 : decode cX11_move 23 = .ok (.ireturn, 1) := by decide +kernel
theorem dX11_move_24 : decode cX11_move 24 = .ok (.aload_n 0, 1) := by decide +kernel
theorem dX11_move_25 : decode cX11_move 25 = .ok (.getfield 10, 3) := by decide +kernel
theorem dX11_move_28 : decode cX11_move 28 = .ok (.iload_n 2, 1) := by decide +kernel
theorem dX11_move_29 : decode cX11_move 29 = .ok (.invokevirtual 140, 3) := by decide +kernel
theorem dX11_move_32 : decode cX11_move 32 = .ok (.istore_n 3, 1) := by decide +kernel
theorem dX11_move_33 : decode cX11_move 33 = .ok (.iload_n 3, 1) := by decide +kernel
theorem dX11_move_34 : decode cX11_move 34 = .ok (.iconst (-1), 1) := by decide +kernel
theorem dX11_move_35 : decode cX11_move 35 = .ok (.if_icmp .eq 11, 3) := by decide +kernel
theorem dX11_move_38 : decode cX11_move 38 = .ok (.iload_n 3, 1) := by decide +kernel
theorem dX11_move_39 : decode cX11_move 39 = .ok (.iload_n 1, 1) := by decide +kernel
theorem dX11_move_40 : decode cX11_move 40 = .ok (.if_icmp .eq 6, 3) := by decide +kernel
theorem dX11_move_43 : decode cX11_move 43 = .ok (.bipush (-3), 2) := by decide +kernel
theorem dX11_move_45 : decode cX11_move 45 = .ok (.ireturn, 1) := by decide +kernel
theorem dX11_move_46 : decode cX11_move 46 = .ok (.aload_n 0, 1) := by decide +kernel
theorem dX11_move_47 : decode cX11_move 47 = .ok (.getfield 10, 3) := by decide +kernel
theorem dX11_move_50 : decode cX11_move 50 = .ok (.getfield 152, 3) := by decide +kernel
theorem dX11_move_53 : decode cX11_move 53 = .ok (.iload_n 1, 1) := by decide +kernel
theorem dX11_move_54 : decode cX11_move 54 = .ok (.iaload, 1) := by decide +kernel
theorem dX11_move_55 : decode cX11_move 55 = .ok (.istore 4, 2) := by decide +kernel
theorem dX11_move_57 : decode cX11_move 57 = .ok (.aload_n 0, 1) := by decide +kernel
theorem dX11_move_58 : decode cX11_move 58 = .ok (.getfield 10, 3) := by decide +kernel
theorem dX11_move_61 : decode cX11_move 61 = .ok (.getfield 152, 3) := by decide +kernel
theorem dX11_move_64 : decode cX11_move 64 = .ok (.iload_n 1, 1) := by decide +kernel
theorem dX11_move_65 : decode cX11_move 65 = .ok (.iload_n 2, 1) := by decide +kernel
theorem dX11_move_66 : decode cX11_move 66 = .ok (.iastore, 1) := by decide +kernel
theorem dX11_move_67 : decode cX11_move 67 = .ok (.iload 4, 2) := by decide +kernel
theorem dX11_move_69 : decode cX11_move 69 = .ok (.ireturn, 1) := by decide +kernel
theorem dX11_told_0 : decode cX11_told 0 = .ok (.aload_n 0, 1) := by decide +kernel
theorem dX11_told_1 : decode cX11_told 1 = .ok (.iload_n 1, 1) := by decide +kernel
theorem dX11_told_2 : decode cX11_told 2 = .ok (.invokevirtual 126, 3) := by decide +kernel
theorem dX11_told_5 : decode cX11_told 5 = .ok (.ifCond .ne 6, 3) := by decide +kernel
theorem dX11_told_8 : decode cX11_told 8 = .ok (.bipush (-5), 2) := by decide +kernel
theorem dX11_told_10 : decode cX11_told 10 = .ok (.ireturn, 1) := by decide +kernel
theorem dX11_told_11 : decode cX11_told 11 = .ok (.iload_n 2, 1) := by decide +kernel
theorem dX11_told_12 : decode cX11_told 12 = .ok (.tableswitch 105 0 4 #[36, 46, 56, 66, 76], 36) := by decide +kernel
theorem dX11_told_48 : decode cX11_told 48 = .ok (.aload_n 0, 1) := by decide +kernel
theorem dX11_told_49 : decode cX11_told 49 = .ok (.getfield 10, 3) := by decide +kernel
theorem dX11_told_52 : decode cX11_told 52 = .ok (.getfield 143, 3) := by decide +kernel
theorem dX11_told_55 : decode cX11_told 55 = .ok (.iload_n 1, 1) := by decide +kernel
theorem dX11_told_56 : decode cX11_told 56 = .ok (.iaload, 1) := by decide +kernel
theorem dX11_told_57 : decode cX11_told 57 = .ok (.ireturn, 1) := by decide +kernel
theorem dX11_told_58 : decode cX11_told 58 = .ok (.aload_n 0, 1) := by decide +kernel
theorem dX11_told_59 : decode cX11_told 59 = .ok (.getfield 10, 3) := by decide +kernel
theorem dX11_told_62 : decode cX11_told 62 = .ok (.getfield 146, 3) := by decide +kernel
theorem dX11_told_65 : decode cX11_told 65 = .ok (.iload_n 1, 1) := by decide +kernel
theorem dX11_told_66 : decode cX11_told 66 = .ok (.iaload, 1) := by decide +kernel
theorem dX11_told_67 : decode cX11_told 67 = .ok (.ireturn, 1) := by decide +kernel
theorem dX11_told_68 : decode cX11_told 68 = .ok (.aload_n 0, 1) := by decide +kernel
theorem dX11_told_69 : decode cX11_told 69 = .ok (.getfield 10, 3) := by decide +kernel
theorem dX11_told_72 : decode cX11_told 72 = .ok (.getfield 149, 3) := by decide +kernel
theorem dX11_told_75 : decode cX11_told 75 = .ok (.iload_n 1, 1) := by decide +kernel
theorem dX11_told_76 : decode cX11_told 76 = .ok (.iaload, 1) := by decide +kernel
theorem dX11_told_77 : decode cX11_told 77 = .ok (.ireturn, 1) := by decide +kernel
theorem dX11_told_78 : decode cX11_told 78 = .ok (.aload_n 0, 1) := by decide +kernel
theorem dX11_told_79 : decode cX11_told 79 = .ok (.getfield 10, 3) := by decide +kernel
theorem dX11_told_82 : decode cX11_told 82 = .ok (.getfield 152, 3) := by decide +kernel
theorem dX11_told_85 : decode cX11_told 85 = .ok (.iload_n 1, 1) := by decide +kernel
theorem dX11_told_86 : decode cX11_told 86 = .ok (.iaload, 1) := by decide +kernel
theorem dX11_told_87 : decode cX11_told 87 = .ok (.ireturn, 1) := by decide +kernel
theorem dX11_told_88 : decode cX11_told 88 = .ok (.aload_n 0, 1) := by decide +kernel
theorem dX11_told_89 : decode cX11_told 89 = .ok (.getfield 25, 3) := by decide +kernel
theorem dX11_told_92 : decode cX11_told 92 = .ok (.aload_n 0, 1) := by decide +kernel
theorem dX11_told_93 : decode cX11_told 93 = .ok (.getfield 10, 3) := by decide +kernel
theorem dX11_told_96 : decode cX11_told 96 = .ok (.getfield 143, 3) := by decide +kernel
theorem dX11_told_99 : decode cX11_told 99 = .ok (.iload_n 1, 1) := by decide +kernel
theorem dX11_told_100 : decode cX11_told 100 = .ok (.iaload, 1) := by decide +kernel
theorem dX11_told_101 : decode cX11_told 101 = .ok (.invokevirtual 155, 3) := by decide +kernel
theorem dX11_told_104 : decode cX11_told 104 = .ok (.aload_n 0, 1) := by decide +kernel
theorem dX11_told_105 : decode cX11_told 105 = .ok (.getfield 10, 3) := by decide +kernel
theorem dX11_told_108 : decode cX11_told 108 = .ok (.getfield 146, 3) := by decide +kernel
theorem dX11_told_111 : decode cX11_told 111 = .ok (.iload_n 1, 1) := by decide +kernel
theorem dX11_told_112 : decode cX11_told 112 = .ok (.iaload, 1) := by decide +kernel
theorem dX11_told_113 : decode cX11_told 113 = .ok (.invokevirtual 159, 3) := by decide +kernel
theorem dX11_told_116 : decode cX11_told 116 = .ok (.ireturn, 1) := by decide +kernel
theorem dX11_told_117 : decode cX11_told 117 = .ok (.bipush (-7), 2) := by decide +kernel
theorem dX11_told_119 : decode cX11_told 119 = .ok (.ireturn, 1) := by decide +kernel
theorem dX11_open_0 : decode cX11_open 0 = .ok (.iload_n 1, 1) := by decide +kernel
theorem dX11_open_1 : decode cX11_open 1 = .ok (.iconst 0, 1) := by decide +kernel
theorem dX11_open_2 : decode cX11_open 2 = .ok (.bipush 39, 2) := by decide +kernel
theorem dX11_open_4 : decode cX11_open 4 = .ok (.invokestatic 101, 3) := by decide +kernel
theorem dX11_open_7 : decode cX11_open 7 = .ok (.ifCond .eq 12, 3) := by decide +kernel
theorem dX11_open_10 : decode cX11_open 10 = .ok (.iload_n 2, 1) := by decide +kernel
theorem dX11_open_11 : decode cX11_open 11 = .ok (.iconst 0, 1) := by decide +kernel
theorem dX11_open_12 : decode cX11_open 12 = .ok (.iconst 3, 1) := by decide +kernel
theorem dX11_open_13 : decode cX11_open 13 = .ok (.invokestatic 101, 3) := by decide +kernel
theorem dX11_open_16 : decode cX11_open 16 = .ok (.ifCond .ne 6, 3) := by decide +kernel
theorem dX11_open_19 : decode cX11_open 19 = .ok (.bipush (-2), 2) := by decide +kernel
theorem dX11_open_21 : decode cX11_open 21 = .ok (.ireturn, 1) := by decide +kernel
theorem dX11_open_22 : decode cX11_open 22 = .ok (.aload_n 0, 1) := by decide +kernel
theorem dX11_open_23 : decode cX11_open 23 = .ok (.getfield 10, 3) := by decide +kernel
theorem dX11_open_26 : decode cX11_open 26 = .ok (.getfield 78, 3) := by decide +kernel
theorem dX11_open_29 : decode cX11_open 29 = .ok (.istore_n 3, 1) := by decide +kernel
theorem dX11_open_30 : decode cX11_open 30 = .ok (.iload_n 3, 1) := by decide +kernel
theorem dX11_open_31 : decode cX11_open 31 = .ok (.ifCond .le 21, 3) := by decide +kernel
theorem dX11_open_34 : decode cX11_open 34 = .ok (.iload_n 1, 1) := by decide +kernel
theorem dX11_open_35 : decode cX11_open 35 = .ok (.aload_n 0, 1) := by decide +kernel
theorem dX11_open_36 : decode cX11_open 36 = .ok (.getfield 10, 3) := by decide +kernel
theorem dX11_open_39 : decode cX11_open 39 = .ok (.getfield 164, 3) := by decide +kernel
theorem dX11_open_42 : decode cX11_open 42 = .ok (.iload_n 3, 1) := by decide +kernel
theorem dX11_open_43 : decode cX11_open 43 = .ok (.iconst 1, 1) := by decide +kernel
theorem dX11_open_44 : decode cX11_open 44 = .ok (.isub, 1) := by decide +kernel
theorem dX11_open_45 : decode cX11_open 45 = .ok (.iaload, 1) := by decide +kernel
theorem dX11_open_46 : decode cX11_open 46 = .ok (.if_icmp .gt 6, 3) := by decide +kernel
theorem dX11_open_49 : decode cX11_open 49 = .ok (.bipush (-3), 2) := by decide +kernel
theorem dX11_open_51 : decode cX11_open 51 = .ok (.ireturn, 1) := by decide +kernel
theorem dX11_open_52 : decode cX11_open 52 = .ok (.iload_n 3, 1) := by decide +kernel
theorem dX11_open_53 : decode cX11_open 53 = .ok (.bipush 6, 2) := by decide +kernel
theorem dX11_open_55 : decode cX11_open 55 = .ok (.if_icmp .lt 6, 3) := by decide +kernel
theorem dX11_open_58 : decode cX11_open 58 = .ok (.bipush (-4), 2) := by decide +kernel
theorem dX11_open_60 : decode cX11_open 60 = .ok (.ireturn, 1) := by decide +kernel
theorem dX11_open_61 : decode cX11_open 61 = .ok (.aload_n 0, 1) := by decide +kernel
theorem dX11_open_62 : decode cX11_open 62 = .ok (.getfield 10, 3) := by decide +kernel
theorem dX11_open_65 : decode cX11_open 65 = .ok (.iload_n 3, 1) := by decide +kernel
theorem dX11_open_66 : decode cX11_open 66 = .ok (.iload_n 1, 1) := by decide +kernel
theorem dX11_open_67 : decode cX11_open 67 = .ok (.iload_n 2, 1) := by decide +kernel
theorem dX11_open_68 : decode cX11_open 68 = .ok (.invokevirtual 167, 3) := by decide +kernel
theorem dX11_open_71 : decode cX11_open 71 = .ok (.aload_n 0, 1) := by decide +kernel
theorem dX11_open_72 : decode cX11_open 72 = .ok (.getfield 10, 3) := by decide +kernel
theorem dX11_open_75 : decode cX11_open 75 = .ok (.getfield 78, 3) := by decide +kernel
theorem dX11_open_78 : decode cX11_open 78 = .ok (.ireturn, 1) := by decide +kernel
theorem dX11_opening_0 : decode cX11_opening 0 = .ok (.iload_n 1, 1) := by decide +kernel
theorem dX11_opening_1 : decode cX11_opening 1 = .ok (.iconst 0, 1) := by decide +kernel
theorem dX11_opening_2 : decode cX11_opening 2 = .ok (.aload_n 0, 1) := by decide +kernel
theorem dX11_opening_3 : decode cX11_opening 3 = .ok (.getfield 10, 3) := by decide +kernel
theorem dX11_opening_6 : decode cX11_opening 6 = .ok (.getfield 78, 3) := by decide +kernel
theorem dX11_opening_9 : decode cX11_opening 9 = .ok (.iconst 1, 1) := by decide +kernel
theorem dX11_opening_10 : decode cX11_opening 10 = .ok (.isub, 1) := by decide +kernel
theorem dX11_opening_11 : decode cX11_opening 11 = .ok (.invokestatic 101, 3) := by decide +kernel
theorem dX11_opening_14 : decode cX11_opening 14 = .ok (.ifCond .ne 6, 3) := by decide +kernel
theorem dX11_opening_17 : decode cX11_opening 17 = .ok (.bipush (-5), 2) := by decide +kernel
theorem dX11_opening_19 : decode cX11_opening 19 = .ok (.ireturn, 1) := by decide +kernel
theorem dX11_opening_20 : decode cX11_opening 20 = .ok (.iload_n 2, 1) := by decide +kernel
theorem dX11_opening_21 : decode cX11_opening 21 = .ok (.iconst 0, 1) := by decide +kernel
theorem dX11_opening_22 : decode cX11_opening 22 = .ok (.iconst 1, 1) := by decide +kernel
theorem dX11_opening_23 : decode cX11_opening 23 = .ok (.invokestatic 101, 3) := by decide +kernel
theorem dX11_opening_26 : decode cX11_opening 26 = .ok (.ifCond .ne 6, 3) := by decide +kernel
theorem dX11_opening_29 : decode cX11_opening 29 = .ok (.bipush (-7), 2) := by decide +kernel
theorem dX11_opening_31 : decode cX11_opening 31 = .ok (.ireturn, 1) := by decide +kernel
theorem dX11_opening_32 : decode cX11_opening 32 = .ok (.iload_n 2, 1) := by decide +kernel
theorem dX11_opening_33 : decode cX11_opening 33 = .ok (.ifCond .ne 15, 3) := by decide +kernel
theorem dX11_opening_36 : decode cX11_opening 36 = .ok (.aload_n 0, 1) := by decide +kernel
theorem dX11_opening_37 : decode cX11_opening 37 = .ok (.getfield 10, 3) := by decide +kernel
theorem dX11_opening_40 : decode cX11_opening 40 = .ok (.getfield 164, 3) := by decide +kernel
theorem dX11_opening_43 : decode cX11_opening 43 = .ok (.iload_n 1, 1) := by decide +kernel
theorem dX11_opening_44 : decode cX11_opening 44 = .ok (.iaload, 1) := by decide +kernel
theorem dX11_opening_45 : decode cX11_opening 45 = .ok (.goto 12, 3) := by decide +kernel
theorem dX11_opening_48 : decode cX11_opening 48 = .ok (.aload_n 0, 1) := by decide +kernel
theorem dX11_opening_49 : decode cX11_opening 49 = .ok (.getfield 10, 3) := by decide +kernel
theorem dX11_opening_52 : decode cX11_opening 52 = .ok (.getfield 171, 3) := by decide +kernel
theorem dX11_opening_55 : decode cX11_opening 55 = .ok (.iload_n 1, 1) := by decide +kernel
theorem dX11_opening_56 : decode cX11_opening 56 = .ok (.iaload, 1) := by decide +kernel
theorem dX11_opening_57 : decode cX11_opening 57 = .ok (.ireturn, 1) := by decide +kernel
theorem dX11_shut_0 : decode cX11_shut 0 = .ok (.aload_n 0, 1) := by decide +kernel
theorem dX11_shut_1 : decode cX11_shut 1 = .ok (.getfield 10, 3) := by decide +kernel
theorem dX11_shut_4 : decode cX11_shut 4 = .ok (.getfield 78, 3) := by decide +kernel
theorem dX11_shut_7 : decode cX11_shut 7 = .ok (.istore_n 1, 1) := by decide +kernel
theorem dX11_shut_8 : decode cX11_shut 8 = .ok (.aload_n 0, 1) := by decide +kernel
theorem dX11_shut_9 : decode cX11_shut 9 = .ok (.getfield 10, 3) := by decide +kernel
theorem dX11_shut_12 : decode cX11_shut 12 = .ok (.iconst 0, 1) := by decide +kernel
theorem dX11_shut_13 : decode cX11_shut 13 = .ok (.putfield 78, 3) := by decide +kernel
theorem dX11_shut_16 : decode cX11_shut 16 = .ok (.iload_n 1, 1) := by decide +kernel
theorem dX11_shut_17 : decode cX11_shut 17 = .ok (.ireturn, 1) := by decide +kernel
theorem dX11_at_0 : decode cX11_at 0 = .ok (.aload_n 0, 1) := by decide +kernel
theorem dX11_at_1 : decode cX11_at 1 = .ok (.iload_n 1, 1) := by decide +kernel
theorem dX11_at_2 : decode cX11_at 2 = .ok (.invokevirtual 126, 3) := by decide +kernel
theorem dX11_at_5 : decode cX11_at 5 = .ok (.ifCond .ne 6, 3) := by decide +kernel
theorem dX11_at_8 : decode cX11_at 8 = .ok (.bipush (-5), 2) := by decide +kernel
theorem dX11_at_10 : decode cX11_at 10 = .ok (.ireturn, 1) := by decide +kernel
theorem dX11_at_11 : decode cX11_at 11 = .ok (.iload_n 2, 1) := by decide +kernel
theorem dX11_at_12 : decode cX11_at 12 = .ok (.iconst 0, 1) := by decide +kernel
theorem dX11_at_13 : decode cX11_at 13 = .ok (.aload_n 0, 1) := by decide +kernel
theorem dX11_at_14 : decode cX11_at 14 = .ok (.getfield 10, 3) := by decide +kernel
theorem dX11_at_17 : decode cX11_at 17 = .ok (.getfield 72, 3) := by decide +kernel
theorem dX11_at_20 : decode cX11_at 20 = .ok (.invokestatic 101, 3) := by decide +kernel
theorem dX11_at_23 : decode cX11_at 23 = .ok (.ifCond .ne 6, 3) := by decide +kernel
theorem dX11_at_26 : decode cX11_at 26 = .ok (.bipush (-7), 2) := by decide +kernel
theorem dX11_at_28 : decode cX11_at 28 = .ok (.ireturn, 1) := by decide +kernel
theorem dX11_at_29 : decode cX11_at 29 = .ok (.aload_n 0, 1) := by decide +kernel
theorem dX11_at_30 : decode cX11_at 30 = .ok (.aload_n 0, 1) := by decide +kernel
theorem dX11_at_31 : decode cX11_at 31 = .ok (.getfield 10, 3) := by decide +kernel
theorem dX11_at_34 : decode cX11_at 34 = .ok (.iload_n 2, 1) := by decide +kernel
theorem dX11_at_35 : decode cX11_at 35 = .ok (.invokevirtual 174, 3) := by decide +kernel
theorem dX11_at_38 : decode cX11_at 38 = .ok (.aload_n 0, 1) := by decide +kernel
theorem dX11_at_39 : decode cX11_at 39 = .ok (.getfield 25, 3) := by decide +kernel
theorem dX11_at_42 : decode cX11_at 42 = .ok (.getfield 178, 3) := by decide +kernel
theorem dX11_at_45 : decode cX11_at 45 = .ok (.iload_n 1, 1) := by decide +kernel
theorem dX11_at_46 : decode cX11_at 46 = .ok (.iaload, 1) := by decide +kernel
theorem dX11_at_47 : decode cX11_at 47 = .ok (.ireturn, 1) := by decide +kernel
theorem dX11_end_0 : decode cX11_end 0 = .ok (.iload_n 1, 1) := by decide +kernel
theorem dX11_end_1 : decode cX11_end 1 = .ok (.iconst 0, 1) := by decide +kernel
theorem dX11_end_2 : decode cX11_end 2 = .ok (.iconst 4, 1) := by decide +kernel
theorem dX11_end_3 : decode cX11_end 3 = .ok (.invokestatic 101, 3) := by decide +kernel
theorem dX11_end_6 : decode cX11_end 6 = .ok (.ifCond .ne 6, 3) := by decide +kernel
theorem dX11_end_9 : decode cX11_end 9 = .ok (.bipush (-2), 2) := by decide +kernel
theorem dX11_end_11 : decode cX11_end 11 = .ok (.ireturn, 1) := by decide +kernel
theorem dX11_end_12 : decode cX11_end 12 = .ok (.aload_n 0, 1) := by decide +kernel
theorem dX11_end_13 : decode cX11_end 13 = .ok (.aload_n 0, 1) := by decide +kernel
theorem dX11_end_14 : decode cX11_end 14 = .ok (.getfield 10, 3) := by decide +kernel
theorem dX11_end_17 : decode cX11_end 17 = .ok (.aload_n 0, 1) := by decide +kernel
theorem dX11_end_18 : decode cX11_end 18 = .ok (.getfield 10, 3) := by decide +kernel
theorem dX11_end_21 : decode cX11_end 21 = .ok (.getfield 72, 3) := by decide +kernel
theorem dX11_end_24 : decode cX11_end 24 = .ok (.invokevirtual 174, 3) := by decide +kernel
theorem dX11_end_27 : decode cX11_end 27 = .ok (.iload_n 1, 1) := by decide +kernel
theorem dX11_end_28 : decode cX11_end 28 = .ok (.tableswitch 64 0 3 #[32, 40, 48, 56], 32) := by decide +kernel
theorem dX11_end_60 : decode cX11_end 60 = .ok (.aload_n 0, 1) := by decide +kernel
theorem dX11_end_61 : decode cX11_end 61 = .ok (.getfield 25, 3) := by decide +kernel
theorem dX11_end_64 : decode cX11_end 64 = .ok (.invokevirtual 181, 3) := by decide +kernel
theorem dX11_end_67 : decode cX11_end 67 = .ok (.ireturn, 1) := by decide +kernel
theorem dX11_end_68 : decode cX11_end 68 = .ok (.aload_n 0, 1) := by decide +kernel
theorem dX11_end_69 : decode cX11_end 69 = .ok (.getfield 25, 3) := by decide +kernel
theorem dX11_end_72 : decode cX11_end 72 = .ok (.invokevirtual 184, 3) := by decide +kernel
theorem dX11_end_75 : decode cX11_end 75 = .ok (.ireturn, 1) := by decide +kernel
theorem dX11_end_76 : decode cX11_end 76 = .ok (.aload_n 0, 1) := by decide +kernel
theorem dX11_end_77 : decode cX11_end 77 = .ok (.getfield 25, 3) := by decide +kernel
theorem dX11_end_80 : decode cX11_end 80 = .ok (.invokevirtual 187, 3) := by decide +kernel
theorem dX11_end_83 : decode cX11_end 83 = .ok (.ireturn, 1) := by decide +kernel
theorem dX11_end_84 : decode cX11_end 84 = .ok (.aload_n 0, 1) := by decide +kernel
theorem dX11_end_85 : decode cX11_end 85 = .ok (.getfield 25, 3) := by decide +kernel
theorem dX11_end_88 : decode cX11_end 88 = .ok (.invokevirtual 190, 3) := by decide +kernel
theorem dX11_end_91 : decode cX11_end 91 = .ok (.ireturn, 1) := by decide +kernel
theorem dX11_end_92 : decode cX11_end 92 = .ok (.aload_n 0, 1) := by decide +kernel
theorem dX11_end_93 : decode cX11_end 93 = .ok (.getfield 25, 3) := by decide +kernel
theorem dX11_end_96 : decode cX11_end 96 = .ok (.invokevirtual 193, 3) := by decide +kernel
theorem dX11_end_99 : decode cX11_end 99 = .ok (.ireturn, 1) := by decide +kernel
theorem dX11_off_0 : decode cX11_off 0 = .ok (.aload_n 0, 1) := by decide +kernel
theorem dX11_off_1 : decode cX11_off 1 = .ok (.iload_n 1, 1) := by decide +kernel
theorem dX11_off_2 : decode cX11_off 2 = .ok (.invokevirtual 126, 3) := by decide +kernel
theorem dX11_off_5 : decode cX11_off 5 = .ok (.ifCond .ne 6, 3) := by decide +kernel
theorem dX11_off_8 : decode cX11_off 8 = .ok (.bipush (-5), 2) := by decide +kernel
theorem dX11_off_10 : decode cX11_off 10 = .ok (.ireturn, 1) := by decide +kernel
theorem dX11_off_11 : decode cX11_off 11 = .ok (.iload_n 2, 1) := by decide +kernel
theorem dX11_off_12 : decode cX11_off 12 = .ok (.iconst 0, 1) := by decide +kernel
theorem dX11_off_13 : decode cX11_off 13 = .ok (.iconst 1, 1) := by decide +kernel
theorem dX11_off_14 : decode cX11_off 14 = .ok (.invokestatic 101, 3) := by decide +kernel
theorem dX11_off_17 : decode cX11_off 17 = .ok (.ifCond .ne 6, 3) := by decide +kernel
theorem dX11_off_20 : decode cX11_off 20 = .ok (.bipush (-7), 2) := by decide +kernel
theorem dX11_off_22 : decode cX11_off 22 = .ok (.ireturn, 1) := by decide +kernel
theorem dX11_off_23 : decode cX11_off 23 = .ok (.aload_n 0, 1) := by decide +kernel
theorem dX11_off_24 : decode cX11_off 24 = .ok (.aload_n 0, 1) := by decide +kernel
theorem dX11_off_25 : decode cX11_off 25 = .ok (.getfield 10, 3) := by decide +kernel
theorem dX11_off_28 : decode cX11_off 28 = .ok (.aload_n 0, 1) := by decide +kernel
theorem dX11_off_29 : decode cX11_off 29 = .ok (.getfield 10, 3) := by decide +kernel
theorem dX11_off_32 : decode cX11_off 32 = .ok (.getfield 72, 3) := by decide +kernel
theorem dX11_off_35 : decode cX11_off 35 = .ok (.invokevirtual 174, 3) := by decide +kernel
theorem dX11_off_38 : decode cX11_off 38 = .ok (.iload_n 2, 1) := by decide +kernel
theorem dX11_off_39 : decode cX11_off 39 = .ok (.ifCond .ne 14, 3) := by decide +kernel
theorem dX11_off_42 : decode cX11_off 42 = .ok (.aload_n 0, 1) := by decide +kernel
theorem dX11_off_43 : decode cX11_off 43 = .ok (.getfield 25, 3) := by decide +kernel
theorem dX11_off_46 : decode cX11_off 46 = .ok (.iload_n 1, 1) := by decide +kernel
theorem dX11_off_47 : decode cX11_off 47 = .ok (.invokevirtual 196, 3) := by decide +kernel
theorem dX11_off_50 : decode cX11_off 50 = .ok (.goto 11, 3) := by decide +kernel
theorem dX11_off_53 : decode cX11_off 53 = .ok (.aload_n 0, 1) := by decide +kernel
theorem dX11_off_54 : decode cX11_off 54 = .ok (.getfield 25, 3) := by decide +kernel
theorem dX11_off_57 : decode cX11_off 57 = .ok (.iload_n 1, 1) := by decide +kernel
theorem dX11_off_58 : decode cX11_off 58 = .ok (.invokevirtual 199, 3) := by decide +kernel
theorem dX11_off_61 : decode cX11_off 61 = .ok (.ireturn, 1) := by decide +kernel
theorem dX11_when_0 : decode cX11_when 0 = .ok (.iload_n 1, 1) := by decide +kernel
theorem dX11_when_1 : decode cX11_when 1 = .ok (.iconst 0, 1) := by decide +kernel
theorem dX11_when_2 : decode cX11_when 2 = .ok (.iconst 1, 1) := by decide +kernel
theorem dX11_when_3 : decode cX11_when 3 = .ok (.invokestatic 101, 3) := by decide +kernel
theorem dX11_when_6 : decode cX11_when 6 = .ok (.ifCond .eq 12, 3) := by decide +kernel
theorem dX11_when_9 : decode cX11_when 9 = .ok (.iload_n 2, 1) := by decide +kernel
theorem dX11_when_10 : decode cX11_when 10 = .ok (.iconst 0, 1) := by decide +kernel
theorem dX11_when_11 : decode cX11_when 11 = .ok (.iconst 1, 1) := by decide +kernel
theorem dX11_when_12 : decode cX11_when 12 = .ok (.invokestatic 101, 3) := by decide +kernel
theorem dX11_when_15 : decode cX11_when 15 = .ok (.ifCond .ne 6, 3) := by decide +kernel
theorem dX11_when_18 : decode cX11_when 18 = .ok (.bipush (-2), 2) := by decide +kernel
theorem dX11_when_20 : decode cX11_when 20 = .ok (.ireturn, 1) := by decide +kernel
theorem dX11_when_21 : decode cX11_when 21 = .ok (.aload_n 0, 1) := by decide +kernel
theorem dX11_when_22 : decode cX11_when 22 = .ok (.invokevirtual 202, 3) := by decide +kernel
theorem dX11_when_25 : decode cX11_when 25 = .ok (.aload_n 0, 1) := by decide +kernel
theorem dX11_when_26 : decode cX11_when 26 = .ok (.invokevirtual 205, 3) := by decide +kernel
theorem dX11_when_29 : decode cX11_when 29 = .ok (.iconst 0, 1) := by decide +kernel
theorem dX11_when_30 : decode cX11_when 30 = .ok (.istore_n 3, 1) := by decide +kernel
theorem dX11_when_31 : decode cX11_when 31 = .ok (.iload_n 3, 1) := by decide +kernel
theorem dX11_when_32 : decode cX11_when 32 = .ok (.aload_n 0, 1) := by decide +kernel
theorem dX11_when_33 : decode cX11_when 33 = .ok (.getfield 10, 3) := by decide +kernel
theorem dX11_when_36 : decode cX11_when 36 = .ok (.getfield 72, 3) := by decide +kernel
theorem dX11_when_39 : decode cX11_when 39 = .ok (.if_icmp .ge 69, 3) := by decide +kernel
theorem dX11_when_42 : decode cX11_when 42 = .ok (.iconst 0, 1) := by decide +kernel
theorem dX11_when_43 : decode cX11_when 43 = .ok (.istore 4, 2) := by decide +kernel
theorem dX11_when_45 : decode cX11_when 45 = .ok (.iload 4, 2) := by decide +kernel
theorem dX11_when_47 : decode cX11_when 47 = .ok (.iconst 3, 1) := by decide +kernel
theorem dX11_when_48 : decode cX11_when 48 = .ok (.if_icmp .gt 54, 3) := by decide +kernel
theorem dX11_when_51 : decode cX11_when 51 = .ok (.aload_n 0, 1) := by decide +kernel
theorem dX11_when_52 : decode cX11_when 52 = .ok (.getfield 16, 3) := by decide +kernel
theorem dX11_when_55 : decode cX11_when 55 = .ok (.iconst 0, 1) := by decide +kernel
theorem dX11_when_56 : decode cX11_when 56 = .ok (.iload_n 3, 1) := by decide +kernel
theorem dX11_when_57 : decode cX11_when 57 = .ok (.iload 4, 2) := by decide +kernel
theorem dX11_when_59 : decode cX11_when 59 = .ok (.invokevirtual 167, 3) := by decide +kernel
theorem dX11_when_62 : decode cX11_when 62 = .ok (.aload_n 0, 1) := by decide +kernel
theorem dX11_when_63 : decode cX11_when 63 = .ok (.bipush 100, 2) := by decide +kernel
theorem dX11_when_65 : decode cX11_when 65 = .ok (.iload_n 3, 1) := by decide +kernel
theorem dX11_when_66 : decode cX11_when 66 = .ok (.imul, 1) := by decide +kernel
theorem dX11_when_67 : decode cX11_when 67 = .ok (.iload 4, 2) := by decide +kernel
