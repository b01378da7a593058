theorem dX4_farOfStep_70 : decode cX4_farOfStep 70 = .ok (.iconst (-1), 1) := by decide +kernel
theorem dX4_farOfStep_71 : decode cX4_farOfStep 71 = .ok (.ireturn, 1) := by decide +kernel
theorem dX4_goOn_0 : decode cX4_goOn 0 = .ok (.aload_n 0, 1) := by decide +kernel
theorem dX4_goOn_1 : decode cX4_goOn 1 = .ok (.iload_n 3, 1) := by decide +kernel
theorem dX4_goOn_2 : decode cX4_goOn 2 = .ok (.invokevirtual 49, 3) := by decide +kernel
theorem dX4_goOn_5 : decode cX4_goOn 5 = .ok (.bipush 40, 2) := by decide +kernel
theorem dX4_goOn_7 : decode cX4_goOn 7 = .ok (.if_icmp .lt 4, 3) := by decide +kernel
theorem dX4_goOn_10 : decode cX4_goOn 10 = .ok (.return_, 1) := by decide +kernel
theorem dX4_goOn_11 : decode cX4_goOn 11 = .ok (.iload_n 3, 1) := by decide +kernel
theorem dX4_goOn_12 : decode cX4_goOn 12 = .ok (.bipush 12, 2) := by decide +kernel
theorem dX4_goOn_14 : decode cX4_goOn 14 = .ok (.idiv, 1) := by decide +kernel
theorem dX4_goOn_15 : decode cX4_goOn 15 = .ok (.istore 5, 2) := by decide +kernel
theorem dX4_goOn_17 : decode cX4_goOn 17 = .ok (.iload_n 3, 1) := by decide +kernel
theorem dX4_goOn_18 : decode cX4_goOn 18 = .ok (.bipush 12, 2) := by decide +kernel
theorem dX4_goOn_20 : decode cX4_goOn 20 = .ok (.irem, 1) := by decide +kernel
theorem dX4_goOn_21 : decode cX4_goOn 21 = .ok (.istore 6, 2) := by decide +kernel
theorem dX4_goOn_23 : decode cX4_goOn 23 = .ok (.iconst 0, 1) := by decide +kernel
theorem dX4_goOn_24 : decode cX4_goOn 24 = .ok (.istore 7, 2) := by decide +kernel
theorem dX4_goOn_26 : decode cX4_goOn 26 = .ok (.iload 7, 2) := by decide +kernel
theorem dX4_goOn_28 : decode cX4_goOn 28 = .ok (.iconst 3, 1) := by decide +kernel
theorem dX4_goOn_29 : decode cX4_goOn 29 = .ok (.if_icmp .gt 67, 3) := by decide +kernel
theorem dX4_goOn_32 : decode cX4_goOn 32 = .ok (.iload 5, 2) := by decide +kernel
theorem dX4_goOn_34 : decode cX4_goOn 34 = .ok (.iload 7, 2) := by decide +kernel
theorem dX4_goOn_36 : decode cX4_goOn 36 = .ok (.iadd, 1) := by decide +kernel
theorem dX4_goOn_37 : decode cX4_goOn 37 = .ok (.iload 4, 2) := by decide +kernel
theorem dX4_goOn_39 : decode cX4_goOn 39 = .ok (.if_icmp .gt 57, 3) := by decide +kernel
theorem dX4_goOn_42 : decode cX4_goOn 42 = .ok (.aload_n 0, 1) := by decide +kernel
theorem dX4_goOn_43 : decode cX4_goOn 43 = .ok (.getfield 28, 3) := by decide +kernel
theorem dX4_goOn_46 : decode cX4_goOn 46 = .ok (.iconst (-1), 1) := by decide +kernel
theorem dX4_goOn_47 : decode cX4_goOn 47 = .ok (.if_icmp .ne 49, 3) := by decide +kernel
theorem dX4_goOn_50 : decode cX4_goOn 50 = .ok (.aload_n 1, 1) := by decide +kernel
theorem dX4_goOn_51 : decode cX4_goOn 51 = .ok (.iload 5, 2) := by decide +kernel
theorem dX4_goOn_53 : decode cX4_goOn 53 = .ok (.iload 7, 2) := by decide +kernel
theorem dX4_goOn_55 : decode cX4_goOn 55 = .ok (.iadd, 1) := by decide +kernel
theorem dX4_goOn_56 : decode cX4_goOn 56 = .ok (.invokevirtual 56, 3) := by decide +kernel
theorem dX4_goOn_59 : decode cX4_goOn 59 = .ok (.iload 6, 2) := by decide +kernel
theorem dX4_goOn_61 : decode cX4_goOn 61 = .ok (.iload 7, 2) := by decide +kernel
theorem dX4_goOn_63 : decode cX4_goOn 63 = .ok (.invokestatic 59, 3) := by decide +kernel
theorem dX4_goOn_66 : decode cX4_goOn 66 = .ok (.istore 8, 2) := by decide +kernel
theorem dX4_goOn_68 : decode cX4_goOn 68 = .ok (.iload 8, 2) := by decide +kernel
theorem dX4_goOn_70 : decode cX4_goOn 70 = .ok (.iload_n 2, 1) := by decide +kernel
theorem dX4_goOn_71 : decode cX4_goOn 71 = .ok (.if_icmp .gt 19, 3) := by decide +kernel
theorem dX4_goOn_74 : decode cX4_goOn 74 = .ok (.aload_n 0, 1) := by decide +kernel
theorem dX4_goOn_75 : decode cX4_goOn 75 = .ok (.iload 5, 2) := by decide +kernel
theorem dX4_goOn_77 : decode cX4_goOn 77 = .ok (.iload 7, 2) := by decide +kernel
theorem dX4_goOn_79 : decode cX4_goOn 79 = .ok (.iadd, 1) := by decide +kernel
theorem dX4_goOn_80 : decode cX4_goOn 80 = .ok (.iload 8, 2) := by decide +kernel
theorem dX4_goOn_82 : decode cX4_goOn 82 = .ok (.iload_n 3, 1) := by decide +kernel
theorem dX4_goOn_83 : decode cX4_goOn 83 = .ok (.iload 7, 2) := by decide +kernel
theorem dX4_goOn_85 : decode cX4_goOn 85 = .ok (.iload 4, 2) := by decide +kernel
theorem dX4_goOn_87 : decode cX4_goOn 87 = .ok (.invokevirtual 37, 3) := by decide +kernel
theorem dX4_goOn_90 : decode cX4_goOn 90 = .ok (.iinc 7 1, 3) := by decide +kernel
theorem dX4_goOn_93 : decode cX4_goOn 93 = .ok (.goto (-67), 3) := by decide +kernel
theorem dX4_goOn_96 : decode cX4_goOn 96 = .ok (.return_, 1) := by decide +kernel
theorem dX4_reach_0 : decode cX4_reach 0 = .ok (.iload_n 1, 1) := by decide +kernel
theorem dX4_reach_1 : decode cX4_reach 1 = .ok (.bipush 12, 2) := by decide +kernel
theorem dX4_reach_3 : decode cX4_reach 3 = .ok (.imul, 1) := by decide +kernel
theorem dX4_reach_4 : decode cX4_reach 4 = .ok (.iload_n 2, 1) := by decide +kernel
theorem dX4_reach_5 : decode cX4_reach 5 = .ok (.iadd, 1) := by decide +kernel
theorem dX4_reach_6 : decode cX4_reach 6 = .ok (.istore 6, 2) := by decide +kernel
theorem dX4_reach_8 : decode cX4_reach 8 = .ok (.iload 6, 2) := by decide +kernel
theorem dX4_reach_10 : decode cX4_reach 10 = .ok (.invokestatic 52, 3) := by decide +kernel
theorem dX4_reach_13 : decode cX4_reach 13 = .ok (.ifCond .eq 31, 3) := by decide +kernel
theorem dX4_reach_16 : decode cX4_reach 16 = .ok (.aload_n 0, 1) := by decide +kernel
theorem dX4_reach_17 : decode cX4_reach 17 = .ok (.getfield 15, 3) := by decide +kernel
theorem dX4_reach_20 : decode cX4_reach 20 = .ok (.iload 6, 2) := by decide +kernel
theorem dX4_reach_22 : decode cX4_reach 22 = .ok (.iaload, 1) := by decide +kernel
theorem dX4_reach_23 : decode cX4_reach 23 = .ok (.iconst (-1), 1) := by decide +kernel
theorem dX4_reach_24 : decode cX4_reach 24 = .ok (.if_icmp .ne 20, 3) := by decide +kernel
theorem dX4_reach_27 : decode cX4_reach 27 = .ok (.aload_n 0, 1) := by decide +kernel
theorem dX4_reach_28 : decode cX4_reach 28 = .ok (.getfield 24, 3) := by decide +kernel
theorem dX4_reach_31 : decode cX4_reach 31 = .ok (.ifCond .lt 13, 3) := by decide +kernel
theorem dX4_reach_34 : decode cX4_reach 34 = .ok (.aload_n 0, 1) := by decide +kernel
theorem dX4_reach_35 : decode cX4_reach 35 = .ok (.getfield 24, 3) := by decide +kernel
theorem dX4_reach_38 : decode cX4_reach 38 = .ok (.sipush 144, 3) := by decide +kernel
theorem dX4_reach_41 : decode cX4_reach 41 = .ok (.if_icmp .lt 4, 3) := by decide +kernel
theorem dX4_reach_44 : decode cX4_reach 44 = .ok (.return_, 1) := by decide +kernel
theorem dX4_reach_45 : decode cX4_reach 45 = .ok (.aload_n 0, 1) := by decide +kernel
theorem dX4_reach_46 : decode cX4_reach 46 = .ok (.getfield 15, 3) := by decide +kernel
theorem dX4_reach_49 : decode cX4_reach 49 = .ok (.iload 6, 2) := by decide +kernel
theorem dX4_reach_51 : decode cX4_reach 51 = .ok (.aload_n 0, 1) := by decide +kernel
theorem dX4_reach_52 : decode cX4_reach 52 = .ok (.iload_n 3, 1) := by decide +kernel
theorem dX4_reach_53 : decode cX4_reach 53 = .ok (.invokevirtual 49, 3) := by decide +kernel
theorem dX4_reach_56 : decode cX4_reach 56 = .ok (.iconst 1, 1) := by decide +kernel
theorem dX4_reach_57 : decode cX4_reach 57 = .ok (.iadd, 1) := by decide +kernel
theorem dX4_reach_58 : decode cX4_reach 58 = .ok (.iastore, 1) := by decide +kernel
theorem dX4_reach_59 : decode cX4_reach 59 = .ok (.aload_n 0, 1) := by decide +kernel
theorem dX4_reach_60 : decode cX4_reach 60 = .ok (.getfield 18, 3) := by decide +kernel
theorem dX4_reach_63 : decode cX4_reach 63 = .ok (.iload 6, 2) := by decide +kernel
theorem dX4_reach_65 : decode cX4_reach 65 = .ok (.iload_n 3, 1) := by decide +kernel
theorem dX4_reach_66 : decode cX4_reach 66 = .ok (.iastore, 1) := by decide +kernel
theorem dX4_reach_67 : decode cX4_reach 67 = .ok (.aload_n 0, 1) := by decide +kernel
theorem dX4_reach_68 : decode cX4_reach 68 = .ok (.getfield 21, 3) := by decide +kernel
theorem dX4_reach_71 : decode cX4_reach 71 = .ok (.iload 6, 2) := by decide +kernel
theorem dX4_reach_73 : decode cX4_reach 73 = .ok (.iload 4, 2) := by decide +kernel
theorem dX4_reach_75 : decode cX4_reach 75 = .ok (.iastore, 1) := by decide +kernel
theorem dX4_reach_76 : decode cX4_reach 76 = .ok (.aload_n 0, 1) := by decide +kernel
theorem dX4_reach_77 : decode cX4_reach 77 = .ok (.getfield 11, 3) := by decide +kernel
theorem dX4_reach_80 : decode cX4_reach 80 = .ok (.aload_n 0, 1) := by decide +kernel
theorem dX4_reach_81 : decode cX4_reach 81 = .ok (.getfield 24, 3) := by decide +kernel
theorem dX4_reach_84 : decode cX4_reach 84 = .ok (.iload 6, 2) := by decide +kernel
theorem dX4_reach_86 : decode cX4_reach 86 = .ok (.iastore, 1) := by decide +kernel
theorem dX4_reach_87 : decode cX4_reach 87 = .ok (.aload_n 0, 1) := by decide +kernel
theorem dX4_reach_88 : decode cX4_reach 88 = .ok (.dup, 1) := by decide +kernel
theorem dX4_reach_89 : decode cX4_reach 89 = .ok (.getfield 24, 3) := by decide +kernel
theorem dX4_reach_92 : decode cX4_reach 92 = .ok (.iconst 1, 1) := by decide +kernel
theorem dX4_reach_93 : decode cX4_reach 93 = .ok (.iadd, 1) := by decide +kernel
theorem dX4_reach_94 : decode cX4_reach 94 = .ok (.putfield 24, 3) := by decide +kernel
theorem dX4_reach_97 : decode cX4_reach 97 = .ok (.iload_n 1, 1) := by decide +kernel
theorem dX4_reach_98 : decode cX4_reach 98 = .ok (.iload 5, 2) := by decide +kernel
theorem dX4_reach_100 : decode cX4_reach 100 = .ok (.if_icmp .ne 9, 3) := by decide +kernel
theorem dX4_reach_103 : decode cX4_reach 103 = .ok (.aload_n 0, 1) := by decide +kernel
theorem dX4_reach_104 : decode cX4_reach 104 = .ok (.iload 6, 2) := by decide +kernel
theorem dX4_reach_106 : decode cX4_reach 106 = .ok (.putfield 28, 3) := by decide +kernel
theorem dX4_reach_109 : decode cX4_reach 109 = .ok (.return_, 1) := by decide +kernel
theorem dX4_stepsOf_0 : decode cX4_stepsOf 0 = .ok (.iload_n 1, 1) := by decide +kernel
theorem dX4_stepsOf_1 : decode cX4_stepsOf 1 = .ok (.invokestatic 52, 3) := by decide +kernel
theorem dX4_stepsOf_4 : decode cX4_stepsOf 4 = .ok (.ifCond .eq 12, 3) := by decide +kernel
theorem dX4_stepsOf_7 : decode cX4_stepsOf 7 = .ok (.aload_n 0, 1) := by decide +kernel
theorem dX4_stepsOf_8 : decode cX4_stepsOf 8 = .ok (.getfield 15, 3) := by decide +kernel
theorem dX4_stepsOf_11 : decode cX4_stepsOf 11 = .ok (.iload_n 1, 1) := by decide +kernel
theorem dX4_stepsOf_12 : decode cX4_stepsOf 12 = .ok (.iaload, 1) := by decide +kernel
theorem dX4_stepsOf_13 : decode cX4_stepsOf 13 = .ok (.goto 4, 3) := by decide +kernel
theorem dX4_stepsOf_16 : decode cX4_stepsOf 16 = .ok (.iconst (-1), 1) := by decide +kernel
theorem dX4_stepsOf_17 : decode cX4_stepsOf 17 = .ok (.ireturn, 1) := by decide +kernel
theorem dX4_isSpot_0 : decode cX4_isSpot 0 = .ok (.iload_n 0, 1) := by decide +kernel
theorem dX4_isSpot_1 : decode cX4_isSpot 1 = .ok (.ifCond .lt 14, 3) := by decide +kernel
theorem dX4_isSpot_4 : decode cX4_isSpot 4 = .ok (.iload_n 0, 1) := by decide +kernel
theorem dX4_isSpot_5 : decode cX4_isSpot 5 = .ok (.sipush 144, 3) := by decide +kernel
theorem dX4_isSpot_8 : decode cX4_isSpot 8 = .ok (.if_icmp .ge 7, 3) := by decide +kernel
theorem dX4_isSpot_11 : decode cX4_isSpot 11 = .ok (.iconst 1, 1) := by decide +kernel
theorem dX4_isSpot_12 : decode cX4_isSpot 12 = .ok (.goto 4, 3) := by decide +kernel
theorem dX4_isSpot_15 : decode cX4_isSpot 15 = .ok (.iconst 0, 1) := by decide +kernel
theorem dX4_isSpot_16 : decode cX4_isSpot 16 = .ok (.ireturn, 1) := by decide +kernel
theorem dX5_init_0 : decode cX5_init 0 = .ok (.aload_n 0, 1) := by decide +kernel
theorem dX5_init_1 : decode cX5_init 1 = .ok (.invokespecial 1, 3) := by decide +kernel
theorem dX5_init_4 : decode cX5_init 4 = .ok (.aload_n 0, 1) := by decide +kernel
theorem dX5_init_5 : decode cX5_init 5 = .ok (.new 7, 3) := by decide +kernel
theorem dX5_init_8 : decode cX5_init 8 = .ok (.dup, 1) := by decide +kernel
theorem dX5_init_9 : decode cX5_init 9 = .ok (.invokespecial 9, 3) := by decide +kernel
theorem dX5_init_12 : decode cX5_init 12 = .ok (.putfield 10, 3) := by decide +kernel
theorem dX5_init_15 : decode cX5_init 15 = .ok (.aload_n 0, 1) := by decide +kernel
theorem dX5_init_16 : decode cX5_init 16 = .ok (.new 16, 3) := by decide +kernel
theorem dX5_init_19 : decode cX5_init 19 = .ok (.dup, 1) := by decide +kernel
theorem dX5_init_20 : decode cX5_init 20 = .ok (.invokespecial 18, 3) := by decide +kernel
theorem dX5_init_23 : decode cX5_init 23 = .ok (.putfield 19, 3) := by decide +kernel
theorem dX5_init_26 : decode cX5_init 26 = .ok (.aload_n 0, 1) := by decide +kernel
theorem dX5_init_27 : decode cX5_init 27 = .ok (.iconst 0, 1) := by decide +kernel
theorem dX5_init_28 : decode cX5_init 28 = .ok (.putfield 23, 3) := by decide +kernel
theorem dX5_init_31 : decode cX5_init 31 = .ok (.aload_n 0, 1) := by decide +kernel
theorem dX5_init_32 : decode cX5_init 32 = .ok (.iconst 0, 1) := by decide +kernel
theorem dX5_init_33 : decode cX5_init 33 = .ok (.putfield 27, 3) := by decide +kernel
theorem dX5_init_36 : decode cX5_init 36 = .ok (.aload_n 0, 1) := by decide +kernel
theorem dX5_init_37 : decode cX5_init 37 = .ok (.iconst 0, 1) := by decide +kernel
theorem dX5_init_38 : decode cX5_init 38 = .ok (.putfield 30, 3) := by decide +kernel
theorem dX5_init_41 : decode cX5_init 41 = .ok (.aload_n 0, 1) := by decide +kernel
theorem dX5_init_42 : decode cX5_init 42 = .ok (.iconst 0, 1) := by decide +kernel
theorem dX5_init_43 : decode cX5_init 43 = .ok (.putfield 33, 3) := by decide +kernel
theorem dX5_init_46 : decode cX5_init 46 = .ok (.aload_n 0, 1) := by decide +kernel
theorem dX5_init_47 : decode cX5_init 47 = .ok (.iconst 0, 1) := by decide +kernel
theorem dX5_init_48 : decode cX5_init 48 = .ok (.putfield 36, 3) := by decide +kernel
theorem dX5_init_51 : decode cX5_init 51 = .ok (.return_, 1) := by decide +kernel
theorem dX5_begin_0 : decode cX5_begin 0 = .ok (.aload_n 0, 1) := by decide +kernel
theorem dX5_begin_1 : decode cX5_begin 1 = .ok (.getfield 10, 3) := by decide +kernel
theorem dX5_begin_4 : decode cX5_begin 4 = .ok (.aload_n 1, 1) := by decide +kernel
theorem dX5_begin_5 : decode cX5_begin 5 = .ok (.invokevirtual 39, 3) := by decide +kernel
theorem dX5_begin_8 : decode cX5_begin 8 = .ok (.aload_n 0, 1) := by decide +kernel
theorem dX5_begin_9 : decode cX5_begin 9 = .ok (.getfield 19, 3) := by decide +kernel
theorem dX5_begin_12 : decode cX5_begin 12 = .ok (.invokevirtual 43, 3) := by decide +kernel
theorem dX5_begin_15 : decode cX5_begin 15 = .ok (.pop, 1) := by decide +kernel
theorem dX5_begin_16 : decode cX5_begin 16 = .ok (.aload_n 0, 1) := by decide +kernel
theorem dX5_begin_17 : decode cX5_begin 17 = .ok (.aload_n 1, 1) := by decide +kernel
theorem dX5_begin_18 : decode cX5_begin 18 = .ok (.invokevirtual 47, 3) := by decide +kernel
theorem dX5_begin_21 : decode cX5_begin 21 = .ok (.putfield 23, 3) := by decide +kernel
theorem dX5_begin_24 : decode cX5_begin 24 = .ok (.aload_n 0, 1) := by decide +kernel
theorem dX5_begin_25 : decode cX5_begin 25 = .ok (.iconst 0, 1) := by decide +kernel
theorem dX5_begin_26 : decode cX5_begin 26 = .ok (.putfield 33, 3) := by decide +kernel
theorem dX5_begin_29 : decode cX5_begin 29 = .ok (.aload_n 0, 1) := by decide +kernel
theorem dX5_begin_30 : decode cX5_begin 30 = .ok (.iconst 0, 1) := by decide +kernel
theorem dX5_begin_31 : decode cX5_begin 31 = .ok (.putfield 36, 3) := by decide +kernel
theorem dX5_begin_34 : decode cX5_begin 34 = .ok (.aload_n 0, 1) := by decide +kernel
theorem dX5_begin_35 : decode cX5_begin 35 = .ok (.invokevirtual 51, 3) := by decide +kernel
theorem dX5_begin_38 : decode cX5_begin 38 = .ok (.return_, 1) := by decide +kernel
theorem dX5_copyFrom_0 : decode cX5_copyFrom 0 = .ok (.aload_n 0, 1) := by decide +kernel
theorem dX5_copyFrom_1 : decode cX5_copyFrom 1 = .ok (.getfield 10, 3) := by decide +kernel
theorem dX5_copyFrom_4 : decode cX5_copyFrom 4 = .ok (.aload_n 1, 1) := by decide +kernel
theorem dX5_copyFrom_5 : decode cX5_copyFrom 5 = .ok (.getfield 10, 3) := by decide +kernel
theorem dX5_copyFrom_8 : decode cX5_copyFrom 8 = .ok (.invokevirtual 54, 3) := by decide +kernel
theorem dX5_copyFrom_11 : decode cX5_copyFrom 11 = .ok (.aload_n 0, 1) := by decide +kernel
theorem dX5_copyFrom_12 : decode cX5_copyFrom 12 = .ok (.getfield 19, 3) := by decide +kernel
theorem dX5_copyFrom_15 : decode cX5_copyFrom 15 = .ok (.aload_n 1, 1) := by decide +kernel
theorem dX5_copyFrom_16 : decode cX5_copyFrom 16 = .ok (.getfield 19, 3) := by decide +kernel
theorem dX5_copyFrom_19 : decode cX5_copyFrom 19 = .ok (.invokevirtual 58, 3) := by decide +kernel
theorem dX5_copyFrom_22 : decode cX5_copyFrom 22 = .ok (.aload_n 0, 1) := by decide +kernel
theorem dX5_copyFrom_23 : decode cX5_copyFrom 23 = .ok (.aload_n 1, 1) := by decide +kernel
theorem dX5_copyFrom_24 : decode cX5_copyFrom 24 = .ok (.getfield 23, 3) := by decide +kernel
theorem dX5_copyFrom_27 : decode cX5_copyFrom 27 = .ok (.putfield 23, 3) := by decide +kernel
theorem dX5_copyFrom_30 : decode cX5_copyFrom 30 = .ok (.aload_n 0, 1) := by decide +kernel
theorem dX5_copyFrom_31 : decode cX5_copyFrom 31 = .ok (.aload_n 1, 1) := by decide +kernel
theorem dX5_copyFrom_32 : decode cX5_copyFrom 32 = .ok (.getfield 27, 3) := by decide +kernel
theorem dX5_copyFrom_35 : decode cX5_copyFrom 35 = .ok (.putfield 27, 3) := by decide +kernel
theorem dX5_copyFrom_38 : decode cX5_copyFrom 38 = .ok (.aload_n 0, 1) := by decide +kernel
theorem dX5_copyFrom_39 : decode cX5_copyFrom 39 = .ok (.aload_n 1, 1) := by decide +kernel
theorem dX5_copyFrom_40 : decode cX5_copyFrom 40 = .ok (.getfield 30, 3) := by decide +kernel
theorem dX5_copyFrom_43 : decode cX5_copyFrom 43 = .ok (.putfield 30, 3) := by decide +kernel
theorem dX5_copyFrom_46 : decode cX5_copyFrom 46 = .ok (.aload_n 0, 1) := by decide +kernel
theorem dX5_copyFrom_47 : decode cX5_copyFrom 47 = .ok (.aload_n 1, 1) := by decide +kernel
theorem dX5_copyFrom_48 : decode cX5_copyFrom 48 = .ok (.getfield 33, 3) := by decide +kernel
theorem dX5_copyFrom_51 : decode cX5_copyFrom 51 = .ok (.putfield 33, 3) := by decide +kernel
theorem dX5_copyFrom_54 : decode cX5_copyFrom 54 = .ok (.aload_n 0, 1) := by decide +kernel
theorem dX5_copyFrom_55 : decode cX5_copyFrom 55 = .ok (.aload_n 1, 1) := by decide +kernel
theorem dX5_copyFrom_56 : decode cX5_copyFrom 56 = .ok (.getfield 36, 3) := by decide +kernel
theorem dX5_copyFrom_59 : decode cX5_copyFrom 59 = .ok (.putfield 36, 3) := by decide +kernel
theorem dX5_copyFrom_62 : decode cX5_copyFrom 62 = .ok (.return_, 1) := by decide +kernel
theorem dX5_changeHeight_0 : decode cX5_changeHeight 0 = .ok (.aload_n 0, 1) := by decide +kernel
theorem dX5_changeHeight_1 : decode cX5_changeHeight 1 = .ok (.getfield 23, 3) := by decide +kernel
theorem dX5_changeHeight_4 : decode cX5_changeHeight 4 = .ok (.istore_n 2, 1) := by decide +kernel
theorem dX5_changeHeight_5 : decode cX5_changeHeight 5 = .ok (.aload_n 0, 1) := by decide +kernel
theorem dX5_changeHeight_6 : decode cX5_changeHeight 6 = .ok (.iload_n 1, 1) := by decide +kernel
theorem dX5_changeHeight_7 : decode cX5_changeHeight 7 = .ok (.putfield 23, 3) := by decide +kernel
theorem dX5_changeHeight_10 : decode cX5_changeHeight 10 = .ok (.aload_n 0, 1) := by decide +kernel
theorem dX5_changeHeight_11 : decode cX5_changeHeight 11 = .ok (.invokevirtual 51, 3) := by decide +kernel
theorem dX5_changeHeight_14 : decode cX5_changeHeight 14 = .ok (.iload_n 2, 1) := by decide +kernel
theorem dX5_changeHeight_15 : decode cX5_changeHeight 15 = .ok (.ireturn, 1) := by decide +kernel
theorem dX5_swayBy_0 : decode cX5_swayBy 0 = .ok (.aload_n 0, 1) := by decide +kernel
theorem dX5_swayBy_1 : decode cX5_swayBy 1 = .ok (.getfield 10, 3) := by decide +kernel
theorem dX5_swayBy_4 : decode cX5_swayBy 4 = .ok (.aload_n 0, 1) := by decide +kernel
theorem dX5_swayBy_5 : decode cX5_swayBy 5 = .ok (.getfield 27, 3) := by decide +kernel
theorem dX5_swayBy_8 : decode cX5_swayBy 8 = .ok (.iload_n 1, 1) := by decide +kernel
theorem dX5_swayBy_9 : decode cX5_swayBy 9 = .ok (.iadd, 1) := by decide +kernel
theorem dX5_swayBy_10 : decode cX5_swayBy 10 = .ok (.invokevirtual 61, 3) := by decide +kernel
theorem dX5_swayBy_13 : decode cX5_swayBy 13 = .ok (.aload_n 0, 1) := by decide +kernel
theorem dX5_swayBy_14 : decode cX5_swayBy 14 = .ok (.getfield 30, 3) := by decide +kernel
theorem dX5_swayBy_17 : decode cX5_swayBy 17 = .ok (.iload_n 1, 1) := by decide +kernel
theorem dX5_swayBy_18 : decode cX5_swayBy 18 = .ok (.invokestatic 65, 3) := by decide +kernel
theorem dX5_swayBy_21 : decode cX5_swayBy 21 = .ok (.ireturn, 1) := by decide +kernel
theorem dX5_go_0 : decode cX5_go 0 = .ok (.aload_n 0, 1) := by decide +kernel
theorem dX5_go_1 : decode cX5_go 1 = .ok (.iload_n 1, 1) := by decide +kernel
theorem dX5_go_2 : decode cX5_go 2 = .ok (.invokevirtual 71, 3) := by decide +kernel
theorem dX5_go_5 : decode cX5_go 5 = .ok (.istore_n 2, 1) := by decide +kernel
theorem dX5_go_6 : decode cX5_go 6 = .ok (.aload_n 0, 1) := by decide +kernel
theorem dX5_go_7 : decode cX5_go 7 = .ok (.dup, 1) := by decide +kernel
theorem dX5_go_8 : decode cX5_go 8 = .ok (.getfield 33, 3) := by decide +kernel
theorem dX5_go_11 : decode cX5_go 11 = .ok (.iconst 1, 1) := by decide +kernel
theorem dX5_go_12 : decode cX5_go 12 = .ok (.iadd, 1) := by decide +kernel
theorem dX5_go_13 : decode cX5_go 13 = .ok (.putfield 33, 3) := by decide +kernel
theorem dX5_go_16 : decode cX5_go 16 = .ok (.iload_n 2, 1) := by decide +kernel
theorem dX5_go_17 : decode cX5_go 17 = .ok (.aload_n 0, 1) := by decide +kernel
theorem dX5_go_18 : decode cX5_go 18 = .ok (.getfield 23, 3) := by decide +kernel
theorem dX5_go_21 : decode cX5_go 21 = .ok (.invokestatic 74, 3) := by decide +kernel
theorem dX5_go_24 : decode cX5_go 24 = .ok (.if_icmp .le 19, 3) := by decide +kernel
theorem dX5_go_27 : decode cX5_go 27 = .ok (.aload_n 0, 1) := by decide +kernel
theorem dX5_go_28 : decode cX5_go 28 = .ok (.dup, 1) := by decide +kernel
theorem dX5_go_29 : decode cX5_go 29 = .ok (.getfield 36, 3) := by decide +kernel
theorem dX5_go_32 : decode cX5_go 32 = .ok (.iconst 1, 1) := by decide +kernel
theorem dX5_go_33 : decode cX5_go 33 = .ok (.iadd, 1) := by decide +kernel
theorem dX5_go_34 : decode cX5_go 34 = .ok (.putfield 36, 3) := by decide +kernel
theorem dX5_go_37 : decode cX5_go 37 = .ok (.aload_n 0, 1) := by decide +kernel
theorem dX5_go_38 : decode cX5_go 38 = .ok (.invokevirtual 51, 3) := by decide +kernel
theorem dX5_go_41 : decode cX5_go 41 = .ok (.iconst 0, 1) := by decide +kernel
theorem dX5_go_42 : decode cX5_go 42 = .ok (.ireturn, 1) := by decide +kernel
theorem dX5_go_43 : decode cX5_go 43 = .ok (.aload_n 0, 1) := by decide +kernel
theorem dX5_go_44 : decode cX5_go 44 = .ok (.dup, 1) := by decide +kernel
theorem dX5_go_45 : decode cX5_go 45 = .ok (.getfield 27, 3) := by decide +kernel
theorem dX5_go_48 : decode cX5_go 48 = .ok (.iload_n 1, 1) := by decide +kernel
theorem dX5_go_49 : decode cX5_go 49 = .ok (.iadd, 1) := by decide +kernel
theorem dX5_go_50 : decode cX5_go 50 = .ok (.putfield 27, 3) := by decide +kernel
theorem dX5_go_53 : decode cX5_go 53 = .ok (.aload_n 0, 1) := by decide +kernel
theorem dX5_go_54 : decode cX5_go 54 = .ok (.iload_n 2, 1) := by decide +kernel
theorem dX5_go_55 : decode cX5_go 55 = .ok (.putfield 30, 3) := by decide +kernel
theorem dX5_go_58 : decode cX5_go 58 = .ok (.iconst 1, 1) := by decide +kernel
theorem dX5_go_59 : decode cX5_go 59 = .ok (.ireturn, 1) := by decide +kernel
theorem dX5_race_0 : decode cX5_race 0 = .ok (.iload_n 2, 1) := by decide +kernel
theorem dX5_race_1 : decode cX5_race 1 = .ok (.i2l, 1) := by decide +kernel
theorem dX5_race_2 : decode cX5_race 2 = .ok (.lstore_n 3, 1) := by decide +kernel
theorem dX5_race_3 : decode cX5_race 3 = .ok (.iconst 0, 1) := by decide +kernel
theorem dX5_race_4 : decode cX5_race 4 = .ok (.istore 5, 2) := by decide +kernel
theorem dX5_race_6 : decode cX5_race 6 = .ok (.iload 5, 2) := by decide +kernel
theorem dX5_race_8 : decode cX5_race 8 = .ok (.iload_n 1, 1) := by decide +kernel
theorem dX5_race_9 : decode cX5_race 9 = .ok (.if_icmp .ge 58, 3) := by decide +kernel
theorem dX5_race_12 : decode cX5_race 12 = .ok (.ldc2_w 79, 3) := by decide +kernel
theorem dX5_race_15 : decode cX5_race 15 = .ok (.lload_n 3, 1) := by decide +kernel
theorem dX5_race_16 : decode cX5_race 16 = .ok (.lmul, 1) := by decide +kernel
theorem dX5_race_17 : decode cX5_race 17 = .ok (.ldc2_w 81, 3) := by decide +kernel
theorem dX5_race_20 : decode cX5_race 20 = .ok (.ladd, 1) := by decide +kernel
theorem dX5_race_21 : decode cX5_race 21 = .ok (.ldc2_w 83, 3) := by decide +kernel
theorem dX5_race_24 : decode cX5_race 24 = .ok (.land, 1) := by decide +kernel
theorem dX5_race_25 : decode cX5_race 25 = .ok (.lstore_n 3, 1) := by decide +kernel
theorem dX5_race_26 : decode cX5_race 26 = .ok (.lload_n 3, 1) := by decide +kernel
theorem dX5_race_27 : decode cX5_race 27 = .ok (.bipush 16, 2) := by decide +kernel
theorem dX5_race_29 : decode cX5_race 29 = .ok (.lshr, 1) := by decide +kernel
theorem dX5_race_30 : decode cX5_race 30 = .ok (.ldc2_w 85, 3) := by decide +kernel
theorem dX5_race_33 : decode cX5_race 33 = .ok (.land, 1) := by decide +kernel
theorem dX5_race_34 : decode cX5_race 34 = .ok (.l2i, 1) := by decide +kernel
theorem dX5_race_35 : decode cX5_race 35 = .ok (.istore 6, 2) := by decide +kernel
theorem dX5_race_37 : decode cX5_race 37 = .ok (.aload_n 0, 1) := by decide +kernel
theorem dX5_race_38 : decode cX5_race 38 = .ok (.iload 6, 2) := by decide +kernel
theorem dX5_race_40 : decode cX5_race 40 = .ok (.aload_n 0, 1) := by decide +kernel
theorem dX5_race_41 : decode cX5_race 41 = .ok (.getfield 10, 3) := by decide +kernel
theorem dX5_race_44 : decode cX5_race 44 = .ok (.invokevirtual 87, 3) := by decide +kernel
theorem dX5_race_47 : decode cX5_race 47 = .ok (.iconst 1, 1) := by decide +kernel
theorem dX5_race_48 : decode cX5_race 48 = .ok (.isub, 1) := by decide +kernel
theorem dX5_race_49 : decode cX5_race 49 = .ok (.aload_n 0, 1) := by decide +kernel
theorem dX5_race_50 : decode cX5_race 50 = .ok (.getfield 27, 3) := by decide +kernel
theorem dX5_race_53 : decode cX5_race 53 = .ok (.isub, 1) := by decide +kernel
theorem dX5_race_54 : decode cX5_race 54 = .ok (.invokestatic 90, 3) := by decide +kernel
theorem dX5_race_57 : decode cX5_race 57 = .ok (.invokevirtual 96, 3) := by decide +kernel
theorem dX5_race_60 : decode cX5_race 60 = .ok (.pop, 1) := by decide +kernel
theorem dX5_race_61 : decode cX5_race 61 = .ok (.iinc 5 1, 3) := by decide +kernel
theorem dX5_race_64 : decode cX5_race 64 = .ok (.goto (-58), 3) := by decide +kernel
theorem dX5_race_67 : decode cX5_race 67 = .ok (.lload_n 3, 1) := by decide +kernel
theorem dX5_race_68 : decode cX5_race 68 = .ok (.l2i, 1) := by decide +kernel
theorem dX5_race_69 : decode cX5_race 69 = .ok (.ireturn, 1) := by decide +kernel
theorem dX5_backToStart_0 : decode cX5_backToStart 0 = .ok (.aload_n 0, 1) := by decide +kernel
theorem dX5_backToStart_1 : decode cX5_backToStart 1 = .ok (.iconst 0, 1) := by decide +kernel
theorem dX5_backToStart_2 : decode cX5_backToStart 2 = .ok (.putfield 27, 3) := by decide +kernel
theorem dX5_backToStart_5 : decode cX5_backToStart 5 = .ok (.aload_n 0, 1) := by decide +kernel
theorem dX5_backToStart_6 : decode cX5_backToStart 6 = .ok (.iconst 0, 1) := by decide +kernel
theorem dX5_backToStart_7 : decode cX5_backToStart 7 = .ok (.putfield 30, 3) := by decide +kernel
theorem dX5_backToStart_10 : decode cX5_backToStart 10 = .ok (.return_, 1) := by decide +kernel
theorem dX6_init_0 : decode cX6_init 0 = .ok (.aload_n 0, 1) := by decide +kernel
theorem dX6_init_1 : decode cX6_init 1 = .ok (.invokespecial 1, 3) := by decide +kernel
theorem dX6_init_4 : decode cX6_init 4 = .ok (.aload_n 0, 1) := by decide +kernel
theorem dX6_init_5 : decode cX6_init 5 = .ok (.new 7, 3) := by decide +kernel
theorem dX6_init_8 : decode cX6_init 8 = .ok (.dup, 1) := by decide +kernel
theorem dX6_init_9 : decode cX6_init 9 = .ok (.invokespecial 9, 3) := by decide +kernel
theorem dX6_init_12 : decode cX6_init 12 = .ok (.putfield 10, 3) := by decide +kernel
theorem dX6_init_15 : decode cX6_init 15 = .ok (.aload_n 0, 1) := by decide +kernel
theorem dX6_init_16 : decode cX6_init 16 = .ok (.new 16, 3) := by decide +kernel
theorem dX6_init_19 : decode cX6_init 19 = .ok (.dup, 1) := by decide +kernel
theorem dX6_init_20 : decode cX6_init 20 = .ok (.invokespecial 18, 3) := by decide +kernel
theorem dX6_init_23 : decode cX6_init 23 = .ok (.putfield 19, 3) := by decide +kernel
theorem dX6_init_26 : decode cX6_init 26 = .ok (.aload_n 0, 1) := by decide +kernel
theorem dX6_init_27 : decode cX6_init 27 = .ok (.new 16, 3) := by decide +kernel
theorem dX6_init_30 : decode cX6_init 30 = .ok (.dup, 1) := by decide +kernel
theorem dX6_init_31 : decode cX6_init 31 = .ok (.invokespecial 18, 3) := by decide +kernel
theorem dX6_init_34 : decode cX6_init 34 = .ok (.putfield 23, 3) := by decide +kernel
theorem dX6_init_37 : decode cX6_init 37 = .ok (.aload_n 0, 1) := by decide +kernel
theorem dX6_init_38 : decode cX6_init 38 = .ok (.new 16, 3) := by decide +kernel
theorem dX6_init_41 : decode cX6_init 41 = .ok (.dup, 1) := by decide +kernel
theorem dX6_init_42 : decode cX6_init 42 = .ok (.invokespecial 18, 3) := by decide +kernel
theorem dX6_init_45 : decode cX6_init 45 = .ok (.putfield 26, 3) := by decide +kernel
theorem dX6_init_48 : decode cX6_init 48 = .ok (.aload_n 0, 1) := by decide +kernel
theorem dX6_init_49 : decode cX6_init 49 = .ok (.new 29, 3) := by decide +kernel
theorem dX6_init_52 : decode cX6_init 52 = .ok (.dup, 1) := by decide +kernel
theorem dX6_init_53 : decode cX6_init 53 = .ok (.invokespecial 31, 3) := by decide +kernel
theorem dX6_init_56 : decode cX6_init 56 = .ok (.putfield 32, 3) := by decide +kernel
theorem dX6_init_59 : decode cX6_init 59 = .ok (.aload_n 0, 1) := by decide +kernel
theorem dX6_init_60 : decode cX6_init 60 = .ok (.new 36, 3) := by decide +kernel
theorem dX6_init_63 : decode cX6_init 63 = .ok (.dup, 1) := by decide +kernel
theorem dX6_init_64 : decode cX6_init 64 = .ok (.invokespecial 38, 3) := by decide +kernel
theorem dX6_init_67 : decode cX6_init 67 = .ok (.putfield 39, 3) := by decide +kernel
theorem dX6_init_70 : decode cX6_init 70 = .ok (.aload_n 0, 1) := by decide +kernel
theorem dX6_init_71 : decode cX6_init 71 = .ok (.iconst 0, 1) := by decide +kernel
theorem dX6_init_72 : decode cX6_init 72 = .ok (.putfield 43, 3) := by decide +kernel
theorem dX6_init_75 : decode cX6_init 75 = .ok (.aload_n 0, 1) := by decide +kernel
theorem dX6_init_76 : decode cX6_init 76 = .ok (.iconst 0, 1) := by decide +kernel
theorem dX6_init_77 : decode cX6_init 77 = .ok (.putfield 47, 3) := by decide +kernel
theorem dX6_init_80 : decode cX6_init 80 = .ok (.aload_n 0, 1) := by decide +kernel
theorem dX6_init_81 : decode cX6_init 81 = .ok (.iconst 0, 1) := by decide +kernel
theorem dX6_init_82 : decode cX6_init 82 = .ok (.putfield 51, 3) := by decide +kernel
theorem dX6_init_85 : decode cX6_init 85 = .ok (.aload_n 0, 1) := by decide +kernel
theorem dX6_init_86 : decode cX6_init 86 = .ok (.iconst (-1), 1) := by decide +kernel
theorem dX6_init_87 : decode cX6_init 87 = .ok (.putfield 54, 3) := by decide +kernel
theorem dX6_init_90 : decode cX6_init 90 = .ok (.aload_n 0, 1) := by decide +kernel
theorem dX6_init_91 : decode cX6_init 91 = .ok (.iconst (-1), 1) := by decide +kernel
theorem dX6_init_92 : decode cX6_init 92 = .ok (.putfield 57, 3) := by decide +kernel
theorem dX6_init_95 : decode cX6_init 95 = .ok (.return_, 1) := by decide +kernel
theorem dX6_letter_0 : decode cX6_letter 0 = .ok (.iload_n 1, 1) := by decide +kernel
theorem dX6_letter_1 : decode cX6_letter 1 = .ok (.bipush 32, 2) := by decide +kernel
theorem dX6_letter_3 : decode cX6_letter 3 = .ok (.if_icmp .lt 9, 3) := by decide +kernel
theorem dX6_letter_6 : decode cX6_letter 6 = .ok (.iload_n 1, 1) := by decide +kernel
theorem dX6_letter_7 : decode cX6_letter 7 = .ok (.bipush 126, 2) := by decide +kernel
theorem dX6_letter_9 : decode cX6_letter 9 = .ok (.if_icmp .le 6, 3) := by decide +kernel
theorem dX6_letter_12 : decode cX6_letter 12 = .ok (.bipush (-102), 2) := by decide +kernel
theorem dX6_letter_14 : decode cX6_letter 14 = .ok (.ireturn, 1) := by decide +kernel
theorem dX6_letter_15 : decode cX6_letter 15 = .ok (.aload_n 0, 1) := by decide +kernel
theorem dX6_letter_16 : decode cX6_letter 16 = .ok (.getfield 10, 3) := by decide +kernel
theorem dX6_letter_19 : decode cX6_letter 19 = .ok (.iload_n 1, 1) := by decide +kernel
theorem dX6_letter_20 : decode cX6_letter 20 = .ok (.invokevirtual 60, 3) := by decide +kernel
theorem dX6_letter_23 : decode cX6_letter 23 = .ok (.ifCond .eq 13, 3) := by decide +kernel
theorem dX6_letter_26 : decode cX6_letter 26 = .ok (.aload_n 0, 1) := by decide +kernel
theorem dX6_letter_27 : decode cX6_letter 27 = .ok (.getfield 10, 3) := by decide +kernel
theorem dX6_letter_30 : decode cX6_letter 30 = .ok (.invokevirtual 64, 3) := by decide +kernel
theorem dX6_letter_33 : decode cX6_letter 33 = .ok (.goto 5, 3) := by decide +kernel
theorem dX6_letter_36 : decode cX6_letter 36 = .ok (.bipush (-104), 2) := by decide +kernel
theorem dX6_letter_38 : decode cX6_letter 38 = .ok (.ireturn, 1) := by decide +kernel
theorem dX6_blank_0 : decode cX6_blank 0 = .ok (.aload_n 0, 1) := by decide +kernel
theorem dX6_blank_1 : decode cX6_blank 1 = .ok (.getfield 10, 3) := by decide +kernel
theorem dX6_blank_4 : decode cX6_blank 4 = .ok (.invokevirtual 68, 3) := by decide +kernel
theorem dX6_blank_7 : decode cX6_blank 7 = .ok (.ireturn, 1) := by decide +kernel
theorem dX6_fault_0 : decode cX6_fault 0 = .ok (.aload_n 0, 1) := by decide +kernel
theorem dX6_fault_1 : decode cX6_fault 1 = .ok (.getfield 10, 3) := by decide +kernel
theorem dX6_fault_4 : decode cX6_fault 4 = .ok (.invokevirtual 71, 3) := by decide +kernel
theorem dX6_fault_7 : decode cX6_fault 7 = .ok (.ireturn, 1) := by decide +kernel
theorem dX6_yard_0 : decode cX6_yard 0 = .ok (.aload_n 0, 1) := by decide +kernel
theorem dX6_yard_1 : decode cX6_yard 1 = .ok (.getfield 10, 3) := by decide +kernel
theorem dX6_yard_4 : decode cX6_yard 4 = .ok (.invokevirtual 74, 3) := by decide +kernel
theorem dX6_yard_7 : decode cX6_yard 7 = .ok (.ifCond .ne 6, 3) := by decide +kernel
theorem dX6_yard_10 : decode cX6_yard 10 = .ok (.bipush (-103), 2) := by decide +kernel
theorem dX6_yard_12 : decode cX6_yard 12 = .ok (.ireturn, 1) := by decide +kernel
theorem dX6_yard_13 : decode cX6_yard 13 = .ok (.aload_n 0, 1) := by decide +kernel
theorem dX6_yard_14 : decode cX6_yard 14 = .ok (.getfield 19, 3) := by decide +kernel
theorem dX6_yard_17 : decode cX6_yard 17 = .ok (.aload_n 0, 1) := by decide +kernel
theorem dX6_yard_18 : decode cX6_yard 18 = .ok (.getfield 10, 3) := by decide +kernel
theorem dX6_yard_21 : decode cX6_yard 21 = .ok (.invokevirtual 78, 3) := by decide +kernel
theorem dX6_yard_24 : decode cX6_yard 24 = .ok (.aload_n 0, 1) := by decide +kernel
theorem dX6_yard_25 : decode cX6_yard 25 = .ok (.getfield 10, 3) := by decide +kernel
theorem dX6_yard_28 : decode cX6_yard 28 = .ok (.invokevirtual 68, 3) := by decide +kernel
theorem dX6_yard_31 : decode cX6_yard 31 = .ok (.pop, 1) := by decide +kernel
theorem dX6_yard_32 : decode cX6_yard 32 = .ok (.aload_n 0, 1) := by decide +kernel
theorem dX6_yard_33 : decode cX6_yard 33 = .ok (.iconst 0, 1) := by decide +kernel
theorem dX6_yard_34 : decode cX6_yard 34 = .ok (.putfield 43, 3) := by decide +kernel
theorem dX6_yard_37 : decode cX6_yard 37 = .ok (.aload_n 0, 1) := by decide +kernel
theorem dX6_yard_38 : decode cX6_yard 38 = .ok (.dup, 1) := by decide +kernel
theorem dX6_yard_39 : decode cX6_yard 39 = .ok (.getfield 47, 3) := by decide +kernel
theorem dX6_yard_42 : decode cX6_yard 42 = .ok (.iconst 1, 1) := by decide +kernel
theorem dX6_yard_43 : decode cX6_yard 43 = .ok (.iadd, 1) := by decide +kernel
theorem dX6_yard_44 : decode cX6_yard 44 = .ok (.putfield 47, 3) := by decide +kernel
theorem dX6_yard_47 : decode cX6_yard 47 = .ok (.aload_n 0, 1) := by decide +kernel
theorem dX6_yard_48 : decode cX6_yard 48 = .ok (.getfield 19, 3) := by decide +kernel
theorem dX6_yard_51 : decode cX6_yard 51 = .ok (.getfield 82, 3) := by decide +kernel
theorem dX6_yard_54 : decode cX6_yard 54 = .ok (.invokevirtual 85, 3) := by decide +kernel
theorem dX6_yard_57 : decode cX6_yard 57 = .ok (.ireturn, 1) := by decide +kernel
theorem dX6_about_0 : decode cX6_about 0 = .ok (.aload_n 0, 1) := by decide +kernel
theorem dX6_about_1 : decode cX6_about 1 = .ok (.getfield 19, 3) := by decide +kernel
theorem dX6_about_4 : decode cX6_about 4 = .ok (.getfield 82, 3) := by decide +kernel
theorem dX6_about_7 : decode cX6_about 7 = .ok (.iload_n 1, 1) := by decide +kernel
theorem dX6_about_8 : decode cX6_about 8 = .ok (.invokevirtual 88, 3) := by decide +kernel
theorem dX6_about_11 : decode cX6_about 11 = .ok (.ifCond .ne 6, 3) := by decide +kernel
theorem dX6_about_14 : decode cX6_about 14 = .ok (.bipush (-101), 2) := by decide +kernel
theorem dX6_about_16 : decode cX6_about 16 = .ok (.ireturn, 1) := by decide +kernel
theorem dX6_about_17 : decode cX6_about 17 = .ok (.iload_n 2, 1) := by decide +kernel
theorem dX6_about_18 : decode cX6_about 18 = .ok (.ifCond .lt 9, 3) := by decide +kernel
theorem dX6_about_21 : decode cX6_about 21 = .ok (.iload_n 2, 1) := by decide +kernel
theorem dX6_about_22 : decode cX6_about 22 = .ok (.bipush 6, 2) := by decide +kernel
theorem dX6_about_24 : decode cX6_about 24 = .ok (.if_icmp .lt 6, 3) := by decide +kernel
theorem dX6_about_27 : decode cX6_about 27 = .ok (.bipush (-102), 2) := by decide +kernel
theorem dX6_about_29 : decode cX6_about 29 = .ok (.ireturn, 1) := by decide +kernel
theorem dX6_about_30 : decode cX6_about 30 = .ok (.aload_n 0, 1) := by decide +kernel
theorem dX6_about_31 : decode cX6_about 31 = .ok (.getfield 19, 3) := by decide +kernel
theorem dX6_about_34 : decode cX6_about 34 = .ok (.getfield 82, 3) := by decide +kernel
theorem dX6_about_37 : decode cX6_about 37 = .ok (.iload_n 1, 1) := by decide +kernel
theorem dX6_about_38 : decode cX6_about 38 = .ok (.invokevirtual 91, 3) := by decide +kernel
theorem dX6_about_41 : decode cX6_about 41 = .ok (.istore_n 3, 1) := by decide +kernel
theorem dX6_about_42 : decode cX6_about 42 = .ok (.iload_n 2, 1) := by decide +kernel
theorem dX6_about_43 : decode cX6_about 43 = .ok (.lookupswitch 61 #[(0, 33), (4, 35), (5, 42)], 33) := by decide +kernel
theorem dX6_about_76 : decode cX6_about 76 = .ok (.iload_n 3, 1) := by decide +kernel
theorem dX6_about_77 : decode cX6_about 77 = .ok (.ireturn, 1) := by decide +kernel
theorem dX6_about_78 : decode cX6_about 78 = .ok (.iload_n 3, 1) := by decide +kernel
theorem dX6_about_79 : decode cX6_about 79 = .ok (.invokestatic 95, 3) := by decide +kernel
theorem dX6_about_82 : decode cX6_about 82 = .ok (.iconst 2, 1) := by decide +kernel
theorem dX6_about_83 : decode cX6_about 83 = .ok (.iadd, 1) := by decide +kernel
theorem dX6_about_84 : decode cX6_about 84 = .ok (.ireturn, 1) := by decide +kernel
theorem dX6_about_85 : decode cX6_about 85 = .ok (.aload_n 0, 1) := by decide +kernel
theorem dX6_about_86 : decode cX6_about 86 = .ok (.getfield 19, 3) := by decide +kernel
theorem dX6_about_89 : decode cX6_about 89 = .ok (.getfield 100, 3) := by decide +kernel
theorem dX6_about_92 : decode cX6_about 92 = .ok (.aload_n 0, 1) := by decide +kernel
theorem dX6_about_93 : decode cX6_about 93 = .ok (.getfield 19, 3) := by decide +kernel
theorem dX6_about_96 : decode cX6_about 96 = .ok (.getfield 82, 3) := by decide +kernel
theorem dX6_about_99 : decode cX6_about 99 = .ok (.iload_n 1, 1) := by decide +kernel
theorem dX6_about_100 : decode cX6_about 100 = .ok (.invokevirtual 104, 3) := by decide +kernel
theorem dX6_about_103 : decode cX6_about 103 = .ok (.ireturn, 1) := by decide +kernel
theorem dX6_about_104 : decode cX6_about 104 = .ok (.iload_n 3, 1) := by decide +kernel
theorem dX6_about_105 : decode cX6_about 105 = .ok (.iload_n 2, 1) := by decide +kernel
theorem dX6_about_106 : decode cX6_about 106 = .ok (.invokestatic 110, 3) := by decide +kernel
theorem dX6_about_109 : decode cX6_about 109 = .ok (.ireturn, 1) := by decide +kernel
theorem dX6_as_0 : decode cX6_as 0 = .ok (.aload_n 0, 1) := by decide +kernel
theorem dX6_as_1 : decode cX6_as 1 = .ok (.getfield 19, 3) := by decide +kernel
theorem dX6_as_4 : decode cX6_as 4 = .ok (.getfield 82, 3) := by decide +kernel
theorem dX6_as_7 : decode cX6_as 7 = .ok (.iload_n 1, 1) := by decide +kernel
theorem dX6_as_8 : decode cX6_as 8 = .ok (.invokevirtual 88, 3) := by decide +kernel
theorem dX6_as_11 : decode cX6_as 11 = .ok (.ifCond .ne 6, 3) := by decide +kernel
theorem dX6_as_14 : decode cX6_as 14 = .ok (.bipush (-101), 2) := by decide +kernel
theorem dX6_as_16 : decode cX6_as 16 = .ok (.ireturn, 1) := by decide +kernel
theorem dX6_as_17 : decode cX6_as 17 = .ok (.iload_n 2, 1) := by decide +kernel
theorem dX6_as_18 : decode cX6_as 18 = .ok (.invokestatic 114, 3) := by decide +kernel
theorem dX6_as_21 : decode cX6_as 21 = .ok (.ifCond .ne 6, 3) := by decide +kernel
theorem dX6_as_24 : decode cX6_as 24 = .ok (.bipush (-102), 2) := by decide +kernel
theorem dX6_as_26 : decode cX6_as 26 = .ok (.ireturn, 1) := by decide +kernel
theorem dX6_as_27 : decode cX6_as 27 = .ok (.aload_n 0, 1) := by decide +kernel
theorem dX6_as_28 : decode cX6_as 28 = .ok (.getfield 19, 3) := by decide +kernel
theorem dX6_as_31 : decode cX6_as 31 = .ok (.getfield 82, 3) := by decide +kernel
theorem dX6_as_34 : decode cX6_as 34 = .ok (.iload_n 1, 1) := by decide +kernel
theorem dX6_as_35 : decode cX6_as 35 = .ok (.invokevirtual 91, 3) := by decide +kernel
theorem dX6_as_38 : decode cX6_as 38 = .ok (.iload_n 2, 1) := by decide +kernel
theorem dX6_as_39 : decode cX6_as 39 = .ok (.invokestatic 117, 3) := by decide +kernel
theorem dX6_as_42 : decode cX6_as 42 = .ok (.ifCond .eq 7, 3) := by decide +kernel
theorem dX6_as_45 : decode cX6_as 45 = .ok (.iload_n 1, 1) := by decide +kernel
theorem dX6_as_46 : decode cX6_as 46 = .ok (.goto 4, 3) := by decide +kernel
theorem dX6_as_49 : decode cX6_as 49 = .ok (.iconst (-1), 1) := by decide +kernel
theorem dX6_as_50 : decode cX6_as 50 = .ok (.ireturn, 1) := by decide +kernel
theorem dX6_lay_0 : decode cX6_lay 0 = .ok (.aload_n 0, 1) := by decide +kernel
theorem dX6_lay_1 : decode cX6_lay 1 = .ok (.getfield 19, 3) := by decide +kernel
theorem dX6_lay_4 : decode cX6_lay 4 = .ok (.getfield 82, 3) := by decide +kernel
theorem dX6_lay_7 : decode cX6_lay 7 = .ok (.iload_n 1, 1) := by decide +kernel
theorem dX6_lay_8 : decode cX6_lay 8 = .ok (.invokevirtual 88, 3) := by decide +kernel
theorem dX6_lay_11 : decode cX6_lay 11 = .ok (.ifCond .ne 6, 3) := by decide +kernel
theorem dX6_lay_14 : decode cX6_lay 14 = .ok (.bipush (-101), 2) := by decide +kernel
theorem dX6_lay_16 : decode cX6_lay 16 = .ok (.ireturn, 1) := by decide +kernel
theorem dX6_lay_17 : decode cX6_lay 17 = .ok (.iload_n 2, 1) := by decide +kernel
theorem dX6_lay_18 : decode cX6_lay 18 = .ok (.invokestatic 114, 3) := by decide +kernel
theorem dX6_lay_21 : decode cX6_lay 21 = .ok (.ifCond .ne 6, 3) := by decide +kernel
theorem dX6_lay_24 : decode cX6_lay 24 = .ok (.bipush (-102), 2) := by decide +kernel
theorem dX6_lay_26 : decode cX6_lay 26 = .ok (.ireturn, 1) := by decide +kernel
theorem dX6_lay_27 : decode cX6_lay 27 = .ok (.aload_n 0, 1) := by decide +kernel
theorem dX6_lay_28 : decode cX6_lay 28 = .ok (.getfield 19, 3) := by decide +kernel
theorem dX6_lay_31 : decode cX6_lay 31 = .ok (.getfield 82, 3) := by decide +kernel
theorem dX6_lay_34 : decode cX6_lay 34 = .ok (.iload_n 1, 1) := by decide +kernel
theorem dX6_lay_35 : decode cX6_lay 35 = .ok (.iload_n 2, 1) := by decide +kernel
theorem dX6_lay_36 : decode cX6_lay 36 = .ok (.invokevirtual 121, 3) := by decide +kernel
theorem dX6_lay_39 : decode cX6_lay 39 = .ok (.ireturn, 1) := by decide +kernel
theorem dX6_blocks_0 : decode cX6_blocks 0 = .ok (.iload_n 1, 1) := by decide +kernel
theorem dX6_blocks_1 : decode cX6_blocks 1 = .ok (.iconst 1, 1) := by decide +kernel
theorem dX6_blocks_2 : decode cX6_blocks 2 = .ok (.if_icmp .lt 9, 3) := by decide +kernel
theorem dX6_blocks_5 : decode cX6_blocks 5 = .ok (.iload_n 1, 1) := by decide +kernel
theorem dX6_blocks_6 : decode cX6_blocks 6 = .ok (.bipush 9, 2) := by decide +kernel
theorem dX6_blocks_8 : decode cX6_blocks 8 = .ok (.if_icmp .le 6, 3) := by decide +kernel
theorem dX6_blocks_11 : decode cX6_blocks 11 = .ok (.bipush (-102), 2) := by decide +kernel
theorem dX6_blocks_13 : decode cX6_blocks 13 = .ok (.ireturn, 1) := by decide +kernel
theorem dX6_blocks_14 : decode cX6_blocks 14 = .ok (.aload_n 0, 1) := by decide +kernel
theorem dX6_blocks_15 : decode cX6_blocks 15 = .ok (.invokevirtual 124, 3) := by decide +kernel
theorem dX6_blocks_18 : decode cX6_blocks 18 = .ok (.ifCond .ne 6, 3) := by decide +kernel
theorem dX6_blocks_21 : decode cX6_blocks 21 = .ok (.bipush (-103), 2) := by decide +kernel
theorem dX6_blocks_23 : decode cX6_blocks 23 = .ok (.ireturn, 1) := by decide +kernel
theorem dX6_blocks_24 : decode cX6_blocks 24 = .ok (.aload_n 0, 1) := by decide +kernel
theorem dX6_blocks_25 : decode cX6_blocks 25 = .ok (.getfield 19, 3) := by decide +kernel
theorem dX6_blocks_28 : decode cX6_blocks 28 = .ok (.iload_n 1, 1) := by decide +kernel
theorem dX6_blocks_29 : decode cX6_blocks 29 = .ok (.invokevirtual 127, 3) := by decide +kernel
theorem dX6_blocks_32 : decode cX6_blocks 32 = .ok (.ireturn, 1) := by decide +kernel
theorem dX6_step_0 : decode cX6_step 0 = .ok (.aload_n 0, 1) := by decide +kernel
theorem dX6_step_1 : decode cX6_step 1 = .ok (.iload_n 1, 1) := by decide +kernel
theorem dX6_step_2 : decode cX6_step 2 = .ok (.invokevirtual 130, 3) := by decide +kernel
theorem dX6_step_5 : decode cX6_step 5 = .ok (.istore_n 2, 1) := by decide +kernel
theorem dX6_step_6 : decode cX6_step 6 = .ok (.iload_n 2, 1) := by decide +kernel
theorem dX6_step_7 : decode cX6_step 7 = .ok (.ifCond .eq 5, 3) := by decide +kernel
theorem dX6_step_10 : decode cX6_step 10 = .ok (.iload_n 2, 1) := by decide +kernel
theorem dX6_step_11 : decode cX6_step 11 = .ok (.ireturn, 1) := by decide +kernel
theorem dX6_step_12 : decode cX6_step 12 = .ok (.aload_n 0, 1) := by decide +kernel
theorem dX6_step_13 : decode cX6_step 13 = .ok (.getfield 19, 3) := by decide +kernel
theorem dX6_step_16 : decode cX6_step 16 = .ok (.iload_n 1, 1) := by decide +kernel
theorem dX6_step_17 : decode cX6_step 17 = .ok (.invokevirtual 133, 3) := by decide +kernel
theorem dX6_step_20 : decode cX6_step 20 = .ok (.ifCond .eq 13, 3) := by decide +kernel
theorem dX6_step_23 : decode cX6_step 23 = .ok (.aload_n 0, 1) := by decide +kernel
theorem dX6_step_24 : decode cX6_step 24 = .ok (.getfield 19, 3) := by decide +kernel
theorem dX6_step_27 : decode cX6_step 27 = .ok (.getfield 136, 3) := by decide +kernel
theorem dX6_step_30 : decode cX6_step 30 = .ok (.goto 4, 3) := by decide +kernel
theorem dX6_step_33 : decode cX6_step 33 = .ok (.iconst (-1), 1) := by decide +kernel
theorem dX6_step_34 : decode cX6_step 34 = .ok (.ireturn, 1) := by decide +kernel
theorem dX6_would_0 : decode cX6_would 0 = .ok (.aload_n 0, 1) := by decide +kernel
theorem dX6_would_1 : decode cX6_would 1 = .ok (.iload_n 1, 1) := by decide +kernel
theorem dX6_would_2 : decode cX6_would 2 = .ok (.invokevirtual 130, 3) := by decide +kernel
theorem dX6_would_5 : decode cX6_would 5 = .ok (.istore_n 2, 1) := by decide +kernel
theorem dX6_would_6 : decode cX6_would 6 = .ok (.iload_n 2, 1) := by decide +kernel
theorem dX6_would_7 : decode cX6_would 7 = .ok (.ifCond .eq 7, 3) := by decide +kernel
theorem dX6_would_10 : decode cX6_would 10 = .ok (.iload_n 2, 1) := by decide +kernel
theorem dX6_would_11 : decode cX6_would 11 = .ok (.goto 11, 3) := by decide +kernel
theorem dX6_would_14 : decode cX6_would 14 = .ok (.aload_n 0, 1) := by decide +kernel
theorem dX6_would_15 : decode cX6_would 15 = .ok (.getfield 19, 3) := by decide +kernel
theorem dX6_would_18 : decode cX6_would 18 = .ok (.iload_n 1, 1) := by decide +kernel
theorem dX6_would_19 : decode cX6_would 19 = .ok (.invokevirtual 139, 3) := by decide +kernel
theorem dX6_would_22 : decode cX6_would 22 = .ok (.ireturn, 1) := by decide +kernel
theorem dX6_quick_0 : decode cX6_quick 0 = .ok (.iload_n 1, 1) := by decide +kernel
theorem dX6_quick_1 : decode cX6_quick 1 = .ok (.ifCond .eq 18, 3) := by decide +kernel
theorem dX6_quick_4 : decode cX6_quick 4 = .ok (.iload_n 1, 1) := by decide +kernel
theorem dX6_quick_5 : decode cX6_quick 5 = .ok (.bipush 10, 2) := by decide +kernel
theorem dX6_quick_7 : decode cX6_quick 7 = .ok (.if_icmp .lt 9, 3) := by decide +kernel
theorem dX6_quick_10 : decode cX6_quick 10 = .ok (.iload_n 1, 1) := by decide +kernel
theorem dX6_quick_11 : decode cX6_quick 11 = .ok (.bipush 13, 2) := by decide +kernel
theorem dX6_quick_13 : decode cX6_quick 13 = .ok (.if_icmp .le 6, 3) := by decide +kernel
theorem dX6_quick_16 : decode cX6_quick 16 = .ok (.bipush (-102), 2) := by decide +kernel
theorem dX6_quick_18 : decode cX6_quick 18 = .ok (.ireturn, 1) := by decide +kernel
theorem dX6_quick_19 : decode cX6_quick 19 = .ok (.aload_n 0, 1) := by decide +kernel
theorem dX6_quick_20 : decode cX6_quick 20 = .ok (.invokevirtual 124, 3) := by decide +kernel
theorem dX6_quick_23 : decode cX6_quick 23 = .ok (.ifCond .eq 12, 3) := by decide +kernel
theorem dX6_quick_26 : decode cX6_quick 26 = .ok (.aload_n 0, 1) := by decide +kernel
theorem dX6_quick_27 : decode cX6_quick 27 = .ok (.getfield 51, 3) := by decide +kernel
theorem dX6_quick_30 : decode cX6_quick 30 = .ok (.bipush 40, 2) := by decide +kernel
theorem dX6_quick_32 : decode cX6_quick 32 = .ok (.if_icmp .lt 6, 3) := by decide +kernel
theorem dX6_quick_35 : decode cX6_quick 35 = .ok (.bipush (-103), 2) := by decide +kernel
theorem dX6_quick_37 : decode cX6_quick 37 = .ok (.ireturn, 1) := by decide +kernel
theorem dX6_quick_38 : decode cX6_quick 38 = .ok (.aload_n 0, 1) := by decide +kernel
theorem dX6_quick_39 : decode cX6_quick 39 = .ok (.dup, 1) := by decide +kernel
theorem dX6_quick_40 : decode cX6_quick 40 = .ok (.getfield 51, 3) := by decide +kernel
theorem dX6_quick_43 : decode cX6_quick 43 = .ok (.iconst 1, 1) := by decide +kernel
theorem dX6_quick_44 : decode cX6_quick 44 = .ok (.iadd, 1) := by decide +kernel
theorem dX6_quick_45 : decode cX6_quick 45 = .ok (.putfield 51, 3) := by decide +kernel
theorem dX6_quick_48 : decode cX6_quick 48 = .ok (.aload_n 0, 1) := by decide +kernel
theorem dX6_quick_49 : decode cX6_quick 49 = .ok (.getfield 39, 3) := by decide +kernel
theorem dX6_quick_52 : decode cX6_quick 52 = .ok (.aload_n 0, 1) := by decide +kernel
theorem dX6_quick_53 : decode cX6_quick 53 = .ok (.getfield 19, 3) := by decide +kernel
theorem dX6_quick_56 : decode cX6_quick 56 = .ok (.getfield 82, 3) := by decide +kernel
theorem dX6_quick_59 : decode cX6_quick 59 = .ok (.aload_n 0, 1) := by decide +kernel
theorem dX6_quick_60 : decode cX6_quick 60 = .ok (.getfield 19, 3) := by decide +kernel
theorem dX6_quick_63 : decode cX6_quick 63 = .ok (.getfield 142, 3) := by decide +kernel
theorem dX6_quick_66 : decode cX6_quick 66 = .ok (.aload_n 0, 1) := by decide +kernel
theorem dX6_quick_67 : decode cX6_quick 67 = .ok (.getfield 19, 3) := by decide +kernel
theorem dX6_quick_70 : decode cX6_quick 70 = .ok (.getfield 136, 3) := by decide +kernel
theorem dX6_quick_73 : decode cX6_quick 73 = .ok (.aload_n 0, 1) := by decide +kernel
theorem dX6_quick_74 : decode cX6_quick 74 = .ok (.getfield 19, 3) := by decide +kernel
theorem dX6_quick_77 : decode cX6_quick 77 = .ok (.getfield 145, 3) := by decide +kernel
theorem dX6_quick_80 : decode cX6_quick 80 = .ok (.invokevirtual 148, 3) := by decide +kernel
theorem dX6_quick_83 : decode cX6_quick 83 = .ok (.istore_n 2, 1) := by decide +kernel
theorem dX6_quick_84 : decode cX6_quick 84 = .ok (.iload_n 1, 1) := by decide +kernel
theorem dX6_quick_85 : decode cX6_quick 85 = .ok (.ifCond .ne 7, 3) := by decide +kernel
theorem dX6_quick_88 : decode cX6_quick 88 = .ok (.iload_n 2, 1) := by decide +kernel
theorem dX6_quick_89 : decode cX6_quick 89 = .ok (.goto 14, 3) := by decide +kernel
theorem dX6_quick_92 : decode cX6_quick 92 = .ok (.aload_n 0, 1) := by decide +kernel
theorem dX6_quick_93 : decode cX6_quick 93 = .ok (.getfield 39, 3) := by decide +kernel
theorem dX6_quick_96 : decode cX6_quick 96 = .ok (.iload_n 1, 1) := by decide +kernel
theorem dX6_quick_97 : decode cX6_quick 97 = .ok (.bipush 9, 2) := by decide +kernel
theorem dX6_quick_99 : decode cX6_quick 99 = .ok (.isub, 1) := by decide +kernel
theorem dX6_quick_100 : decode cX6_quick 100 = .ok (.invokevirtual 152, 3) := by decide +kernel
theorem dX6_quick_103 : decode cX6_quick 103 = .ok (.ireturn, 1) := by decide +kernel
theorem dX6_high_0 : decode cX6_high 0 = .ok (.aload_n 0, 1) := by decide +kernel
theorem dX6_high_1 : decode cX6_high 1 = .ok (.invokevirtual 124, 3) := by decide +kernel
theorem dX6_high_4 : decode cX6_high 4 = .ok (.ifCond .eq 10, 3) := by decide +kernel
theorem dX6_high_7 : decode cX6_high 7 = .ok (.aload_n 0, 1) := by decide +kernel
theorem dX6_high_8 : decode cX6_high 8 = .ok (.invokevirtual 155, 3) := by decide +kernel
theorem dX6_high_11 : decode cX6_high 11 = .ok (.goto 5, 3) := by decide +kernel
theorem dX6_high_14 : decode cX6_high 14 = .ok (.bipush (-103), 2) := by decide +kernel
theorem dX6_high_16 : decode cX6_high 16 = .ok (.ireturn, 1) := by decide +kernel
theorem dX6_mend_0 : decode cX6_mend 0 = .ok (.iload_n 1, 1) := by decide +kernel
theorem dX6_mend_1 : decode cX6_mend 1 = .ok (.ifCond .eq 11, 3) := by decide +kernel
theorem dX6_mend_4 : decode cX6_mend 4 = .ok (.iload_n 1, 1) := by decide +kernel
theorem dX6_mend_5 : decode cX6_mend 5 = .ok (.iconst 1, 1) := by decide +kernel
theorem dX6_mend_6 : decode cX6_mend 6 = .ok (.if_icmp .eq 6, 3) := by decide +kernel
theorem dX6_mend_9 : decode cX6_mend 9 = .ok (.bipush (-102), 2) := by decide +kernel
theorem dX6_mend_11 : decode cX6_mend 11 = .ok (.ireturn, 1) := by decide +kernel
theorem dX6_mend_12 : decode cX6_mend 12 = .ok (.aload_n 0, 1) := by decide +kernel
theorem dX6_mend_13 : decode cX6_mend 13 = .ok (.invokevirtual 124, 3) := by decide +kernel
theorem dX6_mend_16 : decode cX6_mend 16 = .ok (.ifCond .ne 6, 3) := by decide +kernel
theorem dX6_mend_19 : decode cX6_mend 19 = .ok (.bipush (-103), 2) := by decide +kernel
theorem dX6_mend_21 : decode cX6_mend 21 = .ok (.ireturn, 1) := by decide +kernel
theorem dX6_mend_22 : decode cX6_mend 22 = .ok (.aload_n 0, 1) := by decide +kernel
theorem dX6_mend_23 : decode cX6_mend 23 = .ok (.invokevirtual 158, 3) := by decide +kernel
theorem dX6_mend_26 : decode cX6_mend 26 = .ok (.iload_n 1, 1) := by decide +kernel
theorem dX6_mend_27 : decode cX6_mend 27 = .ok (.ifCond .ne 10, 3) := by decide +kernel
theorem dX6_mend_30 : decode cX6_mend 30 = .ok (.aload_n 0, 1) := by decide +kernel
theorem dX6_mend_31 : decode cX6_mend 31 = .ok (.getfield 54, 3) := by decide +kernel
theorem dX6_mend_34 : decode cX6_mend 34 = .ok (.goto 7, 3) := by decide +kernel
theorem dX6_mend_37 : decode cX6_mend 37 = .ok (.aload_n 0, 1) := by decide +kernel
theorem dX6_mend_38 : decode cX6_mend 38 = .ok (.getfield 57, 3) := by decide +kernel
theorem dX6_mend_41 : decode cX6_mend 41 = .ok (.ireturn, 1) := by decide +kernel
theorem dX6_hear_0 : decode cX6_hear 0 = .ok (.aload_n 0, 1) := by decide +kernel
theorem dX6_hear_1 : decode cX6_hear 1 = .ok (.getfield 19, 3) := by decide +kernel
theorem dX6_hear_4 : decode cX6_hear 4 = .ok (.getfield 82, 3) := by decide +kernel
theorem dX6_hear_7 : decode cX6_hear 7 = .ok (.iload_n 1, 1) := by decide +kernel
theorem dX6_hear_8 : decode cX6_hear 8 = .ok (.invokevirtual 88, 3) := by decide +kernel
theorem dX6_hear_11 : decode cX6_hear 11 = .ok (.ifCond .ne 6, 3) := by decide +kernel
theorem dX6_hear_14 : decode cX6_hear 14 = .ok (.bipush (-101), 2) := by decide +kernel
theorem dX6_hear_16 : decode cX6_hear 16 = .ok (.ireturn, 1) := by decide +kernel
theorem dX6_hear_17 : decode cX6_hear 17 = .ok (.iload_n 2, 1) := by decide +kernel
theorem dX6_hear_18 : decode cX6_hear 18 = .ok (.iconst 1, 1) := by decide +kernel
theorem dX6_hear_19 : decode cX6_hear 19 = .ok (.if_icmp .lt 18, 3) := by decide +kernel
theorem dX6_hear_22 : decode cX6_hear 22 = .ok (.iload_n 2, 1) := by decide +kernel
theorem dX6_hear_23 : decode cX6_hear 23 = .ok (.iconst 3, 1) := by decide +kernel
theorem dX6_hear_24 : decode cX6_hear 24 = .ok (.if_icmp .gt 13, 3) := by decide +kernel
theorem dX6_hear_27 : decode cX6_hear 27 = .ok (.iload_n 3, 1) := by decide +kernel
theorem dX6_hear_28 : decode cX6_hear 28 = .ok (.ifCond .lt 9, 3) := by decide +kernel
theorem dX6_hear_31 : decode cX6_hear 31 = .ok (.iload_n 3, 1) := by decide +kernel
theorem dX6_hear_32 : decode cX6_hear 32 = .ok (.bipush 12, 2) := by decide +kernel
theorem dX6_hear_34 : decode cX6_hear 34 = .ok (.if_icmp .lt 6, 3) := by decide +kernel
theorem dX6_hear_37 : decode cX6_hear 37 = .ok (.bipush (-102), 2) := by decide +kernel
theorem dX6_hear_39 : decode cX6_hear 39 = .ok (.ireturn, 1) := by decide +kernel
theorem dX6_hear_40 : decode cX6_hear 40 = .ok (.aload_n 0, 1) := by decide +kernel
theorem dX6_hear_41 : decode cX6_hear 41 = .ok (.getfield 19, 3) := by decide +kernel
theorem dX6_hear_44 : decode cX6_hear 44 = .ok (.getfield 100, 3) := by decide +kernel
theorem dX6_hear_47 : decode cX6_hear 47 = .ok (.iload_n 1, 1) := by decide +kernel
theorem dX6_hear_48 : decode cX6_hear 48 = .ok (.iload_n 2, 1) := by decide +kernel
theorem dX6_hear_49 : decode cX6_hear 49 = .ok (.iload_n 3, 1) := by decide +kernel
theorem dX6_hear_50 : decode cX6_hear 50 = .ok (.iload 4, 2) := by decide +kernel
theorem dX6_hear_52 : decode cX6_hear 52 = .ok (.invokevirtual 161, 3) := by decide +kernel
theorem dX6_hear_55 : decode cX6_hear 55 = .ok (.ifCond .eq 16, 3) := by decide +kernel
theorem dX6_hear_58 : decode cX6_hear 58 = .ok (.aload_n 0, 1) := by decide +kernel
theorem dX6_hear_59 : decode cX6_hear 59 = .ok (.getfield 19, 3) := by decide +kernel
theorem dX6_hear_62 : decode cX6_hear 62 = .ok (.getfield 100, 3) := by decide +kernel
theorem dX6_hear_65 : decode cX6_hear 65 = .ok (.invokevirtual 164, 3) := by decide +kernel
theorem dX6_hear_68 : decode cX6_hear 68 = .ok (.goto 5, 3) := by decide +kernel
theorem dX6_hear_71 : decode cX6_hear 71 = .ok (.bipush (-104), 2) := by decide +kernel
theorem dX6_hear_73 : decode cX6_hear 73 = .ok (.ireturn, 1) := by decide +kernel
theorem dX6_forget_0 : decode cX6_forget 0 = .ok (.aload_n 0, 1) := by decide +kernel
theorem dX6_forget_1 : decode cX6_forget 1 = .ok (.getfield 19, 3) := by decide +kernel
theorem dX6_forget_4 : decode cX6_forget 4 = .ok (.getfield 100, 3) := by decide +kernel
theorem dX6_forget_7 : decode cX6_forget 7 = .ok (.invokevirtual 165, 3) := by decide +kernel
theorem dX6_forget_10 : decode cX6_forget 10 = .ok (.ireturn, 1) := by decide +kernel
theorem dX6_heights_0 : decode cX6_heights 0 = .ok (.aload_n 0, 1) := by decide +kernel
theorem dX6_heights_1 : decode cX6_heights 1 = .ok (.invokevirtual 124, 3) := by decide +kernel
theorem dX6_heights_4 : decode cX6_heights 4 = .ok (.ifCond .eq 23, 3) := by decide +kernel
theorem dX6_heights_7 : decode cX6_heights 7 = .ok (.aload_n 0, 1) := by decide +kernel
theorem dX6_heights_8 : decode cX6_heights 8 = .ok (.getfield 19, 3) := by decide +kernel
theorem dX6_heights_11 : decode cX6_heights 11 = .ok (.getfield 100, 3) := by decide +kernel
theorem dX6_heights_14 : decode cX6_heights 14 = .ok (.aload_n 0, 1) := by decide +kernel
theorem dX6_heights_15 : decode cX6_heights 15 = .ok (.getfield 19, 3) := by decide +kernel
theorem dX6_heights_18 : decode cX6_heights 18 = .ok (.getfield 82, 3) := by decide +kernel
theorem dX6_heights_21 : decode cX6_heights 21 = .ok (.invokevirtual 166, 3) := by decide +kernel
theorem dX6_heights_24 : decode cX6_heights 24 = .ok (.goto 5, 3) := by decide +kernel
theorem dX6_heights_27 : decode cX6_heights 27 = .ok (.bipush (-103), 2) := by decide +kernel
theorem dX6_heights_29 : decode cX6_heights 29 = .ok (.ireturn, 1) := by decide +kernel
theorem dX6_races_0 : decode cX6_races 0 = .ok (.iload_n 1, 1) := by decide +kernel
