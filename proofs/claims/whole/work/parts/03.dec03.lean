theorem dX7_swayBy_88 : decode cX7_swayBy 88 = .ok (.iload_n 3, 1) := by decide +kernel
theorem dX7_swayBy_89 : decode cX7_swayBy 89 = .ok (.iload 5, 2) := by decide +kernel
theorem dX7_swayBy_91 : decode cX7_swayBy 91 = .ok (.iadd, 1) := by decide +kernel
theorem dX7_swayBy_92 : decode cX7_swayBy 92 = .ok (.ifCond .ge 7, 3) := by decide +kernel
theorem dX7_swayBy_95 : decode cX7_swayBy 95 = .ok (.iconst 0, 1) := by decide +kernel
theorem dX7_swayBy_96 : decode cX7_swayBy 96 = .ok (.goto 7, 3) := by decide +kernel
theorem dX7_swayBy_99 : decode cX7_swayBy 99 = .ok (.iload_n 3, 1) := by decide +kernel
theorem dX7_swayBy_100 : decode cX7_swayBy 100 = .ok (.iload 5, 2) := by decide +kernel
theorem dX7_swayBy_102 : decode cX7_swayBy 102 = .ok (.iadd, 1) := by decide +kernel
theorem dX7_swayBy_103 : decode cX7_swayBy 103 = .ok (.ireturn, 1) := by decide +kernel
theorem dX7_bears_0 : decode cX7_bears 0 = .ok (.bipush 12, 2) := by decide +kernel
theorem dX7_bears_2 : decode cX7_bears 2 = .ok (.iload_n 0, 1) := by decide +kernel
theorem dX7_bears_3 : decode cX7_bears 3 = .ok (.isub, 1) := by decide +kernel
theorem dX7_bears_4 : decode cX7_bears 4 = .ok (.ireturn, 1) := by decide +kernel
theorem dX7_placeNow_0 : decode cX7_placeNow 0 = .ok (.iload_n 2, 1) := by decide +kernel
theorem dX7_placeNow_1 : decode cX7_placeNow 1 = .ok (.tableswitch 64 0 4 #[35, 42, 42, 42, 50], 35) := by decide +kernel
theorem dX7_placeNow_36 : decode cX7_placeNow 36 = .ok (.aload_n 0, 1) := by decide +kernel
theorem dX7_placeNow_37 : decode cX7_placeNow 37 = .ok (.getfield 7, 3) := by decide +kernel
theorem dX7_placeNow_40 : decode cX7_placeNow 40 = .ok (.iload_n 1, 1) := by decide +kernel
theorem dX7_placeNow_41 : decode cX7_placeNow 41 = .ok (.iaload, 1) := by decide +kernel
theorem dX7_placeNow_42 : decode cX7_placeNow 42 = .ok (.ireturn, 1) := by decide +kernel
theorem dX7_placeNow_43 : decode cX7_placeNow 43 = .ok (.aload_n 0, 1) := by decide +kernel
theorem dX7_placeNow_44 : decode cX7_placeNow 44 = .ok (.iload_n 1, 1) := by decide +kernel
theorem dX7_placeNow_45 : decode cX7_placeNow 45 = .ok (.iload_n 2, 1) := by decide +kernel
theorem dX7_placeNow_46 : decode cX7_placeNow 46 = .ok (.iconst 0, 1) := by decide +kernel
theorem dX7_placeNow_47 : decode cX7_placeNow 47 = .ok (.invokevirtual 97, 3) := by decide +kernel
theorem dX7_placeNow_50 : decode cX7_placeNow 50 = .ok (.ireturn, 1) := by decide +kernel
theorem dX7_placeNow_51 : decode cX7_placeNow 51 = .ok (.aload_n 0, 1) := by decide +kernel
theorem dX7_placeNow_52 : decode cX7_placeNow 52 = .ok (.iload_n 1, 1) := by decide +kernel
theorem dX7_placeNow_53 : decode cX7_placeNow 53 = .ok (.iconst 0, 1) := by decide +kernel
theorem dX7_placeNow_54 : decode cX7_placeNow 54 = .ok (.bipush 12, 2) := by decide +kernel
theorem dX7_placeNow_56 : decode cX7_placeNow 56 = .ok (.invokevirtual 97, 3) := by decide +kernel
theorem dX7_placeNow_59 : decode cX7_placeNow 59 = .ok (.bipush 12, 2) := by decide +kernel
theorem dX7_placeNow_61 : decode cX7_placeNow 61 = .ok (.isub, 1) := by decide +kernel
theorem dX7_placeNow_62 : decode cX7_placeNow 62 = .ok (.iconst 2, 1) := by decide +kernel
theorem dX7_placeNow_63 : decode cX7_placeNow 63 = .ok (.iadd, 1) := by decide +kernel
theorem dX7_placeNow_64 : decode cX7_placeNow 64 = .ok (.ireturn, 1) := by decide +kernel
theorem dX7_placeNow_65 : decode cX7_placeNow 65 = .ok (.aload_n 0, 1) := by decide +kernel
theorem dX7_placeNow_66 : decode cX7_placeNow 66 = .ok (.iload_n 1, 1) := by decide +kernel
theorem dX7_placeNow_67 : decode cX7_placeNow 67 = .ok (.invokevirtual 101, 3) := by decide +kernel
theorem dX7_placeNow_70 : decode cX7_placeNow 70 = .ok (.ireturn, 1) := by decide +kernel
theorem dX7_about_0 : decode cX7_about 0 = .ok (.aload_n 0, 1) := by decide +kernel
theorem dX7_about_1 : decode cX7_about 1 = .ok (.iload_n 1, 1) := by decide +kernel
theorem dX7_about_2 : decode cX7_about 2 = .ok (.invokevirtual 104, 3) := by decide +kernel
theorem dX7_about_5 : decode cX7_about 5 = .ok (.ifCond .ne 8, 3) := by decide +kernel
theorem dX7_about_8 : decode cX7_about 8 = .ok (.bipush (-101), 2) := by decide +kernel
theorem dX7_about_10 : decode cX7_about 10 = .ok (.goto 23, 3) := by decide +kernel
theorem dX7_about_13 : decode cX7_about 13 = .ok (.iload_n 2, 1) := by decide +kernel
theorem dX7_about_14 : decode cX7_about 14 = .ok (.iconst 0, 1) := by decide +kernel
theorem dX7_about_15 : decode cX7_about 15 = .ok (.iconst 5, 1) := by decide +kernel
theorem dX7_about_16 : decode cX7_about 16 = .ok (.invokestatic 47, 3) := by decide +kernel
theorem dX7_about_19 : decode cX7_about 19 = .ok (.ifCond .eq 12, 3) := by decide +kernel
theorem dX7_about_22 : decode cX7_about 22 = .ok (.aload_n 0, 1) := by decide +kernel
theorem dX7_about_23 : decode cX7_about 23 = .ok (.iload_n 1, 1) := by decide +kernel
theorem dX7_about_24 : decode cX7_about 24 = .ok (.iload_n 2, 1) := by decide +kernel
theorem dX7_about_25 : decode cX7_about 25 = .ok (.invokevirtual 108, 3) := by decide +kernel
theorem dX7_about_28 : decode cX7_about 28 = .ok (.goto 5, 3) := by decide +kernel
theorem dX7_about_31 : decode cX7_about 31 = .ok (.bipush (-102), 2) := by decide +kernel
theorem dX7_about_33 : decode cX7_about 33 = .ok (.ireturn, 1) := by decide +kernel
theorem dX7_as_0 : decode cX7_as 0 = .ok (.aload_n 0, 1) := by decide +kernel
theorem dX7_as_1 : decode cX7_as 1 = .ok (.iload_n 1, 1) := by decide +kernel
theorem dX7_as_2 : decode cX7_as 2 = .ok (.invokevirtual 104, 3) := by decide +kernel
theorem dX7_as_5 : decode cX7_as 5 = .ok (.ifCond .ne 6, 3) := by decide +kernel
theorem dX7_as_8 : decode cX7_as 8 = .ok (.bipush (-101), 2) := by decide +kernel
theorem dX7_as_10 : decode cX7_as 10 = .ok (.ireturn, 1) := by decide +kernel
theorem dX7_as_11 : decode cX7_as 11 = .ok (.iload_n 2, 1) := by decide +kernel
theorem dX7_as_12 : decode cX7_as 12 = .ok (.iconst 0, 1) := by decide +kernel
theorem dX7_as_13 : decode cX7_as 13 = .ok (.iconst 4, 1) := by decide +kernel
theorem dX7_as_14 : decode cX7_as 14 = .ok (.invokestatic 47, 3) := by decide +kernel
theorem dX7_as_17 : decode cX7_as 17 = .ok (.ifCond .ne 6, 3) := by decide +kernel
theorem dX7_as_20 : decode cX7_as 20 = .ok (.bipush (-102), 2) := by decide +kernel
theorem dX7_as_22 : decode cX7_as 22 = .ok (.ireturn, 1) := by decide +kernel
theorem dX7_as_23 : decode cX7_as 23 = .ok (.aload_n 0, 1) := by decide +kernel
theorem dX7_as_24 : decode cX7_as 24 = .ok (.getfield 7, 3) := by decide +kernel
theorem dX7_as_27 : decode cX7_as 27 = .ok (.iload_n 1, 1) := by decide +kernel
theorem dX7_as_28 : decode cX7_as 28 = .ok (.iaload, 1) := by decide +kernel
theorem dX7_as_29 : decode cX7_as 29 = .ok (.istore_n 3, 1) := by decide +kernel
theorem dX7_as_30 : decode cX7_as 30 = .ok (.iload_n 2, 1) := by decide +kernel
theorem dX7_as_31 : decode cX7_as 31 = .ok (.ifCond .eq 18, 3) := by decide +kernel
theorem dX7_as_34 : decode cX7_as 34 = .ok (.iload_n 3, 1) := by decide +kernel
theorem dX7_as_35 : decode cX7_as 35 = .ok (.iload_n 2, 1) := by decide +kernel
theorem dX7_as_36 : decode cX7_as 36 = .ok (.if_icmp .eq 13, 3) := by decide +kernel
theorem dX7_as_39 : decode cX7_as 39 = .ok (.iload_n 2, 1) := by decide +kernel
theorem dX7_as_40 : decode cX7_as 40 = .ok (.iconst 1, 1) := by decide +kernel
theorem dX7_as_41 : decode cX7_as 41 = .ok (.if_icmp .ne 12, 3) := by decide +kernel
theorem dX7_as_44 : decode cX7_as 44 = .ok (.iload_n 3, 1) := by decide +kernel
theorem dX7_as_45 : decode cX7_as 45 = .ok (.iconst 4, 1) := by decide +kernel
theorem dX7_as_46 : decode cX7_as 46 = .ok (.if_icmp .ne 7, 3) := by decide +kernel
theorem dX7_as_49 : decode cX7_as 49 = .ok (.iload_n 1, 1) := by decide +kernel
theorem dX7_as_50 : decode cX7_as 50 = .ok (.goto 4, 3) := by decide +kernel
theorem dX7_as_53 : decode cX7_as 53 = .ok (.iconst (-1), 1) := by decide +kernel
theorem dX7_as_54 : decode cX7_as 54 = .ok (.ireturn, 1) := by decide +kernel
theorem dX7_lay_0 : decode cX7_lay 0 = .ok (.aload_n 0, 1) := by decide +kernel
theorem dX7_lay_1 : decode cX7_lay 1 = .ok (.iload_n 1, 1) := by decide +kernel
theorem dX7_lay_2 : decode cX7_lay 2 = .ok (.invokevirtual 104, 3) := by decide +kernel
theorem dX7_lay_5 : decode cX7_lay 5 = .ok (.ifCond .ne 6, 3) := by decide +kernel
theorem dX7_lay_8 : decode cX7_lay 8 = .ok (.bipush (-101), 2) := by decide +kernel
theorem dX7_lay_10 : decode cX7_lay 10 = .ok (.ireturn, 1) := by decide +kernel
theorem dX7_lay_11 : decode cX7_lay 11 = .ok (.iload_n 2, 1) := by decide +kernel
theorem dX7_lay_12 : decode cX7_lay 12 = .ok (.iconst 0, 1) := by decide +kernel
theorem dX7_lay_13 : decode cX7_lay 13 = .ok (.iconst 4, 1) := by decide +kernel
theorem dX7_lay_14 : decode cX7_lay 14 = .ok (.invokestatic 47, 3) := by decide +kernel
theorem dX7_lay_17 : decode cX7_lay 17 = .ok (.ifCond .ne 6, 3) := by decide +kernel
theorem dX7_lay_20 : decode cX7_lay 20 = .ok (.bipush (-102), 2) := by decide +kernel
theorem dX7_lay_22 : decode cX7_lay 22 = .ok (.ireturn, 1) := by decide +kernel
theorem dX7_lay_23 : decode cX7_lay 23 = .ok (.aload_n 0, 1) := by decide +kernel
theorem dX7_lay_24 : decode cX7_lay 24 = .ok (.getfield 7, 3) := by decide +kernel
theorem dX7_lay_27 : decode cX7_lay 27 = .ok (.iload_n 1, 1) := by decide +kernel
theorem dX7_lay_28 : decode cX7_lay 28 = .ok (.iaload, 1) := by decide +kernel
theorem dX7_lay_29 : decode cX7_lay 29 = .ok (.istore_n 3, 1) := by decide +kernel
theorem dX7_lay_30 : decode cX7_lay 30 = .ok (.aload_n 0, 1) := by decide +kernel
theorem dX7_lay_31 : decode cX7_lay 31 = .ok (.getfield 7, 3) := by decide +kernel
theorem dX7_lay_34 : decode cX7_lay 34 = .ok (.iload_n 1, 1) := by decide +kernel
theorem dX7_lay_35 : decode cX7_lay 35 = .ok (.iload_n 2, 1) := by decide +kernel
theorem dX7_lay_36 : decode cX7_lay 36 = .ok (.iastore, 1) := by decide +kernel
theorem dX7_lay_37 : decode cX7_lay 37 = .ok (.iload_n 3, 1) := by decide +kernel
theorem dX7_lay_38 : decode cX7_lay 38 = .ok (.ireturn, 1) := by decide +kernel
theorem dX7_blocks_0 : decode cX7_blocks 0 = .ok (.iload_n 1, 1) := by decide +kernel
theorem dX7_blocks_1 : decode cX7_blocks 1 = .ok (.iconst 1, 1) := by decide +kernel
theorem dX7_blocks_2 : decode cX7_blocks 2 = .ok (.bipush 9, 2) := by decide +kernel
theorem dX7_blocks_4 : decode cX7_blocks 4 = .ok (.invokestatic 47, 3) := by decide +kernel
theorem dX7_blocks_7 : decode cX7_blocks 7 = .ok (.ifCond .ne 6, 3) := by decide +kernel
theorem dX7_blocks_10 : decode cX7_blocks 10 = .ok (.bipush (-102), 2) := by decide +kernel
theorem dX7_blocks_12 : decode cX7_blocks 12 = .ok (.ireturn, 1) := by decide +kernel
theorem dX7_blocks_13 : decode cX7_blocks 13 = .ok (.aload_n 0, 1) := by decide +kernel
theorem dX7_blocks_14 : decode cX7_blocks 14 = .ok (.getfield 73, 3) := by decide +kernel
theorem dX7_blocks_17 : decode cX7_blocks 17 = .ok (.ifCond .ne 6, 3) := by decide +kernel
theorem dX7_blocks_20 : decode cX7_blocks 20 = .ok (.bipush (-103), 2) := by decide +kernel
theorem dX7_blocks_22 : decode cX7_blocks 22 = .ok (.ireturn, 1) := by decide +kernel
theorem dX7_blocks_23 : decode cX7_blocks 23 = .ok (.aload_n 0, 1) := by decide +kernel
theorem dX7_blocks_24 : decode cX7_blocks 24 = .ok (.getfield 76, 3) := by decide +kernel
theorem dX7_blocks_27 : decode cX7_blocks 27 = .ok (.istore_n 2, 1) := by decide +kernel
theorem dX7_blocks_28 : decode cX7_blocks 28 = .ok (.aload_n 0, 1) := by decide +kernel
theorem dX7_blocks_29 : decode cX7_blocks 29 = .ok (.iload_n 1, 1) := by decide +kernel
theorem dX7_blocks_30 : decode cX7_blocks 30 = .ok (.putfield 76, 3) := by decide +kernel
theorem dX7_blocks_33 : decode cX7_blocks 33 = .ok (.aload_n 0, 1) := by decide +kernel
theorem dX7_blocks_34 : decode cX7_blocks 34 = .ok (.iconst 0, 1) := by decide +kernel
theorem dX7_blocks_35 : decode cX7_blocks 35 = .ok (.putfield 82, 3) := by decide +kernel
theorem dX7_blocks_38 : decode cX7_blocks 38 = .ok (.aload_n 0, 1) := by decide +kernel
theorem dX7_blocks_39 : decode cX7_blocks 39 = .ok (.iconst 0, 1) := by decide +kernel
theorem dX7_blocks_40 : decode cX7_blocks 40 = .ok (.putfield 85, 3) := by decide +kernel
theorem dX7_blocks_43 : decode cX7_blocks 43 = .ok (.iload_n 2, 1) := by decide +kernel
theorem dX7_blocks_44 : decode cX7_blocks 44 = .ok (.ireturn, 1) := by decide +kernel
theorem dX7_goes_0 : decode cX7_goes 0 = .ok (.aload_n 0, 1) := by decide +kernel
theorem dX7_goes_1 : decode cX7_goes 1 = .ok (.aload_n 0, 1) := by decide +kernel
theorem dX7_goes_2 : decode cX7_goes 2 = .ok (.getfield 82, 3) := by decide +kernel
theorem dX7_goes_5 : decode cX7_goes 5 = .ok (.iload_n 1, 1) := by decide +kernel
theorem dX7_goes_6 : decode cX7_goes 6 = .ok (.iadd, 1) := by decide +kernel
theorem dX7_goes_7 : decode cX7_goes 7 = .ok (.iload_n 1, 1) := by decide +kernel
theorem dX7_goes_8 : decode cX7_goes 8 = .ok (.aload_n 0, 1) := by decide +kernel
theorem dX7_goes_9 : decode cX7_goes 9 = .ok (.getfield 85, 3) := by decide +kernel
theorem dX7_goes_12 : decode cX7_goes 12 = .ok (.invokevirtual 97, 3) := by decide +kernel
theorem dX7_goes_15 : decode cX7_goes 15 = .ok (.istore_n 2, 1) := by decide +kernel
theorem dX7_goes_16 : decode cX7_goes 16 = .ok (.iload_n 2, 1) := by decide +kernel
theorem dX7_goes_17 : decode cX7_goes 17 = .ok (.aload_n 0, 1) := by decide +kernel
theorem dX7_goes_18 : decode cX7_goes 18 = .ok (.getfield 76, 3) := by decide +kernel
theorem dX7_goes_21 : decode cX7_goes 21 = .ok (.invokestatic 112, 3) := by decide +kernel
theorem dX7_goes_24 : decode cX7_goes 24 = .ok (.if_icmp .gt 7, 3) := by decide +kernel
theorem dX7_goes_27 : decode cX7_goes 27 = .ok (.iconst 1, 1) := by decide +kernel
theorem dX7_goes_28 : decode cX7_goes 28 = .ok (.goto 4, 3) := by decide +kernel
theorem dX7_goes_31 : decode cX7_goes 31 = .ok (.iconst 0, 1) := by decide +kernel
theorem dX7_goes_32 : decode cX7_goes 32 = .ok (.istore_n 3, 1) := by decide +kernel
theorem dX7_goes_33 : decode cX7_goes 33 = .ok (.aload_n 0, 1) := by decide +kernel
theorem dX7_goes_34 : decode cX7_goes 34 = .ok (.iload_n 3, 1) := by decide +kernel
theorem dX7_goes_35 : decode cX7_goes 35 = .ok (.ifCond .eq 12, 3) := by decide +kernel
theorem dX7_goes_38 : decode cX7_goes 38 = .ok (.aload_n 0, 1) := by decide +kernel
theorem dX7_goes_39 : decode cX7_goes 39 = .ok (.getfield 82, 3) := by decide +kernel
theorem dX7_goes_42 : decode cX7_goes 42 = .ok (.iload_n 1, 1) := by decide +kernel
theorem dX7_goes_43 : decode cX7_goes 43 = .ok (.iadd, 1) := by decide +kernel
theorem dX7_goes_44 : decode cX7_goes 44 = .ok (.goto 4, 3) := by decide +kernel
theorem dX7_goes_47 : decode cX7_goes 47 = .ok (.iconst 0, 1) := by decide +kernel
theorem dX7_goes_48 : decode cX7_goes 48 = .ok (.putfield 82, 3) := by decide +kernel
theorem dX7_goes_51 : decode cX7_goes 51 = .ok (.aload_n 0, 1) := by decide +kernel
theorem dX7_goes_52 : decode cX7_goes 52 = .ok (.iload_n 3, 1) := by decide +kernel
theorem dX7_goes_53 : decode cX7_goes 53 = .ok (.ifCond .eq 7, 3) := by decide +kernel
theorem dX7_goes_56 : decode cX7_goes 56 = .ok (.iload_n 2, 1) := by decide +kernel
theorem dX7_goes_57 : decode cX7_goes 57 = .ok (.goto 4, 3) := by decide +kernel
theorem dX7_goes_60 : decode cX7_goes 60 = .ok (.iconst 0, 1) := by decide +kernel
theorem dX7_goes_61 : decode cX7_goes 61 = .ok (.putfield 85, 3) := by decide +kernel
theorem dX7_goes_64 : decode cX7_goes 64 = .ok (.iload_n 3, 1) := by decide +kernel
theorem dX7_goes_65 : decode cX7_goes 65 = .ok (.ireturn, 1) := by decide +kernel
theorem dX7_step_0 : decode cX7_step 0 = .ok (.iload_n 1, 1) := by decide +kernel
theorem dX7_step_1 : decode cX7_step 1 = .ok (.iconst 0, 1) := by decide +kernel
theorem dX7_step_2 : decode cX7_step 2 = .ok (.iconst 3, 1) := by decide +kernel
theorem dX7_step_3 : decode cX7_step 3 = .ok (.invokestatic 47, 3) := by decide +kernel
theorem dX7_step_6 : decode cX7_step 6 = .ok (.ifCond .ne 6, 3) := by decide +kernel
theorem dX7_step_9 : decode cX7_step 9 = .ok (.bipush (-102), 2) := by decide +kernel
theorem dX7_step_11 : decode cX7_step 11 = .ok (.ireturn, 1) := by decide +kernel
theorem dX7_step_12 : decode cX7_step 12 = .ok (.aload_n 0, 1) := by decide +kernel
theorem dX7_step_13 : decode cX7_step 13 = .ok (.aload_n 0, 1) := by decide +kernel
theorem dX7_step_14 : decode cX7_step 14 = .ok (.getfield 82, 3) := by decide +kernel
theorem dX7_step_17 : decode cX7_step 17 = .ok (.iload_n 1, 1) := by decide +kernel
theorem dX7_step_18 : decode cX7_step 18 = .ok (.iadd, 1) := by decide +kernel
theorem dX7_step_19 : decode cX7_step 19 = .ok (.invokevirtual 104, 3) := by decide +kernel
theorem dX7_step_22 : decode cX7_step 22 = .ok (.ifCond .ne 6, 3) := by decide +kernel
theorem dX7_step_25 : decode cX7_step 25 = .ok (.bipush (-103), 2) := by decide +kernel
theorem dX7_step_27 : decode cX7_step 27 = .ok (.ireturn, 1) := by decide +kernel
theorem dX7_step_28 : decode cX7_step 28 = .ok (.aload_n 0, 1) := by decide +kernel
theorem dX7_step_29 : decode cX7_step 29 = .ok (.dup, 1) := by decide +kernel
theorem dX7_step_30 : decode cX7_step 30 = .ok (.getfield 88, 3) := by decide +kernel
theorem dX7_step_33 : decode cX7_step 33 = .ok (.iconst 1, 1) := by decide +kernel
theorem dX7_step_34 : decode cX7_step 34 = .ok (.iadd, 1) := by decide +kernel
theorem dX7_step_35 : decode cX7_step 35 = .ok (.putfield 88, 3) := by decide +kernel
theorem dX7_step_38 : decode cX7_step 38 = .ok (.aload_n 0, 1) := by decide +kernel
theorem dX7_step_39 : decode cX7_step 39 = .ok (.iload_n 1, 1) := by decide +kernel
theorem dX7_step_40 : decode cX7_step 40 = .ok (.invokevirtual 115, 3) := by decide +kernel
theorem dX7_step_43 : decode cX7_step 43 = .ok (.ifCond .eq 8, 3) := by decide +kernel
theorem dX7_step_46 : decode cX7_step 46 = .ok (.aload_n 0, 1) := by decide +kernel
theorem dX7_step_47 : decode cX7_step 47 = .ok (.getfield 82, 3) := by decide +kernel
theorem dX7_step_50 : decode cX7_step 50 = .ok (.ireturn, 1) := by decide +kernel
theorem dX7_step_51 : decode cX7_step 51 = .ok (.aload_n 0, 1) := by decide +kernel
theorem dX7_step_52 : decode cX7_step 52 = .ok (.dup, 1) := by decide +kernel
theorem dX7_step_53 : decode cX7_step 53 = .ok (.getfield 91, 3) := by decide +kernel
theorem dX7_step_56 : decode cX7_step 56 = .ok (.iconst 1, 1) := by decide +kernel
theorem dX7_step_57 : decode cX7_step 57 = .ok (.iadd, 1) := by decide +kernel
theorem dX7_step_58 : decode cX7_step 58 = .ok (.putfield 91, 3) := by decide +kernel
theorem dX7_step_61 : decode cX7_step 61 = .ok (.iconst (-1), 1) := by decide +kernel
theorem dX7_step_62 : decode cX7_step 62 = .ok (.ireturn, 1) := by decide +kernel
theorem dX7_would_0 : decode cX7_would 0 = .ok (.iload_n 1, 1) := by decide +kernel
theorem dX7_would_1 : decode cX7_would 1 = .ok (.iconst 0, 1) := by decide +kernel
theorem dX7_would_2 : decode cX7_would 2 = .ok (.iconst 3, 1) := by decide +kernel
theorem dX7_would_3 : decode cX7_would 3 = .ok (.invokestatic 47, 3) := by decide +kernel
theorem dX7_would_6 : decode cX7_would 6 = .ok (.ifCond .ne 6, 3) := by decide +kernel
theorem dX7_would_9 : decode cX7_would 9 = .ok (.bipush (-102), 2) := by decide +kernel
theorem dX7_would_11 : decode cX7_would 11 = .ok (.ireturn, 1) := by decide +kernel
theorem dX7_would_12 : decode cX7_would 12 = .ok (.aload_n 0, 1) := by decide +kernel
theorem dX7_would_13 : decode cX7_would 13 = .ok (.aload_n 0, 1) := by decide +kernel
theorem dX7_would_14 : decode cX7_would 14 = .ok (.getfield 82, 3) := by decide +kernel
theorem dX7_would_17 : decode cX7_would 17 = .ok (.iload_n 1, 1) := by decide +kernel
theorem dX7_would_18 : decode cX7_would 18 = .ok (.iadd, 1) := by decide +kernel
theorem dX7_would_19 : decode cX7_would 19 = .ok (.invokevirtual 104, 3) := by decide +kernel
theorem dX7_would_22 : decode cX7_would 22 = .ok (.ifCond .eq 21, 3) := by decide +kernel
theorem dX7_would_25 : decode cX7_would 25 = .ok (.aload_n 0, 1) := by decide +kernel
theorem dX7_would_26 : decode cX7_would 26 = .ok (.aload_n 0, 1) := by decide +kernel
theorem dX7_would_27 : decode cX7_would 27 = .ok (.getfield 82, 3) := by decide +kernel
theorem dX7_would_30 : decode cX7_would 30 = .ok (.iload_n 1, 1) := by decide +kernel
theorem dX7_would_31 : decode cX7_would 31 = .ok (.iadd, 1) := by decide +kernel
theorem dX7_would_32 : decode cX7_would 32 = .ok (.iload_n 1, 1) := by decide +kernel
theorem dX7_would_33 : decode cX7_would 33 = .ok (.aload_n 0, 1) := by decide +kernel
theorem dX7_would_34 : decode cX7_would 34 = .ok (.getfield 85, 3) := by decide +kernel
theorem dX7_would_37 : decode cX7_would 37 = .ok (.invokevirtual 97, 3) := by decide +kernel
theorem dX7_would_40 : decode cX7_would 40 = .ok (.goto 5, 3) := by decide +kernel
theorem dX7_would_43 : decode cX7_would 43 = .ok (.bipush (-103), 2) := by decide +kernel
theorem dX7_would_45 : decode cX7_would 45 = .ok (.ireturn, 1) := by decide +kernel
theorem dX7_fewBy_0 : decode cX7_fewBy 0 = .ok (.aload_n 0, 1) := by decide +kernel
theorem dX7_fewBy_1 : decode cX7_fewBy 1 = .ok (.iload_n 1, 1) := by decide +kernel
theorem dX7_fewBy_2 : decode cX7_fewBy 2 = .ok (.iload_n 3, 1) := by decide +kernel
theorem dX7_fewBy_3 : decode cX7_fewBy 3 = .ok (.iadd, 1) := by decide +kernel
theorem dX7_fewBy_4 : decode cX7_fewBy 4 = .ok (.invokevirtual 104, 3) := by decide +kernel
theorem dX7_fewBy_7 : decode cX7_fewBy 7 = .ok (.ifCond .ne 6, 3) := by decide +kernel
theorem dX7_fewBy_10 : decode cX7_fewBy 10 = .ok (.ldc 118, 2) := by decide +kernel
theorem dX7_fewBy_12 : decode cX7_fewBy 12 = .ok (.ireturn, 1) := by decide +kernel
theorem dX7_fewBy_13 : decode cX7_fewBy 13 = .ok (.aload_n 0, 1) := by decide +kernel
theorem dX7_fewBy_14 : decode cX7_fewBy 14 = .ok (.iload_n 1, 1) := by decide +kernel
theorem dX7_fewBy_15 : decode cX7_fewBy 15 = .ok (.iload_n 3, 1) := by decide +kernel
theorem dX7_fewBy_16 : decode cX7_fewBy 16 = .ok (.iadd, 1) := by decide +kernel
theorem dX7_fewBy_17 : decode cX7_fewBy 17 = .ok (.iload_n 3, 1) := by decide +kernel
theorem dX7_fewBy_18 : decode cX7_fewBy 18 = .ok (.iload_n 2, 1) := by decide +kernel
theorem dX7_fewBy_19 : decode cX7_fewBy 19 = .ok (.invokevirtual 97, 3) := by decide +kernel
theorem dX7_fewBy_22 : decode cX7_fewBy 22 = .ok (.istore 5, 2) := by decide +kernel
theorem dX7_fewBy_24 : decode cX7_fewBy 24 = .ok (.iload 5, 2) := by decide +kernel
theorem dX7_fewBy_26 : decode cX7_fewBy 26 = .ok (.iload 4, 2) := by decide +kernel
theorem dX7_fewBy_28 : decode cX7_fewBy 28 = .ok (.if_icmp .le 8, 3) := by decide +kernel
theorem dX7_fewBy_31 : decode cX7_fewBy 31 = .ok (.ldc 118, 2) := by decide +kernel
theorem dX7_fewBy_33 : decode cX7_fewBy 33 = .ok (.goto 19, 3) := by decide +kernel
theorem dX7_fewBy_36 : decode cX7_fewBy 36 = .ok (.aload_n 0, 1) := by decide +kernel
theorem dX7_fewBy_37 : decode cX7_fewBy 37 = .ok (.getfield 29, 3) := by decide +kernel
theorem dX7_fewBy_40 : decode cX7_fewBy 40 = .ok (.bipush 12, 2) := by decide +kernel
theorem dX7_fewBy_42 : decode cX7_fewBy 42 = .ok (.iload_n 1, 1) := by decide +kernel
theorem dX7_fewBy_43 : decode cX7_fewBy 43 = .ok (.iload_n 3, 1) := by decide +kernel
theorem dX7_fewBy_44 : decode cX7_fewBy 44 = .ok (.iadd, 1) := by decide +kernel
theorem dX7_fewBy_45 : decode cX7_fewBy 45 = .ok (.imul, 1) := by decide +kernel
theorem dX7_fewBy_46 : decode cX7_fewBy 46 = .ok (.iload 5, 2) := by decide +kernel
theorem dX7_fewBy_48 : decode cX7_fewBy 48 = .ok (.iadd, 1) := by decide +kernel
theorem dX7_fewBy_49 : decode cX7_fewBy 49 = .ok (.iaload, 1) := by decide +kernel
theorem dX7_fewBy_50 : decode cX7_fewBy 50 = .ok (.iconst 1, 1) := by decide +kernel
theorem dX7_fewBy_51 : decode cX7_fewBy 51 = .ok (.iadd, 1) := by decide +kernel
theorem dX7_fewBy_52 : decode cX7_fewBy 52 = .ok (.ireturn, 1) := by decide +kernel
theorem dX7_isShorter_0 : decode cX7_isShorter 0 = .ok (.aload_n 0, 1) := by decide +kernel
theorem dX7_isShorter_1 : decode cX7_isShorter 1 = .ok (.getfield 29, 3) := by decide +kernel
theorem dX7_isShorter_4 : decode cX7_isShorter 4 = .ok (.bipush 12, 2) := by decide +kernel
theorem dX7_isShorter_6 : decode cX7_isShorter 6 = .ok (.iload_n 1, 1) := by decide +kernel
theorem dX7_isShorter_7 : decode cX7_isShorter 7 = .ok (.imul, 1) := by decide +kernel
theorem dX7_isShorter_8 : decode cX7_isShorter 8 = .ok (.iload_n 2, 1) := by decide +kernel
theorem dX7_isShorter_9 : decode cX7_isShorter 9 = .ok (.iadd, 1) := by decide +kernel
theorem dX7_isShorter_10 : decode cX7_isShorter 10 = .ok (.iaload, 1) := by decide +kernel
theorem dX7_isShorter_11 : decode cX7_isShorter 11 = .ok (.istore 4, 2) := by decide +kernel
theorem dX7_isShorter_13 : decode cX7_isShorter 13 = .ok (.iconst 0, 1) := by decide +kernel
theorem dX7_isShorter_14 : decode cX7_isShorter 14 = .ok (.istore 5, 2) := by decide +kernel
theorem dX7_isShorter_16 : decode cX7_isShorter 16 = .ok (.iload 5, 2) := by decide +kernel
theorem dX7_isShorter_18 : decode cX7_isShorter 18 = .ok (.iconst 3, 1) := by decide +kernel
theorem dX7_isShorter_19 : decode cX7_isShorter 19 = .ok (.if_icmp .gt 63, 3) := by decide +kernel
theorem dX7_isShorter_22 : decode cX7_isShorter 22 = .ok (.aload_n 0, 1) := by decide +kernel
theorem dX7_isShorter_23 : decode cX7_isShorter 23 = .ok (.iload_n 1, 1) := by decide +kernel
theorem dX7_isShorter_24 : decode cX7_isShorter 24 = .ok (.iload_n 2, 1) := by decide +kernel
theorem dX7_isShorter_25 : decode cX7_isShorter 25 = .ok (.iload 5, 2) := by decide +kernel
theorem dX7_isShorter_27 : decode cX7_isShorter 27 = .ok (.iload_n 3, 1) := by decide +kernel
theorem dX7_isShorter_28 : decode cX7_isShorter 28 = .ok (.invokevirtual 119, 3) := by decide +kernel
theorem dX7_isShorter_31 : decode cX7_isShorter 31 = .ok (.istore 6, 2) := by decide +kernel
theorem dX7_isShorter_33 : decode cX7_isShorter 33 = .ok (.aload_n 0, 1) := by decide +kernel
theorem dX7_isShorter_34 : decode cX7_isShorter 34 = .ok (.getfield 29, 3) := by decide +kernel
theorem dX7_isShorter_37 : decode cX7_isShorter 37 = .ok (.bipush 12, 2) := by decide +kernel
theorem dX7_isShorter_39 : decode cX7_isShorter 39 = .ok (.iload_n 1, 1) := by decide +kernel
theorem dX7_isShorter_40 : decode cX7_isShorter 40 = .ok (.imul, 1) := by decide +kernel
theorem dX7_isShorter_41 : decode cX7_isShorter 41 = .ok (.iload_n 2, 1) := by decide +kernel
theorem dX7_isShorter_42 : decode cX7_isShorter 42 = .ok (.iadd, 1) := by decide +kernel
theorem dX7_isShorter_43 : decode cX7_isShorter 43 = .ok (.iload 6, 2) := by decide +kernel
theorem dX7_isShorter_45 : decode cX7_isShorter 45 = .ok (.aload_n 0, 1) := by decide +kernel
theorem dX7_isShorter_46 : decode cX7_isShorter 46 = .ok (.getfield 29, 3) := by decide +kernel
theorem dX7_isShorter_49 : decode cX7_isShorter 49 = .ok (.bipush 12, 2) := by decide +kernel
theorem dX7_isShorter_51 : decode cX7_isShorter 51 = .ok (.iload_n 1, 1) := by decide +kernel
theorem dX7_isShorter_52 : decode cX7_isShorter 52 = .ok (.imul, 1) := by decide +kernel
theorem dX7_isShorter_53 : decode cX7_isShorter 53 = .ok (.iload_n 2, 1) := by decide +kernel
theorem dX7_isShorter_54 : decode cX7_isShorter 54 = .ok (.iadd, 1) := by decide +kernel
theorem dX7_isShorter_55 : decode cX7_isShorter 55 = .ok (.iaload, 1) := by decide +kernel
theorem dX7_isShorter_56 : decode cX7_isShorter 56 = .ok (.if_icmp .ge 8, 3) := by decide +kernel
theorem dX7_isShorter_59 : decode cX7_isShorter 59 = .ok (.iload 6, 2) := by decide +kernel
theorem dX7_isShorter_61 : decode cX7_isShorter 61 = .ok (.goto 14, 3) := by decide +kernel
theorem dX7_isShorter_64 : decode cX7_isShorter 64 = .ok (.aload_n 0, 1) := by decide +kernel
theorem dX7_isShorter_65 : decode cX7_isShorter 65 = .ok (.getfield 29, 3) := by decide +kernel
theorem dX7_isShorter_68 : decode cX7_isShorter 68 = .ok (.bipush 12, 2) := by decide +kernel
theorem dX7_isShorter_70 : decode cX7_isShorter 70 = .ok (.iload_n 1, 1) := by decide +kernel
theorem dX7_isShorter_71 : decode cX7_isShorter 71 = .ok (.imul, 1) := by decide +kernel
theorem dX7_isShorter_72 : decode cX7_isShorter 72 = .ok (.iload_n 2, 1) := by decide +kernel
theorem dX7_isShorter_73 : decode cX7_isShorter 73 = .ok (.iadd, 1) := by decide +kernel
theorem dX7_isShorter_74 : decode cX7_isShorter 74 = .ok (.iaload, 1) := by decide +kernel
theorem dX7_isShorter_75 : decode cX7_isShorter 75 = .ok (.iastore, 1) := by decide +kernel
theorem dX7_isShorter_76 : decode cX7_isShorter 76 = .ok (.iinc 5 1, 3) := by decide +kernel
theorem dX7_isShorter_79 : decode cX7_isShorter 79 = .ok (.goto (-63), 3) := by decide +kernel
theorem dX7_isShorter_82 : decode cX7_isShorter 82 = .ok (.aload_n 0, 1) := by decide +kernel
theorem dX7_isShorter_83 : decode cX7_isShorter 83 = .ok (.getfield 29, 3) := by decide +kernel
theorem dX7_isShorter_86 : decode cX7_isShorter 86 = .ok (.bipush 12, 2) := by decide +kernel
theorem dX7_isShorter_88 : decode cX7_isShorter 88 = .ok (.iload_n 1, 1) := by decide +kernel
theorem dX7_isShorter_89 : decode cX7_isShorter 89 = .ok (.imul, 1) := by decide +kernel
theorem dX7_isShorter_90 : decode cX7_isShorter 90 = .ok (.iload_n 2, 1) := by decide +kernel
theorem dX7_isShorter_91 : decode cX7_isShorter 91 = .ok (.iadd, 1) := by decide +kernel
theorem dX7_isShorter_92 : decode cX7_isShorter 92 = .ok (.iaload, 1) := by decide +kernel
theorem dX7_isShorter_93 : decode cX7_isShorter 93 = .ok (.iload 4, 2) := by decide +kernel
theorem dX7_isShorter_95 : decode cX7_isShorter 95 = .ok (.if_icmp .ge 7, 3) := by decide +kernel
theorem dX7_isShorter_98 : decode cX7_isShorter 98 = .ok (.iconst 1, 1) := by decide +kernel
theorem dX7_isShorter_99 : decode cX7_isShorter 99 = .ok (.goto 4, 3) := by decide +kernel
theorem dX7_isShorter_102 : decode cX7_isShorter 102 = .ok (.iconst 0, 1) := by decide +kernel
theorem dX7_isShorter_103 : decode cX7_isShorter 103 = .ok (.ireturn, 1) := by decide +kernel
theorem dX7_layFew_0 : decode cX7_layFew 0 = .ok (.iconst 0, 1) := by decide +kernel
theorem dX7_layFew_1 : decode cX7_layFew 1 = .ok (.istore_n 2, 1) := by decide +kernel
theorem dX7_layFew_2 : decode cX7_layFew 2 = .ok (.iload_n 2, 1) := by decide +kernel
theorem dX7_layFew_3 : decode cX7_layFew 3 = .ok (.sipush 144, 3) := by decide +kernel
theorem dX7_layFew_6 : decode cX7_layFew 6 = .ok (.if_icmp .ge 34, 3) := by decide +kernel
theorem dX7_layFew_9 : decode cX7_layFew 9 = .ok (.aload_n 0, 1) := by decide +kernel
theorem dX7_layFew_10 : decode cX7_layFew 10 = .ok (.getfield 29, 3) := by decide +kernel
theorem dX7_layFew_13 : decode cX7_layFew 13 = .ok (.iload_n 2, 1) := by decide +kernel
theorem dX7_layFew_14 : decode cX7_layFew 14 = .ok (.iload_n 2, 1) := by decide +kernel
theorem dX7_layFew_15 : decode cX7_layFew 15 = .ok (.bipush 12, 2) := by decide +kernel
theorem dX7_layFew_17 : decode cX7_layFew 17 = .ok (.idiv, 1) := by decide +kernel
theorem dX7_layFew_18 : decode cX7_layFew 18 = .ok (.aload_n 0, 1) := by decide +kernel
theorem dX7_layFew_19 : decode cX7_layFew 19 = .ok (.getfield 73, 3) := by decide +kernel
theorem dX7_layFew_22 : decode cX7_layFew 22 = .ok (.iconst 1, 1) := by decide +kernel
theorem dX7_layFew_23 : decode cX7_layFew 23 = .ok (.isub, 1) := by decide +kernel
theorem dX7_layFew_24 : decode cX7_layFew 24 = .ok (.if_icmp .ne 7, 3) := by decide +kernel
theorem dX7_layFew_27 : decode cX7_layFew 27 = .ok (.iconst 0, 1) := by decide +kernel
theorem dX7_layFew_28 : decode cX7_layFew 28 = .ok (.goto 5, 3) := by decide +kernel
theorem dX7_layFew_31 : decode cX7_layFew 31 = .ok (.ldc 118, 2) := by decide +kernel
theorem dX7_layFew_33 : decode cX7_layFew 33 = .ok (.iastore, 1) := by decide +kernel
theorem dX7_layFew_34 : decode cX7_layFew 34 = .ok (.iinc 2 1, 3) := by decide +kernel
theorem dX7_layFew_37 : decode cX7_layFew 37 = .ok (.goto (-35), 3) := by decide +kernel
theorem dX7_layFew_40 : decode cX7_layFew 40 = .ok (.iconst 1, 1) := by decide +kernel
theorem dX7_layFew_41 : decode cX7_layFew 41 = .ok (.istore_n 2, 1) := by decide +kernel
theorem dX7_layFew_42 : decode cX7_layFew 42 = .ok (.iload_n 2, 1) := by decide +kernel
theorem dX7_layFew_43 : decode cX7_layFew 43 = .ok (.ifCond .eq 67, 3) := by decide +kernel
theorem dX7_layFew_46 : decode cX7_layFew 46 = .ok (.iconst 0, 1) := by decide +kernel
theorem dX7_layFew_47 : decode cX7_layFew 47 = .ok (.istore_n 2, 1) := by decide +kernel
theorem dX7_layFew_48 : decode cX7_layFew 48 = .ok (.aload_n 0, 1) := by decide +kernel
theorem dX7_layFew_49 : decode cX7_layFew 49 = .ok (.getfield 73, 3) := by decide +kernel
theorem dX7_layFew_52 : decode cX7_layFew 52 = .ok (.iconst 2, 1) := by decide +kernel
theorem dX7_layFew_53 : decode cX7_layFew 53 = .ok (.isub, 1) := by decide +kernel
theorem dX7_layFew_54 : decode cX7_layFew 54 = .ok (.istore_n 3, 1) := by decide +kernel
theorem dX7_layFew_55 : decode cX7_layFew 55 = .ok (.iload_n 3, 1) := by decide +kernel
theorem dX7_layFew_56 : decode cX7_layFew 56 = .ok (.ifCond .lt 51, 3) := by decide +kernel
theorem dX7_layFew_59 : decode cX7_layFew 59 = .ok (.iconst 0, 1) := by decide +kernel
theorem dX7_layFew_60 : decode cX7_layFew 60 = .ok (.istore 4, 2) := by decide +kernel
theorem dX7_layFew_62 : decode cX7_layFew 62 = .ok (.iload 4, 2) := by decide +kernel
theorem dX7_layFew_64 : decode cX7_layFew 64 = .ok (.iload_n 1, 1) := by decide +kernel
theorem dX7_layFew_65 : decode cX7_layFew 65 = .ok (.invokestatic 112, 3) := by decide +kernel
theorem dX7_layFew_68 : decode cX7_layFew 68 = .ok (.if_icmp .gt 33, 3) := by decide +kernel
theorem dX7_layFew_71 : decode cX7_layFew 71 = .ok (.aload_n 0, 1) := by decide +kernel
theorem dX7_layFew_72 : decode cX7_layFew 72 = .ok (.iload_n 3, 1) := by decide +kernel
theorem dX7_layFew_73 : decode cX7_layFew 73 = .ok (.iload 4, 2) := by decide +kernel
theorem dX7_layFew_75 : decode cX7_layFew 75 = .ok (.iload_n 1, 1) := by decide +kernel
theorem dX7_layFew_76 : decode cX7_layFew 76 = .ok (.invokestatic 112, 3) := by decide +kernel
theorem dX7_layFew_79 : decode cX7_layFew 79 = .ok (.invokevirtual 123, 3) := by decide +kernel
theorem dX7_layFew_82 : decode cX7_layFew 82 = .ok (.ifCond .ne 7, 3) := by decide +kernel
theorem dX7_layFew_85 : decode cX7_layFew 85 = .ok (.iload_n 2, 1) := by decide +kernel
theorem dX7_layFew_86 : decode cX7_layFew 86 = .ok (.ifCond .eq 7, 3) := by decide +kernel
theorem dX7_layFew_89 : decode cX7_layFew 89 = .ok (.iconst 1, 1) := by decide +kernel
theorem dX7_layFew_90 : decode cX7_layFew 90 = .ok (.goto 4, 3) := by decide +kernel
theorem dX7_layFew_93 : decode cX7_layFew 93 = .ok (.iconst 0, 1) := by decide +kernel
theorem dX7_layFew_94 : decode cX7_layFew 94 = .ok (.istore_n 2, 1) := by decide +kernel
theorem dX7_layFew_95 : decode cX7_layFew 95 = .ok (.iinc 4 1, 3) := by decide +kernel
theorem dX7_layFew_98 : decode cX7_layFew 98 = .ok (.goto (-36), 3) := by decide +kernel
theorem dX7_layFew_101 : decode cX7_layFew 101 = .ok (.iinc 3 (-1), 3) := by decide +kernel
theorem dX7_layFew_104 : decode cX7_layFew 104 = .ok (.goto (-49), 3) := by decide +kernel
theorem dX7_layFew_107 : decode cX7_layFew 107 = .ok (.goto (-65), 3) := by decide +kernel
theorem dX7_layFew_110 : decode cX7_layFew 110 = .ok (.return_, 1) := by decide +kernel
theorem dX7_fewWith_0 : decode cX7_fewWith 0 = .ok (.aload_n 0, 1) := by decide +kernel
theorem dX7_fewWith_1 : decode cX7_fewWith 1 = .ok (.iload_n 1, 1) := by decide +kernel
theorem dX7_fewWith_2 : decode cX7_fewWith 2 = .ok (.invokevirtual 126, 3) := by decide +kernel
theorem dX7_fewWith_5 : decode cX7_fewWith 5 = .ok (.aload_n 0, 1) := by decide +kernel
theorem dX7_fewWith_6 : decode cX7_fewWith 6 = .ok (.getfield 29, 3) := by decide +kernel
theorem dX7_fewWith_9 : decode cX7_fewWith 9 = .ok (.iconst 0, 1) := by decide +kernel
theorem dX7_fewWith_10 : decode cX7_fewWith 10 = .ok (.iaload, 1) := by decide +kernel
theorem dX7_fewWith_11 : decode cX7_fewWith 11 = .ok (.bipush 40, 2) := by decide +kernel
theorem dX7_fewWith_13 : decode cX7_fewWith 13 = .ok (.if_icmp .le 8, 3) := by decide +kernel
theorem dX7_fewWith_16 : decode cX7_fewWith 16 = .ok (.ldc 118, 2) := by decide +kernel
theorem dX7_fewWith_18 : decode cX7_fewWith 18 = .ok (.goto 9, 3) := by decide +kernel
theorem dX7_fewWith_21 : decode cX7_fewWith 21 = .ok (.aload_n 0, 1) := by decide +kernel
theorem dX7_fewWith_22 : decode cX7_fewWith 22 = .ok (.getfield 29, 3) := by decide +kernel
theorem dX7_fewWith_25 : decode cX7_fewWith 25 = .ok (.iconst 0, 1) := by decide +kernel
theorem dX7_fewWith_26 : decode cX7_fewWith 26 = .ok (.iaload, 1) := by decide +kernel
theorem dX7_fewWith_27 : decode cX7_fewWith 27 = .ok (.ireturn, 1) := by decide +kernel
theorem dX7_quickNow_0 : decode cX7_quickNow 0 = .ok (.aload_n 0, 1) := by decide +kernel
theorem dX7_quickNow_1 : decode cX7_quickNow 1 = .ok (.aload_n 0, 1) := by decide +kernel
theorem dX7_quickNow_2 : decode cX7_quickNow 2 = .ok (.getfield 76, 3) := by decide +kernel
theorem dX7_quickNow_5 : decode cX7_quickNow 5 = .ok (.invokevirtual 126, 3) := by decide +kernel
theorem dX7_quickNow_8 : decode cX7_quickNow 8 = .ok (.aload_n 0, 1) := by decide +kernel
theorem dX7_quickNow_9 : decode cX7_quickNow 9 = .ok (.getfield 29, 3) := by decide +kernel
theorem dX7_quickNow_12 : decode cX7_quickNow 12 = .ok (.bipush 12, 2) := by decide +kernel
theorem dX7_quickNow_14 : decode cX7_quickNow 14 = .ok (.aload_n 0, 1) := by decide +kernel
theorem dX7_quickNow_15 : decode cX7_quickNow 15 = .ok (.getfield 82, 3) := by decide +kernel
theorem dX7_quickNow_18 : decode cX7_quickNow 18 = .ok (.imul, 1) := by decide +kernel
theorem dX7_quickNow_19 : decode cX7_quickNow 19 = .ok (.aload_n 0, 1) := by decide +kernel
theorem dX7_quickNow_20 : decode cX7_quickNow 20 = .ok (.getfield 85, 3) := by decide +kernel
theorem dX7_quickNow_23 : decode cX7_quickNow 23 = .ok (.iadd, 1) := by decide +kernel
theorem dX7_quickNow_24 : decode cX7_quickNow 24 = .ok (.iaload, 1) := by decide +kernel
theorem dX7_quickNow_25 : decode cX7_quickNow 25 = .ok (.istore_n 2, 1) := by decide +kernel
theorem dX7_quickNow_26 : decode cX7_quickNow 26 = .ok (.iload_n 2, 1) := by decide +kernel
theorem dX7_quickNow_27 : decode cX7_quickNow 27 = .ok (.bipush 40, 2) := by decide +kernel
theorem dX7_quickNow_29 : decode cX7_quickNow 29 = .ok (.if_icmp .gt 7, 3) := by decide +kernel
theorem dX7_quickNow_32 : decode cX7_quickNow 32 = .ok (.iload_n 1, 1) := by decide +kernel
theorem dX7_quickNow_33 : decode cX7_quickNow 33 = .ok (.ifCond .ne 15, 3) := by decide +kernel
theorem dX7_quickNow_36 : decode cX7_quickNow 36 = .ok (.iload_n 2, 1) := by decide +kernel
theorem dX7_quickNow_37 : decode cX7_quickNow 37 = .ok (.bipush 40, 2) := by decide +kernel
theorem dX7_quickNow_39 : decode cX7_quickNow 39 = .ok (.if_icmp .le 7, 3) := by decide +kernel
theorem dX7_quickNow_42 : decode cX7_quickNow 42 = .ok (.iconst (-1), 1) := by decide +kernel
theorem dX7_quickNow_43 : decode cX7_quickNow 43 = .ok (.goto 4, 3) := by decide +kernel
theorem dX7_quickNow_46 : decode cX7_quickNow 46 = .ok (.iload_n 2, 1) := by decide +kernel
theorem dX7_quickNow_47 : decode cX7_quickNow 47 = .ok (.ireturn, 1) := by decide +kernel
theorem dX7_quickNow_48 : decode cX7_quickNow 48 = .ok (.aload_n 0, 1) := by decide +kernel
theorem dX7_quickNow_49 : decode cX7_quickNow 49 = .ok (.getfield 82, 3) := by decide +kernel
theorem dX7_quickNow_52 : decode cX7_quickNow 52 = .ok (.istore_n 3, 1) := by decide +kernel
theorem dX7_quickNow_53 : decode cX7_quickNow 53 = .ok (.aload_n 0, 1) := by decide +kernel
theorem dX7_quickNow_54 : decode cX7_quickNow 54 = .ok (.getfield 85, 3) := by decide +kernel
theorem dX7_quickNow_57 : decode cX7_quickNow 57 = .ok (.istore 4, 2) := by decide +kernel
theorem dX7_quickNow_59 : decode cX7_quickNow 59 = .ok (.iconst (-1), 1) := by decide +kernel
theorem dX7_quickNow_60 : decode cX7_quickNow 60 = .ok (.istore 5, 2) := by decide +kernel
theorem dX7_quickNow_62 : decode cX7_quickNow 62 = .ok (.iconst 0, 1) := by decide +kernel
theorem dX7_quickNow_63 : decode cX7_quickNow 63 = .ok (.istore 6, 2) := by decide +kernel
theorem dX7_quickNow_65 : decode cX7_quickNow 65 = .ok (.iload 6, 2) := by decide +kernel
theorem dX7_quickNow_67 : decode cX7_quickNow 67 = .ok (.iload_n 1, 1) := by decide +kernel
theorem dX7_quickNow_68 : decode cX7_quickNow 68 = .ok (.bipush 10, 2) := by decide +kernel
theorem dX7_quickNow_70 : decode cX7_quickNow 70 = .ok (.isub, 1) := by decide +kernel
theorem dX7_quickNow_71 : decode cX7_quickNow 71 = .ok (.if_icmp .gt 78, 3) := by decide +kernel
theorem dX7_quickNow_74 : decode cX7_quickNow 74 = .ok (.iload_n 3, 1) := by decide +kernel
theorem dX7_quickNow_75 : decode cX7_quickNow 75 = .ok (.aload_n 0, 1) := by decide +kernel
theorem dX7_quickNow_76 : decode cX7_quickNow 76 = .ok (.getfield 73, 3) := by decide +kernel
theorem dX7_quickNow_79 : decode cX7_quickNow 79 = .ok (.iconst 1, 1) := by decide +kernel
theorem dX7_quickNow_80 : decode cX7_quickNow 80 = .ok (.isub, 1) := by decide +kernel
theorem dX7_quickNow_81 : decode cX7_quickNow 81 = .ok (.if_icmp .ge 68, 3) := by decide +kernel
theorem dX7_quickNow_84 : decode cX7_quickNow 84 = .ok (.iconst 0, 1) := by decide +kernel
theorem dX7_quickNow_85 : decode cX7_quickNow 85 = .ok (.istore 5, 2) := by decide +kernel
theorem dX7_quickNow_87 : decode cX7_quickNow 87 = .ok (.aload_n 0, 1) := by decide +kernel
theorem dX7_quickNow_88 : decode cX7_quickNow 88 = .ok (.iload_n 3, 1) := by decide +kernel
theorem dX7_quickNow_89 : decode cX7_quickNow 89 = .ok (.iload 4, 2) := by decide +kernel
theorem dX7_quickNow_91 : decode cX7_quickNow 91 = .ok (.iload 5, 2) := by decide +kernel
theorem dX7_quickNow_93 : decode cX7_quickNow 93 = .ok (.aload_n 0, 1) := by decide +kernel
theorem dX7_quickNow_94 : decode cX7_quickNow 94 = .ok (.getfield 76, 3) := by decide +kernel
theorem dX7_quickNow_97 : decode cX7_quickNow 97 = .ok (.invokestatic 112, 3) := by decide +kernel
theorem dX7_quickNow_100 : decode cX7_quickNow 100 = .ok (.invokevirtual 119, 3) := by decide +kernel
theorem dX7_quickNow_103 : decode cX7_quickNow 103 = .ok (.aload_n 0, 1) := by decide +kernel
theorem dX7_quickNow_104 : decode cX7_quickNow 104 = .ok (.getfield 29, 3) := by decide +kernel
theorem dX7_quickNow_107 : decode cX7_quickNow 107 = .ok (.bipush 12, 2) := by decide +kernel
theorem dX7_quickNow_109 : decode cX7_quickNow 109 = .ok (.iload_n 3, 1) := by decide +kernel
theorem dX7_quickNow_110 : decode cX7_quickNow 110 = .ok (.imul, 1) := by decide +kernel
theorem dX7_quickNow_111 : decode cX7_quickNow 111 = .ok (.iload 4, 2) := by decide +kernel
theorem dX7_quickNow_113 : decode cX7_quickNow 113 = .ok (.iadd, 1) := by decide +kernel
theorem dX7_quickNow_114 : decode cX7_quickNow 114 = .ok (.iaload, 1) := by decide +kernel
theorem dX7_quickNow_115 : decode cX7_quickNow 115 = .ok (.if_icmp .eq 9, 3) := by decide +kernel
theorem dX7_quickNow_118 : decode cX7_quickNow 118 = .ok (.iinc 5 1, 3) := by decide +kernel
theorem dX7_quickNow_121 : decode cX7_quickNow 121 = .ok (.goto (-34), 3) := by decide +kernel
theorem dX7_quickNow_124 : decode cX7_quickNow 124 = .ok (.aload_n 0, 1) := by decide +kernel
theorem dX7_quickNow_125 : decode cX7_quickNow 125 = .ok (.iload_n 3, 1) := by decide +kernel
theorem dX7_quickNow_126 : decode cX7_quickNow 126 = .ok (.iload 5, 2) := by decide +kernel
theorem dX7_quickNow_128 : decode cX7_quickNow 128 = .ok (.iadd, 1) := by decide +kernel
theorem dX7_quickNow_129 : decode cX7_quickNow 129 = .ok (.iload 5, 2) := by decide +kernel
theorem dX7_quickNow_131 : decode cX7_quickNow 131 = .ok (.iload 4, 2) := by decide +kernel
theorem dX7_quickNow_133 : decode cX7_quickNow 133 = .ok (.invokevirtual 97, 3) := by decide +kernel
theorem dX7_quickNow_136 : decode cX7_quickNow 136 = .ok (.istore 4, 2) := by decide +kernel
theorem dX7_quickNow_138 : decode cX7_quickNow 138 = .ok (.iload_n 3, 1) := by decide +kernel
theorem dX7_quickNow_139 : decode cX7_quickNow 139 = .ok (.iload 5, 2) := by decide +kernel
theorem dX7_quickNow_141 : decode cX7_quickNow 141 = .ok (.iadd, 1) := by decide +kernel
theorem dX7_quickNow_142 : decode cX7_quickNow 142 = .ok (.istore_n 3, 1) := by decide +kernel
theorem dX7_quickNow_143 : decode cX7_quickNow 143 = .ok (.iinc 6 1, 3) := by decide +kernel
theorem dX7_quickNow_146 : decode cX7_quickNow 146 = .ok (.goto (-81), 3) := by decide +kernel
theorem dX7_quickNow_149 : decode cX7_quickNow 149 = .ok (.iload_n 1, 1) := by decide +kernel
theorem dX7_quickNow_150 : decode cX7_quickNow 150 = .ok (.bipush 10, 2) := by decide +kernel
theorem dX7_quickNow_152 : decode cX7_quickNow 152 = .ok (.isub, 1) := by decide +kernel
theorem dX7_quickNow_153 : decode cX7_quickNow 153 = .ok (.iload_n 2, 1) := by decide +kernel
theorem dX7_quickNow_154 : decode cX7_quickNow 154 = .ok (.if_icmp .ge 8, 3) := by decide +kernel
theorem dX7_quickNow_157 : decode cX7_quickNow 157 = .ok (.iload 5, 2) := by decide +kernel
theorem dX7_quickNow_159 : decode cX7_quickNow 159 = .ok (.goto 4, 3) := by decide +kernel
theorem dX7_quickNow_162 : decode cX7_quickNow 162 = .ok (.iconst (-1), 1) := by decide +kernel
theorem dX7_quickNow_163 : decode cX7_quickNow 163 = .ok (.ireturn, 1) := by decide +kernel
theorem dX7_quick_0 : decode cX7_quick 0 = .ok (.iload_n 1, 1) := by decide +kernel
theorem dX7_quick_1 : decode cX7_quick 1 = .ok (.ifCond .eq 17, 3) := by decide +kernel
theorem dX7_quick_4 : decode cX7_quick 4 = .ok (.iload_n 1, 1) := by decide +kernel
theorem dX7_quick_5 : decode cX7_quick 5 = .ok (.bipush 10, 2) := by decide +kernel
theorem dX7_quick_7 : decode cX7_quick 7 = .ok (.bipush 13, 2) := by decide +kernel
theorem dX7_quick_9 : decode cX7_quick 9 = .ok (.invokestatic 47, 3) := by decide +kernel
theorem dX7_quick_12 : decode cX7_quick 12 = .ok (.ifCond .ne 6, 3) := by decide +kernel
theorem dX7_quick_15 : decode cX7_quick 15 = .ok (.bipush (-102), 2) := by decide +kernel
theorem dX7_quick_17 : decode cX7_quick 17 = .ok (.ireturn, 1) := by decide +kernel
theorem dX7_quick_18 : decode cX7_quick 18 = .ok (.aload_n 0, 1) := by decide +kernel
theorem dX7_quick_19 : decode cX7_quick 19 = .ok (.getfield 73, 3) := by decide +kernel
theorem dX7_quick_22 : decode cX7_quick 22 = .ok (.ifCond .eq 12, 3) := by decide +kernel
theorem dX7_quick_25 : decode cX7_quick 25 = .ok (.aload_n 0, 1) := by decide +kernel
theorem dX7_quick_26 : decode cX7_quick 26 = .ok (.getfield 130, 3) := by decide +kernel
theorem dX7_quick_29 : decode cX7_quick 29 = .ok (.bipush 40, 2) := by decide +kernel
theorem dX7_quick_31 : decode cX7_quick 31 = .ok (.if_icmp .ne 6, 3) := by decide +kernel
theorem dX7_quick_34 : decode cX7_quick 34 = .ok (.bipush (-103), 2) := by decide +kernel
theorem dX7_quick_36 : decode cX7_quick 36 = .ok (.ireturn, 1) := by decide +kernel
theorem dX7_quick_37 : decode cX7_quick 37 = .ok (.aload_n 0, 1) := by decide +kernel
theorem dX7_quick_38 : decode cX7_quick 38 = .ok (.dup, 1) := by decide +kernel
theorem dX7_quick_39 : decode cX7_quick 39 = .ok (.getfield 130, 3) := by decide +kernel
theorem dX7_quick_42 : decode cX7_quick 42 = .ok (.iconst 1, 1) := by decide +kernel
theorem dX7_quick_43 : decode cX7_quick 43 = .ok (.iadd, 1) := by decide +kernel
theorem dX7_quick_44 : decode cX7_quick 44 = .ok (.putfield 130, 3) := by decide +kernel
theorem dX7_quick_47 : decode cX7_quick 47 = .ok (.aload_n 0, 1) := by decide +kernel
theorem dX7_quick_48 : decode cX7_quick 48 = .ok (.iload_n 1, 1) := by decide +kernel
theorem dX7_quick_49 : decode cX7_quick 49 = .ok (.invokevirtual 133, 3) := by decide +kernel
theorem dX7_quick_52 : decode cX7_quick 52 = .ok (.ireturn, 1) := by decide +kernel
theorem dX7_highNow_0 : decode cX7_highNow 0 = .ok (.iconst (-1), 1) := by decide +kernel
theorem dX7_highNow_1 : decode cX7_highNow 1 = .ok (.istore_n 1, 1) := by decide +kernel
theorem dX7_highNow_2 : decode cX7_highNow 2 = .ok (.iconst 1, 1) := by decide +kernel
theorem dX7_highNow_3 : decode cX7_highNow 3 = .ok (.istore_n 2, 1) := by decide +kernel
theorem dX7_highNow_4 : decode cX7_highNow 4 = .ok (.iload_n 2, 1) := by decide +kernel
theorem dX7_highNow_5 : decode cX7_highNow 5 = .ok (.bipush 9, 2) := by decide +kernel
theorem dX7_highNow_7 : decode cX7_highNow 7 = .ok (.if_icmp .gt 25, 3) := by decide +kernel
theorem dX7_highNow_10 : decode cX7_highNow 10 = .ok (.aload_n 0, 1) := by decide +kernel
theorem dX7_highNow_11 : decode cX7_highNow 11 = .ok (.iload_n 2, 1) := by decide +kernel
theorem dX7_highNow_12 : decode cX7_highNow 12 = .ok (.invokevirtual 136, 3) := by decide +kernel
theorem dX7_highNow_15 : decode cX7_highNow 15 = .ok (.ldc 118, 2) := by decide +kernel
theorem dX7_highNow_17 : decode cX7_highNow 17 = .ok (.if_icmp .ne 7, 3) := by decide +kernel
theorem dX7_highNow_20 : decode cX7_highNow 20 = .ok (.iload_n 1, 1) := by decide +kernel
theorem dX7_highNow_21 : decode cX7_highNow 21 = .ok (.goto 4, 3) := by decide +kernel
theorem dX7_highNow_24 : decode cX7_highNow 24 = .ok (.iload_n 2, 1) := by decide +kernel
theorem dX7_highNow_25 : decode cX7_highNow 25 = .ok (.istore_n 1, 1) := by decide +kernel
theorem dX7_highNow_26 : decode cX7_highNow 26 = .ok (.iinc 2 1, 3) := by decide +kernel
theorem dX7_highNow_29 : decode cX7_highNow 29 = .ok (.goto (-25), 3) := by decide +kernel
theorem dX7_highNow_32 : decode cX7_highNow 32 = .ok (.iload_n 1, 1) := by decide +kernel
theorem dX7_highNow_33 : decode cX7_highNow 33 = .ok (.ireturn, 1) := by decide +kernel
theorem dX7_high_0 : decode cX7_high 0 = .ok (.aload_n 0, 1) := by decide +kernel
theorem dX7_high_1 : decode cX7_high 1 = .ok (.getfield 73, 3) := by decide +kernel
theorem dX7_high_4 : decode cX7_high 4 = .ok (.ifCond .ne 8, 3) := by decide +kernel
theorem dX7_high_7 : decode cX7_high 7 = .ok (.bipush (-103), 2) := by decide +kernel
theorem dX7_high_9 : decode cX7_high 9 = .ok (.goto 7, 3) := by decide +kernel
theorem dX7_high_12 : decode cX7_high 12 = .ok (.aload_n 0, 1) := by decide +kernel
theorem dX7_high_13 : decode cX7_high 13 = .ok (.invokevirtual 139, 3) := by decide +kernel
theorem dX7_high_16 : decode cX7_high 16 = .ok (.ireturn, 1) := by decide +kernel
theorem dX7_mendNow_0 : decode cX7_mendNow 0 = .ok (.iconst (-1), 1) := by decide +kernel
theorem dX7_mendNow_1 : decode cX7_mendNow 1 = .ok (.istore_n 2, 1) := by decide +kernel
theorem dX7_mendNow_2 : decode cX7_mendNow 2 = .ok (.aload_n 0, 1) := by decide +kernel
theorem dX7_mendNow_3 : decode cX7_mendNow 3 = .ok (.aload_n 0, 1) := by decide +kernel
theorem dX7_mendNow_4 : decode cX7_mendNow 4 = .ok (.getfield 76, 3) := by decide +kernel
theorem dX7_mendNow_7 : decode cX7_mendNow 7 = .ok (.invokevirtual 136, 3) := by decide +kernel
theorem dX7_mendNow_10 : decode cX7_mendNow 10 = .ok (.istore_n 3, 1) := by decide +kernel
theorem dX7_mendNow_11 : decode cX7_mendNow 11 = .ok (.iconst 0, 1) := by decide +kernel
theorem dX7_mendNow_12 : decode cX7_mendNow 12 = .ok (.istore 4, 2) := by decide +kernel
theorem dX7_mendNow_14 : decode cX7_mendNow 14 = .ok (.iload 4, 2) := by decide +kernel
theorem dX7_mendNow_16 : decode cX7_mendNow 16 = .ok (.aload_n 0, 1) := by decide +kernel
theorem dX7_mendNow_17 : decode cX7_mendNow 17 = .ok (.getfield 73, 3) := by decide +kernel
theorem dX7_mendNow_20 : decode cX7_mendNow 20 = .ok (.if_icmp .ge 71, 3) := by decide +kernel
theorem dX7_mendNow_23 : decode cX7_mendNow 23 = .ok (.aload_n 0, 1) := by decide +kernel
theorem dX7_mendNow_24 : decode cX7_mendNow 24 = .ok (.getfield 7, 3) := by decide +kernel
theorem dX7_mendNow_27 : decode cX7_mendNow 27 = .ok (.iload 4, 2) := by decide +kernel
theorem dX7_mendNow_29 : decode cX7_mendNow 29 = .ok (.iaload, 1) := by decide +kernel
theorem dX7_mendNow_30 : decode cX7_mendNow 30 = .ok (.istore 5, 2) := by decide +kernel
theorem dX7_mendNow_32 : decode cX7_mendNow 32 = .ok (.aload_n 0, 1) := by decide +kernel
theorem dX7_mendNow_33 : decode cX7_mendNow 33 = .ok (.getfield 7, 3) := by decide +kernel
theorem dX7_mendNow_36 : decode cX7_mendNow 36 = .ok (.iload 4, 2) := by decide +kernel
theorem dX7_mendNow_38 : decode cX7_mendNow 38 = .ok (.iconst 0, 1) := by decide +kernel
theorem dX7_mendNow_39 : decode cX7_mendNow 39 = .ok (.iastore, 1) := by decide +kernel
theorem dX7_mendNow_40 : decode cX7_mendNow 40 = .ok (.aload_n 0, 1) := by decide +kernel
theorem dX7_mendNow_41 : decode cX7_mendNow 41 = .ok (.aload_n 0, 1) := by decide +kernel
theorem dX7_mendNow_42 : decode cX7_mendNow 42 = .ok (.getfield 76, 3) := by decide +kernel
theorem dX7_mendNow_45 : decode cX7_mendNow 45 = .ok (.invokevirtual 136, 3) := by decide +kernel
theorem dX7_mendNow_48 : decode cX7_mendNow 48 = .ok (.istore 6, 2) := by decide +kernel
theorem dX7_mendNow_50 : decode cX7_mendNow 50 = .ok (.aload_n 0, 1) := by decide +kernel
theorem dX7_mendNow_51 : decode cX7_mendNow 51 = .ok (.getfield 7, 3) := by decide +kernel
theorem dX7_mendNow_54 : decode cX7_mendNow 54 = .ok (.iload 4, 2) := by decide +kernel
theorem dX7_mendNow_56 : decode cX7_mendNow 56 = .ok (.iload 5, 2) := by decide +kernel
theorem dX7_mendNow_58 : decode cX7_mendNow 58 = .ok (.iastore, 1) := by decide +kernel
theorem dX7_mendNow_59 : decode cX7_mendNow 59 = .ok (.iload 6, 2) := by decide +kernel
theorem dX7_mendNow_61 : decode cX7_mendNow 61 = .ok (.iload_n 3, 1) := by decide +kernel
theorem dX7_mendNow_62 : decode cX7_mendNow 62 = .ok (.if_icmp .ge 8, 3) := by decide +kernel
theorem dX7_mendNow_65 : decode cX7_mendNow 65 = .ok (.iload 4, 2) := by decide +kernel
theorem dX7_mendNow_67 : decode cX7_mendNow 67 = .ok (.goto 4, 3) := by decide +kernel
theorem dX7_mendNow_70 : decode cX7_mendNow 70 = .ok (.iload_n 2, 1) := by decide +kernel
theorem dX7_mendNow_71 : decode cX7_mendNow 71 = .ok (.istore_n 2, 1) := by decide +kernel
theorem dX7_mendNow_72 : decode cX7_mendNow 72 = .ok (.iload 6, 2) := by decide +kernel
theorem dX7_mendNow_74 : decode cX7_mendNow 74 = .ok (.iload_n 3, 1) := by decide +kernel
theorem dX7_mendNow_75 : decode cX7_mendNow 75 = .ok (.if_icmp .ge 8, 3) := by decide +kernel
theorem dX7_mendNow_78 : decode cX7_mendNow 78 = .ok (.iload 6, 2) := by decide +kernel
theorem dX7_mendNow_80 : decode cX7_mendNow 80 = .ok (.goto 4, 3) := by decide +kernel
theorem dX7_mendNow_83 : decode cX7_mendNow 83 = .ok (.iload_n 3, 1) := by decide +kernel
theorem dX7_mendNow_84 : decode cX7_mendNow 84 = .ok (.istore_n 3, 1) := by decide +kernel
theorem dX7_mendNow_85 : decode cX7_mendNow 85 = .ok (.iinc 4 1, 3) := by decide +kernel
theorem dX7_mendNow_88 : decode cX7_mendNow 88 = .ok (.goto (-74), 3) := by decide +kernel
theorem dX7_mendNow_91 : decode cX7_mendNow 91 = .ok (.iload_n 2, 1) := by decide +kernel
theorem dX7_mendNow_92 : decode cX7_mendNow 92 = .ok (.iconst (-1), 1) := by decide +kernel
theorem dX7_mendNow_93 : decode cX7_mendNow 93 = .ok (.if_icmp .eq 7, 3) := by decide +kernel
theorem dX7_mendNow_96 : decode cX7_mendNow 96 = .ok (.iload_n 1, 1) := by decide +kernel
theorem dX7_mendNow_97 : decode cX7_mendNow 97 = .ok (.ifCond .ne 7, 3) := by decide +kernel
theorem dX7_mendNow_100 : decode cX7_mendNow 100 = .ok (.iload_n 2, 1) := by decide +kernel
theorem dX7_mendNow_101 : decode cX7_mendNow 101 = .ok (.goto 4, 3) := by decide +kernel
theorem dX7_mendNow_104 : decode cX7_mendNow 104 = .ok (.iload_n 3, 1) := by decide +kernel
theorem dX7_mendNow_105 : decode cX7_mendNow 105 = .ok (.ireturn, 1) := by decide +kernel
theorem dX7_mend_0 : decode cX7_mend 0 = .ok (.iload_n 1, 1) := by decide +kernel
theorem dX7_mend_1 : decode cX7_mend 1 = .ok (.iconst 0, 1) := by decide +kernel
theorem dX7_mend_2 : decode cX7_mend 2 = .ok (.iconst 1, 1) := by decide +kernel
theorem dX7_mend_3 : decode cX7_mend 3 = .ok (.invokestatic 47, 3) := by decide +kernel
theorem dX7_mend_6 : decode cX7_mend 6 = .ok (.ifCond .ne 6, 3) := by decide +kernel
theorem dX7_mend_9 : decode cX7_mend 9 = .ok (.bipush (-102), 2) := by decide +kernel
theorem dX7_mend_11 : decode cX7_mend 11 = .ok (.ireturn, 1) := by decide +kernel
theorem dX7_mend_12 : decode cX7_mend 12 = .ok (.aload_n 0, 1) := by decide +kernel
theorem dX7_mend_13 : decode cX7_mend 13 = .ok (.getfield 73, 3) := by decide +kernel
theorem dX7_mend_16 : decode cX7_mend 16 = .ok (.ifCond .ne 8, 3) := by decide +kernel
theorem dX7_mend_19 : decode cX7_mend 19 = .ok (.bipush (-103), 2) := by decide +kernel
theorem dX7_mend_21 : decode cX7_mend 21 = .ok (.goto 8, 3) := by decide +kernel
theorem dX7_mend_24 : decode cX7_mend 24 = .ok (.aload_n 0, 1) := by decide +kernel
theorem dX7_mend_25 : decode cX7_mend 25 = .ok (.iload_n 1, 1) := by decide +kernel
theorem dX7_mend_26 : decode cX7_mend 26 = .ok (.invokevirtual 142, 3) := by decide +kernel
theorem dX7_mend_29 : decode cX7_mend 29 = .ok (.ireturn, 1) := by decide +kernel
theorem dX7_hear_0 : decode cX7_hear 0 = .ok (.aload_n 0, 1) := by decide +kernel
theorem dX7_hear_1 : decode cX7_hear 1 = .ok (.iload_n 1, 1) := by decide +kernel
theorem dX7_hear_2 : decode cX7_hear 2 = .ok (.invokevirtual 104, 3) := by decide +kernel
theorem dX7_hear_5 : decode cX7_hear 5 = .ok (.ifCond .ne 6, 3) := by decide +kernel
theorem dX7_hear_8 : decode cX7_hear 8 = .ok (.bipush (-101), 2) := by decide +kernel
theorem dX7_hear_10 : decode cX7_hear 10 = .ok (.ireturn, 1) := by decide +kernel
theorem dX7_hear_11 : decode cX7_hear 11 = .ok (.iload_n 2, 1) := by decide +kernel
theorem dX7_hear_12 : decode cX7_hear 12 = .ok (.iconst 1, 1) := by decide +kernel
theorem dX7_hear_13 : decode cX7_hear 13 = .ok (.iconst 3, 1) := by decide +kernel
theorem dX7_hear_14 : decode cX7_hear 14 = .ok (.invokestatic 47, 3) := by decide +kernel
theorem dX7_hear_17 : decode cX7_hear 17 = .ok (.ifCond .eq 13, 3) := by decide +kernel
theorem dX7_hear_20 : decode cX7_hear 20 = .ok (.iload_n 3, 1) := by decide +kernel
theorem dX7_hear_21 : decode cX7_hear 21 = .ok (.iconst 0, 1) := by decide +kernel
theorem dX7_hear_22 : decode cX7_hear 22 = .ok (.bipush 11, 2) := by decide +kernel
theorem dX7_hear_24 : decode cX7_hear 24 = .ok (.invokestatic 47, 3) := by decide +kernel
theorem dX7_hear_27 : decode cX7_hear 27 = .ok (.ifCond .ne 6, 3) := by decide +kernel
theorem dX7_hear_30 : decode cX7_hear 30 = .ok (.bipush (-102), 2) := by decide +kernel
theorem dX7_hear_32 : decode cX7_hear 32 = .ok (.ireturn, 1) := by decide +kernel
theorem dX7_hear_33 : decode cX7_hear 33 = .ok (.aload_n 0, 1) := by decide +kernel
theorem dX7_hear_34 : decode cX7_hear 34 = .ok (.getfield 94, 3) := by decide +kernel
theorem dX7_hear_37 : decode cX7_hear 37 = .ok (.bipush 6, 2) := by decide +kernel
theorem dX7_hear_39 : decode cX7_hear 39 = .ok (.if_icmp .ne 6, 3) := by decide +kernel
theorem dX7_hear_42 : decode cX7_hear 42 = .ok (.bipush (-104), 2) := by decide +kernel
theorem dX7_hear_44 : decode cX7_hear 44 = .ok (.ireturn, 1) := by decide +kernel
theorem dX7_hear_45 : decode cX7_hear 45 = .ok (.aload_n 0, 1) := by decide +kernel
theorem dX7_hear_46 : decode cX7_hear 46 = .ok (.getfield 13, 3) := by decide +kernel
theorem dX7_hear_49 : decode cX7_hear 49 = .ok (.aload_n 0, 1) := by decide +kernel
theorem dX7_hear_50 : decode cX7_hear 50 = .ok (.getfield 94, 3) := by decide +kernel
theorem dX7_hear_53 : decode cX7_hear 53 = .ok (.iload_n 1, 1) := by decide +kernel
theorem dX7_hear_54 : decode cX7_hear 54 = .ok (.iastore, 1) := by decide +kernel
theorem dX7_hear_55 : decode cX7_hear 55 = .ok (.aload_n 0, 1) := by decide +kernel
theorem dX7_hear_56 : decode cX7_hear 56 = .ok (.getfield 16, 3) := by decide +kernel
theorem dX7_hear_59 : decode cX7_hear 59 = .ok (.aload_n 0, 1) := by decide +kernel
theorem dX7_hear_60 : decode cX7_hear 60 = .ok (.getfield 94, 3) := by decide +kernel
theorem dX7_hear_63 : decode cX7_hear 63 = .ok (.iload_n 2, 1) := by decide +kernel
theorem dX7_hear_64 : decode cX7_hear 64 = .ok (.iastore, 1) := by decide +kernel
theorem dX7_hear_65 : decode cX7_hear 65 = .ok (.aload_n 0, 1) := by decide +kernel
theorem dX7_hear_66 : decode cX7_hear 66 = .ok (.getfield 19, 3) := by decide +kernel
theorem dX7_hear_69 : decode cX7_hear 69 = .ok (.aload_n 0, 1) := by decide +kernel
theorem dX7_hear_70 : decode cX7_hear 70 = .ok (.getfield 94, 3) := by decide +kernel
theorem dX7_hear_73 : decode cX7_hear 73 = .ok (.iload_n 3, 1) := by decide +kernel
theorem dX7_hear_74 : decode cX7_hear 74 = .ok (.iastore, 1) := by decide +kernel
theorem dX7_hear_75 : decode cX7_hear 75 = .ok (.aload_n 0, 1) := by decide +kernel
theorem dX7_hear_76 : decode cX7_hear 76 = .ok (.getfield 22, 3) := by decide +kernel
theorem dX7_hear_79 : decode cX7_hear 79 = .ok (.aload_n 0, 1) := by decide +kernel
theorem dX7_hear_80 : decode cX7_hear 80 = .ok (.getfield 94, 3) := by decide +kernel
theorem dX7_hear_83 : decode cX7_hear 83 = .ok (.iload 4, 2) := by decide +kernel
theorem dX7_hear_85 : decode cX7_hear 85 = .ok (.ifCond .eq 7, 3) := by decide +kernel
theorem dX7_hear_88 : decode cX7_hear 88 = .ok (.iconst 1, 1) := by decide +kernel
theorem dX7_hear_89 : decode cX7_hear 89 = .ok (.goto 4, 3) := by decide +kernel
theorem dX7_hear_92 : decode cX7_hear 92 = .ok (.iconst 0, 1) := by decide +kernel
theorem dX7_hear_93 : decode cX7_hear 93 = .ok (.iastore, 1) := by decide +kernel
theorem dX7_hear_94 : decode cX7_hear 94 = .ok (.aload_n 0, 1) := by decide +kernel
theorem dX7_hear_95 : decode cX7_hear 95 = .ok (.dup, 1) := by decide +kernel
theorem dX7_hear_96 : decode cX7_hear 96 = .ok (.getfield 94, 3) := by decide +kernel
theorem dX7_hear_99 : decode cX7_hear 99 = .ok (.iconst 1, 1) := by decide +kernel
theorem dX7_hear_100 : decode cX7_hear 100 = .ok (.iadd, 1) := by decide +kernel
theorem dX7_hear_101 : decode cX7_hear 101 = .ok (.putfield 94, 3) := by decide +kernel
theorem dX7_hear_104 : decode cX7_hear 104 = .ok (.aload_n 0, 1) := by decide +kernel
