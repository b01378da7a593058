theorem dX0_init_0 : decode cX0_init 0 = .ok (.aload_n 0, 1) := by decide +kernel
theorem dX0_init_1 : decode cX0_init 1 = .ok (.invokespecial 3, 3) := by decide +kernel
theorem dX0_init_4 : decode cX0_init 4 = .ok (.aload_n 0, 1) := by decide +kernel
theorem dX0_init_5 : decode cX0_init 5 = .ok (.bipush 12, 2) := by decide +kernel
theorem dX0_init_7 : decode cX0_init 7 = .ok (.newarray .int, 2) := by decide +kernel
theorem dX0_init_9 : decode cX0_init 9 = .ok (.putfield 9, 3) := by decide +kernel
theorem dX0_init_12 : decode cX0_init 12 = .ok (.aload_n 0, 1) := by decide +kernel
theorem dX0_init_13 : decode cX0_init 13 = .ok (.iconst 0, 1) := by decide +kernel
theorem dX0_init_14 : decode cX0_init 14 = .ok (.putfield 15, 3) := by decide +kernel
theorem dX0_init_17 : decode cX0_init 17 = .ok (.return_, 1) := by decide +kernel
theorem dX0_places_0 : decode cX0_places 0 = .ok (.aload_n 0, 1) := by decide +kernel
theorem dX0_places_1 : decode cX0_places 1 = .ok (.getfield 15, 3) := by decide +kernel
theorem dX0_places_4 : decode cX0_places 4 = .ok (.ireturn, 1) := by decide +kernel
theorem dX0_has_0 : decode cX0_has 0 = .ok (.iload_n 1, 1) := by decide +kernel
theorem dX0_has_1 : decode cX0_has 1 = .ok (.ifCond .lt 21, 3) := by decide +kernel
theorem dX0_has_4 : decode cX0_has 4 = .ok (.iload_n 1, 1) := by decide +kernel
theorem dX0_has_5 : decode cX0_has 5 = .ok (.aload_n 0, 1) := by decide +kernel
theorem dX0_has_6 : decode cX0_has 6 = .ok (.getfield 15, 3) := by decide +kernel
theorem dX0_has_9 : decode cX0_has 9 = .ok (.if_icmp .ge 13, 3) := by decide +kernel
theorem dX0_has_12 : decode cX0_has 12 = .ok (.iload_n 1, 1) := by decide +kernel
theorem dX0_has_13 : decode cX0_has 13 = .ok (.bipush 12, 2) := by decide +kernel
theorem dX0_has_15 : decode cX0_has 15 = .ok (.if_icmp .ge 7, 3) := by decide +kernel
theorem dX0_has_18 : decode cX0_has 18 = .ok (.iconst 1, 1) := by decide +kernel
theorem dX0_has_19 : decode cX0_has 19 = .ok (.goto 4, 3) := by decide +kernel
theorem dX0_has_22 : decode cX0_has 22 = .ok (.iconst 0, 1) := by decide +kernel
theorem dX0_has_23 : decode cX0_has 23 = .ok (.ireturn, 1) := by decide +kernel
theorem dX0_kindAt_0 : decode cX0_kindAt 0 = .ok (.aload_n 0, 1) := by decide +kernel
theorem dX0_kindAt_1 : decode cX0_kindAt 1 = .ok (.iload_n 1, 1) := by decide +kernel
theorem dX0_kindAt_2 : decode cX0_kindAt 2 = .ok (.invokevirtual 19, 3) := by decide +kernel
theorem dX0_kindAt_5 : decode cX0_kindAt 5 = .ok (.ifCond .eq 12, 3) := by decide +kernel
theorem dX0_kindAt_8 : decode cX0_kindAt 8 = .ok (.aload_n 0, 1) := by decide +kernel
theorem dX0_kindAt_9 : decode cX0_kindAt 9 = .ok (.getfield 9, 3) := by decide +kernel
theorem dX0_kindAt_12 : decode cX0_kindAt 12 = .ok (.iload_n 1, 1) := by decide +kernel
theorem dX0_kindAt_13 : decode cX0_kindAt 13 = .ok (.iaload, 1) := by decide +kernel
theorem dX0_kindAt_14 : decode cX0_kindAt 14 = .ok (.goto 4, 3) := by decide +kernel
theorem dX0_kindAt_17 : decode cX0_kindAt 17 = .ok (.iconst 0, 1) := by decide +kernel
theorem dX0_kindAt_18 : decode cX0_kindAt 18 = .ok (.ireturn, 1) := by decide +kernel
theorem dX0_put_0 : decode cX0_put 0 = .ok (.aload_n 0, 1) := by decide +kernel
theorem dX0_put_1 : decode cX0_put 1 = .ok (.iload_n 1, 1) := by decide +kernel
theorem dX0_put_2 : decode cX0_put 2 = .ok (.invokevirtual 19, 3) := by decide +kernel
theorem dX0_put_5 : decode cX0_put 5 = .ok (.ifCond .ne 5, 3) := by decide +kernel
theorem dX0_put_8 : decode cX0_put 8 = .ok (.iconst 0, 1) := by decide +kernel
theorem dX0_put_9 : decode cX0_put 9 = .ok (.ireturn, 1) := by decide +kernel
theorem dX0_put_10 : decode cX0_put 10 = .ok (.aload_n 0, 1) := by decide +kernel
theorem dX0_put_11 : decode cX0_put 11 = .ok (.getfield 9, 3) := by decide +kernel
theorem dX0_put_14 : decode cX0_put 14 = .ok (.iload_n 1, 1) := by decide +kernel
theorem dX0_put_15 : decode cX0_put 15 = .ok (.iaload, 1) := by decide +kernel
theorem dX0_put_16 : decode cX0_put 16 = .ok (.istore_n 3, 1) := by decide +kernel
theorem dX0_put_17 : decode cX0_put 17 = .ok (.aload_n 0, 1) := by decide +kernel
theorem dX0_put_18 : decode cX0_put 18 = .ok (.getfield 9, 3) := by decide +kernel
theorem dX0_put_21 : decode cX0_put 21 = .ok (.iload_n 1, 1) := by decide +kernel
theorem dX0_put_22 : decode cX0_put 22 = .ok (.iload_n 2, 1) := by decide +kernel
theorem dX0_put_23 : decode cX0_put 23 = .ok (.iastore, 1) := by decide +kernel
theorem dX0_put_24 : decode cX0_put 24 = .ok (.iload_n 3, 1) := by decide +kernel
theorem dX0_put_25 : decode cX0_put 25 = .ok (.ireturn, 1) := by decide +kernel
theorem dX0_plainPlaces_0 : decode cX0_plainPlaces 0 = .ok (.iconst 0, 1) := by decide +kernel
theorem dX0_plainPlaces_1 : decode cX0_plainPlaces 1 = .ok (.istore_n 1, 1) := by decide +kernel
theorem dX0_plainPlaces_2 : decode cX0_plainPlaces 2 = .ok (.iconst 0, 1) := by decide +kernel
theorem dX0_plainPlaces_3 : decode cX0_plainPlaces 3 = .ok (.istore_n 2, 1) := by decide +kernel
theorem dX0_plainPlaces_4 : decode cX0_plainPlaces 4 = .ok (.iload_n 2, 1) := by decide +kernel
theorem dX0_plainPlaces_5 : decode cX0_plainPlaces 5 = .ok (.aload_n 0, 1) := by decide +kernel
theorem dX0_plainPlaces_6 : decode cX0_plainPlaces 6 = .ok (.getfield 15, 3) := by decide +kernel
theorem dX0_plainPlaces_9 : decode cX0_plainPlaces 9 = .ok (.if_icmp .ge 20, 3) := by decide +kernel
theorem dX0_plainPlaces_12 : decode cX0_plainPlaces 12 = .ok (.aload_n 0, 1) := by decide +kernel
theorem dX0_plainPlaces_13 : decode cX0_plainPlaces 13 = .ok (.iload_n 2, 1) := by decide +kernel
theorem dX0_plainPlaces_14 : decode cX0_plainPlaces 14 = .ok (.invokevirtual 25, 3) := by decide +kernel
theorem dX0_plainPlaces_17 : decode cX0_plainPlaces 17 = .ok (.ifCond .ne 6, 3) := by decide +kernel
theorem dX0_plainPlaces_20 : decode cX0_plainPlaces 20 = .ok (.iinc 1 1, 3) := by decide +kernel
theorem dX0_plainPlaces_23 : decode cX0_plainPlaces 23 = .ok (.iinc 2 1, 3) := by decide +kernel
theorem dX0_plainPlaces_26 : decode cX0_plainPlaces 26 = .ok (.goto (-22), 3) := by decide +kernel
theorem dX0_plainPlaces_29 : decode cX0_plainPlaces 29 = .ok (.iload_n 1, 1) := by decide +kernel
theorem dX0_plainPlaces_30 : decode cX0_plainPlaces 30 = .ok (.ireturn, 1) := by decide +kernel
theorem dX0_read_0 : decode cX0_read 0 = .ok (.aload_n 0, 1) := by decide +kernel
theorem dX0_read_1 : decode cX0_read 1 = .ok (.aload_n 1, 1) := by decide +kernel
theorem dX0_read_2 : decode cX0_read 2 = .ok (.invokevirtual 29, 3) := by decide +kernel
theorem dX0_read_5 : decode cX0_read 5 = .ok (.putfield 15, 3) := by decide +kernel
theorem dX0_read_8 : decode cX0_read 8 = .ok (.iconst 0, 1) := by decide +kernel
theorem dX0_read_9 : decode cX0_read 9 = .ok (.istore_n 2, 1) := by decide +kernel
theorem dX0_read_10 : decode cX0_read 10 = .ok (.iload_n 2, 1) := by decide +kernel
theorem dX0_read_11 : decode cX0_read 11 = .ok (.aload_n 0, 1) := by decide +kernel
theorem dX0_read_12 : decode cX0_read 12 = .ok (.getfield 15, 3) := by decide +kernel
theorem dX0_read_15 : decode cX0_read 15 = .ok (.if_icmp .ge 23, 3) := by decide +kernel
theorem dX0_read_18 : decode cX0_read 18 = .ok (.aload_n 0, 1) := by decide +kernel
theorem dX0_read_19 : decode cX0_read 19 = .ok (.iload_n 2, 1) := by decide +kernel
theorem dX0_read_20 : decode cX0_read 20 = .ok (.aload_n 1, 1) := by decide +kernel
theorem dX0_read_21 : decode cX0_read 21 = .ok (.iload_n 2, 1) := by decide +kernel
theorem dX0_read_22 : decode cX0_read 22 = .ok (.invokevirtual 35, 3) := by decide +kernel
theorem dX0_read_25 : decode cX0_read 25 = .ok (.invokestatic 38, 3) := by decide +kernel
theorem dX0_read_28 : decode cX0_read 28 = .ok (.invokevirtual 41, 3) := by decide +kernel
theorem dX0_read_31 : decode cX0_read 31 = .ok (.pop, 1) := by decide +kernel
theorem dX0_read_32 : decode cX0_read 32 = .ok (.iinc 2 1, 3) := by decide +kernel
theorem dX0_read_35 : decode cX0_read 35 = .ok (.goto (-25), 3) := by decide +kernel
theorem dX0_read_38 : decode cX0_read 38 = .ok (.return_, 1) := by decide +kernel
theorem dX0_copyFrom_0 : decode cX0_copyFrom 0 = .ok (.aload_n 0, 1) := by decide +kernel
theorem dX0_copyFrom_1 : decode cX0_copyFrom 1 = .ok (.aload_n 1, 1) := by decide +kernel
theorem dX0_copyFrom_2 : decode cX0_copyFrom 2 = .ok (.getfield 15, 3) := by decide +kernel
theorem dX0_copyFrom_5 : decode cX0_copyFrom 5 = .ok (.putfield 15, 3) := by decide +kernel
theorem dX0_copyFrom_8 : decode cX0_copyFrom 8 = .ok (.iconst 0, 1) := by decide +kernel
theorem dX0_copyFrom_9 : decode cX0_copyFrom 9 = .ok (.istore_n 2, 1) := by decide +kernel
theorem dX0_copyFrom_10 : decode cX0_copyFrom 10 = .ok (.iload_n 2, 1) := by decide +kernel
theorem dX0_copyFrom_11 : decode cX0_copyFrom 11 = .ok (.aload_n 0, 1) := by decide +kernel
theorem dX0_copyFrom_12 : decode cX0_copyFrom 12 = .ok (.getfield 15, 3) := by decide +kernel
theorem dX0_copyFrom_15 : decode cX0_copyFrom 15 = .ok (.if_icmp .ge 20, 3) := by decide +kernel
theorem dX0_copyFrom_18 : decode cX0_copyFrom 18 = .ok (.aload_n 0, 1) := by decide +kernel
theorem dX0_copyFrom_19 : decode cX0_copyFrom 19 = .ok (.iload_n 2, 1) := by decide +kernel
theorem dX0_copyFrom_20 : decode cX0_copyFrom 20 = .ok (.aload_n 1, 1) := by decide +kernel
theorem dX0_copyFrom_21 : decode cX0_copyFrom 21 = .ok (.iload_n 2, 1) := by decide +kernel
theorem dX0_copyFrom_22 : decode cX0_copyFrom 22 = .ok (.invokevirtual 25, 3) := by decide +kernel
theorem dX0_copyFrom_25 : decode cX0_copyFrom 25 = .ok (.invokevirtual 41, 3) := by decide +kernel
theorem dX0_copyFrom_28 : decode cX0_copyFrom 28 = .ok (.pop, 1) := by decide +kernel
theorem dX0_copyFrom_29 : decode cX0_copyFrom 29 = .ok (.iinc 2 1, 3) := by decide +kernel
theorem dX0_copyFrom_32 : decode cX0_copyFrom 32 = .ok (.goto (-22), 3) := by decide +kernel
theorem dX0_copyFrom_35 : decode cX0_copyFrom 35 = .ok (.return_, 1) := by decide +kernel
theorem dX1_init_0 : decode cX1_init 0 = .ok (.aload_n 0, 1) := by decide +kernel
theorem dX1_init_1 : decode cX1_init 1 = .ok (.invokespecial 3, 3) := by decide +kernel
theorem dX1_init_4 : decode cX1_init 4 = .ok (.aload_n 0, 1) := by decide +kernel
theorem dX1_init_5 : decode cX1_init 5 = .ok (.bipush 6, 2) := by decide +kernel
theorem dX1_init_7 : decode cX1_init 7 = .ok (.newarray .int, 2) := by decide +kernel
theorem dX1_init_9 : decode cX1_init 9 = .ok (.putfield 11, 3) := by decide +kernel
theorem dX1_init_12 : decode cX1_init 12 = .ok (.aload_n 0, 1) := by decide +kernel
theorem dX1_init_13 : decode cX1_init 13 = .ok (.bipush 6, 2) := by decide +kernel
theorem dX1_init_15 : decode cX1_init 15 = .ok (.newarray .int, 2) := by decide +kernel
theorem dX1_init_17 : decode cX1_init 17 = .ok (.putfield 15, 3) := by decide +kernel
theorem dX1_init_20 : decode cX1_init 20 = .ok (.aload_n 0, 1) := by decide +kernel
theorem dX1_init_21 : decode cX1_init 21 = .ok (.bipush 6, 2) := by decide +kernel
theorem dX1_init_23 : decode cX1_init 23 = .ok (.newarray .int, 2) := by decide +kernel
theorem dX1_init_25 : decode cX1_init 25 = .ok (.putfield 18, 3) := by decide +kernel
theorem dX1_init_28 : decode cX1_init 28 = .ok (.aload_n 0, 1) := by decide +kernel
theorem dX1_init_29 : decode cX1_init 29 = .ok (.bipush 6, 2) := by decide +kernel
theorem dX1_init_31 : decode cX1_init 31 = .ok (.newarray .boolean, 2) := by decide +kernel
theorem dX1_init_33 : decode cX1_init 33 = .ok (.putfield 21, 3) := by decide +kernel
theorem dX1_init_36 : decode cX1_init 36 = .ok (.aload_n 0, 1) := by decide +kernel
theorem dX1_init_37 : decode cX1_init 37 = .ok (.iconst 0, 1) := by decide +kernel
theorem dX1_init_38 : decode cX1_init 38 = .ok (.putfield 25, 3) := by decide +kernel
theorem dX1_init_41 : decode cX1_init 41 = .ok (.return_, 1) := by decide +kernel
theorem dX1_size_0 : decode cX1_size 0 = .ok (.aload_n 0, 1) := by decide +kernel
theorem dX1_size_1 : decode cX1_size 1 = .ok (.getfield 25, 3) := by decide +kernel
theorem dX1_size_4 : decode cX1_size 4 = .ok (.ireturn, 1) := by decide +kernel
theorem dX1_append_0 : decode cX1_append 0 = .ok (.aload_n 0, 1) := by decide +kernel
theorem dX1_append_1 : decode cX1_append 1 = .ok (.getfield 25, 3) := by decide +kernel
theorem dX1_append_4 : decode cX1_append 4 = .ok (.ifCond .lt 12, 3) := by decide +kernel
theorem dX1_append_7 : decode cX1_append 7 = .ok (.aload_n 0, 1) := by decide +kernel
theorem dX1_append_8 : decode cX1_append 8 = .ok (.getfield 25, 3) := by decide +kernel
theorem dX1_append_11 : decode cX1_append 11 = .ok (.bipush 6, 2) := by decide +kernel
theorem dX1_append_13 : decode cX1_append 13 = .ok (.if_icmp .lt 5, 3) := by decide +kernel
theorem dX1_append_16 : decode cX1_append 16 = .ok (.iconst 0, 1) := by decide +kernel
theorem dX1_append_17 : decode cX1_append 17 = .ok (.ireturn, 1) := by decide +kernel
theorem dX1_append_18 : decode cX1_append 18 = .ok (.aload_n 0, 1) := by decide +kernel
theorem dX1_append_19 : decode cX1_append 19 = .ok (.getfield 11, 3) := by decide +kernel
theorem dX1_append_22 : decode cX1_append 22 = .ok (.aload_n 0, 1) := by decide +kernel
theorem dX1_append_23 : decode cX1_append 23 = .ok (.getfield 25, 3) := by decide +kernel
theorem dX1_append_26 : decode cX1_append 26 = .ok (.iload_n 1, 1) := by decide +kernel
theorem dX1_append_27 : decode cX1_append 27 = .ok (.iastore, 1) := by decide +kernel
theorem dX1_append_28 : decode cX1_append 28 = .ok (.aload_n 0, 1) := by decide +kernel
theorem dX1_append_29 : decode cX1_append 29 = .ok (.getfield 15, 3) := by decide +kernel
theorem dX1_append_32 : decode cX1_append 32 = .ok (.aload_n 0, 1) := by decide +kernel
theorem dX1_append_33 : decode cX1_append 33 = .ok (.getfield 25, 3) := by decide +kernel
theorem dX1_append_36 : decode cX1_append 36 = .ok (.iload_n 2, 1) := by decide +kernel
theorem dX1_append_37 : decode cX1_append 37 = .ok (.iastore, 1) := by decide +kernel
theorem dX1_append_38 : decode cX1_append 38 = .ok (.aload_n 0, 1) := by decide +kernel
theorem dX1_append_39 : decode cX1_append 39 = .ok (.getfield 18, 3) := by decide +kernel
theorem dX1_append_42 : decode cX1_append 42 = .ok (.aload_n 0, 1) := by decide +kernel
theorem dX1_append_43 : decode cX1_append 43 = .ok (.getfield 25, 3) := by decide +kernel
theorem dX1_append_46 : decode cX1_append 46 = .ok (.iload_n 3, 1) := by decide +kernel
theorem dX1_append_47 : decode cX1_append 47 = .ok (.iastore, 1) := by decide +kernel
theorem dX1_append_48 : decode cX1_append 48 = .ok (.aload_n 0, 1) := by decide +kernel
theorem dX1_append_49 : decode cX1_append 49 = .ok (.getfield 21, 3) := by decide +kernel
theorem dX1_append_52 : decode cX1_append 52 = .ok (.aload_n 0, 1) := by decide +kernel
theorem dX1_append_53 : decode cX1_append 53 = .ok (.getfield 25, 3) := by decide +kernel
theorem dX1_append_56 : decode cX1_append 56 = .ok (.iload 4, 2) := by decide +kernel
theorem dX1_append_58 : decode cX1_append 58 = .ok (.bastore, 1) := by decide +kernel
theorem dX1_append_59 : decode cX1_append 59 = .ok (.aload_n 0, 1) := by decide +kernel
theorem dX1_append_60 : decode cX1_append 60 = .ok (.dup, 1) := by decide +kernel
theorem dX1_append_61 : decode cX1_append 61 = .ok (.getfield 25, 3) := by decide +kernel
theorem dX1_append_64 : decode cX1_append 64 = .ok (.iconst 1, 1) := by decide +kernel
theorem dX1_append_65 : decode cX1_append 65 = .ok (.iadd, 1) := by decide +kernel
theorem dX1_append_66 : decode cX1_append 66 = .ok (.putfield 25, 3) := by decide +kernel
theorem dX1_append_69 : decode cX1_append 69 = .ok (.iconst 1, 1) := by decide +kernel
theorem dX1_append_70 : decode cX1_append 70 = .ok (.ireturn, 1) := by decide +kernel
theorem dX1_clear_0 : decode cX1_clear 0 = .ok (.aload_n 0, 1) := by decide +kernel
theorem dX1_clear_1 : decode cX1_clear 1 = .ok (.getfield 25, 3) := by decide +kernel
theorem dX1_clear_4 : decode cX1_clear 4 = .ok (.istore_n 1, 1) := by decide +kernel
theorem dX1_clear_5 : decode cX1_clear 5 = .ok (.aload_n 0, 1) := by decide +kernel
theorem dX1_clear_6 : decode cX1_clear 6 = .ok (.iconst 0, 1) := by decide +kernel
theorem dX1_clear_7 : decode cX1_clear 7 = .ok (.putfield 25, 3) := by decide +kernel
theorem dX1_clear_10 : decode cX1_clear 10 = .ok (.iload_n 1, 1) := by decide +kernel
theorem dX1_clear_11 : decode cX1_clear 11 = .ok (.ireturn, 1) := by decide +kernel
theorem dX1_copyFrom_0 : decode cX1_copyFrom 0 = .ok (.aload_n 0, 1) := by decide +kernel
theorem dX1_copyFrom_1 : decode cX1_copyFrom 1 = .ok (.iconst 0, 1) := by decide +kernel
theorem dX1_copyFrom_2 : decode cX1_copyFrom 2 = .ok (.putfield 25, 3) := by decide +kernel
theorem dX1_copyFrom_5 : decode cX1_copyFrom 5 = .ok (.iconst 0, 1) := by decide +kernel
theorem dX1_copyFrom_6 : decode cX1_copyFrom 6 = .ok (.istore_n 2, 1) := by decide +kernel
theorem dX1_copyFrom_7 : decode cX1_copyFrom 7 = .ok (.iload_n 2, 1) := by decide +kernel
theorem dX1_copyFrom_8 : decode cX1_copyFrom 8 = .ok (.aload_n 1, 1) := by decide +kernel
theorem dX1_copyFrom_9 : decode cX1_copyFrom 9 = .ok (.getfield 25, 3) := by decide +kernel
theorem dX1_copyFrom_12 : decode cX1_copyFrom 12 = .ok (.if_icmp .ge 44, 3) := by decide +kernel
theorem dX1_copyFrom_15 : decode cX1_copyFrom 15 = .ok (.iload_n 2, 1) := by decide +kernel
theorem dX1_copyFrom_16 : decode cX1_copyFrom 16 = .ok (.bipush 6, 2) := by decide +kernel
theorem dX1_copyFrom_18 : decode cX1_copyFrom 18 = .ok (.if_icmp .ge 38, 3) := by decide +kernel
theorem dX1_copyFrom_21 : decode cX1_copyFrom 21 = .ok (.aload_n 0, 1) := by decide +kernel
theorem dX1_copyFrom_22 : decode cX1_copyFrom 22 = .ok (.aload_n 1, 1) := by decide +kernel
theorem dX1_copyFrom_23 : decode cX1_copyFrom 23 = .ok (.getfield 11, 3) := by decide +kernel
theorem dX1_copyFrom_26 : decode cX1_copyFrom 26 = .ok (.iload_n 2, 1) := by decide +kernel
theorem dX1_copyFrom_27 : decode cX1_copyFrom 27 = .ok (.iaload, 1) := by decide +kernel
theorem dX1_copyFrom_28 : decode cX1_copyFrom 28 = .ok (.aload_n 1, 1) := by decide +kernel
theorem dX1_copyFrom_29 : decode cX1_copyFrom 29 = .ok (.getfield 15, 3) := by decide +kernel
theorem dX1_copyFrom_32 : decode cX1_copyFrom 32 = .ok (.iload_n 2, 1) := by decide +kernel
theorem dX1_copyFrom_33 : decode cX1_copyFrom 33 = .ok (.iaload, 1) := by decide +kernel
theorem dX1_copyFrom_34 : decode cX1_copyFrom 34 = .ok (.aload_n 1, 1) := by decide +kernel
theorem dX1_copyFrom_35 : decode cX1_copyFrom 35 = .ok (.getfield 18, 3) := by decide +kernel
theorem dX1_copyFrom_38 : decode cX1_copyFrom 38 = .ok (.iload_n 2, 1) := by decide +kernel
theorem dX1_copyFrom_39 : decode cX1_copyFrom 39 = .ok (.iaload, 1) := by decide +kernel
theorem dX1_copyFrom_40 : decode cX1_copyFrom 40 = .ok (.aload_n 1, 1) := by decide +kernel
theorem dX1_copyFrom_41 : decode cX1_copyFrom 41 = .ok (.getfield 21, 3) := by decide +kernel
theorem dX1_copyFrom_44 : decode cX1_copyFrom 44 = .ok (.iload_n 2, 1) := by decide +kernel
theorem dX1_copyFrom_45 : decode cX1_copyFrom 45 = .ok (.baload, 1) := by decide +kernel
theorem dX1_copyFrom_46 : decode cX1_copyFrom 46 = .ok (.invokevirtual 29, 3) := by decide +kernel
theorem dX1_copyFrom_49 : decode cX1_copyFrom 49 = .ok (.pop, 1) := by decide +kernel
theorem dX1_copyFrom_50 : decode cX1_copyFrom 50 = .ok (.iinc 2 1, 3) := by decide +kernel
theorem dX1_copyFrom_53 : decode cX1_copyFrom 53 = .ok (.goto (-46), 3) := by decide +kernel
theorem dX1_copyFrom_56 : decode cX1_copyFrom 56 = .ok (.return_, 1) := by decide +kernel
theorem dX1_heightBits_0 : decode cX1_heightBits 0 = .ok (.iconst 0, 1) := by decide +kernel
theorem dX1_heightBits_1 : decode cX1_heightBits 1 = .ok (.istore_n 2, 1) := by decide +kernel
theorem dX1_heightBits_2 : decode cX1_heightBits 2 = .ok (.iconst 1, 1) := by decide +kernel
theorem dX1_heightBits_3 : decode cX1_heightBits 3 = .ok (.istore_n 3, 1) := by decide +kernel
theorem dX1_heightBits_4 : decode cX1_heightBits 4 = .ok (.iload_n 3, 1) := by decide +kernel
theorem dX1_heightBits_5 : decode cX1_heightBits 5 = .ok (.bipush 9, 2) := by decide +kernel
theorem dX1_heightBits_7 : decode cX1_heightBits 7 = .ok (.if_icmp .gt 26, 3) := by decide +kernel
theorem dX1_heightBits_10 : decode cX1_heightBits 10 = .ok (.aload_n 0, 1) := by decide +kernel
theorem dX1_heightBits_11 : decode cX1_heightBits 11 = .ok (.aload_n 1, 1) := by decide +kernel
theorem dX1_heightBits_12 : decode cX1_heightBits 12 = .ok (.iload_n 3, 1) := by decide +kernel
theorem dX1_heightBits_13 : decode cX1_heightBits 13 = .ok (.invokevirtual 33, 3) := by decide +kernel
theorem dX1_heightBits_16 : decode cX1_heightBits 16 = .ok (.ifCond .eq 11, 3) := by decide +kernel
theorem dX1_heightBits_19 : decode cX1_heightBits 19 = .ok (.iload_n 2, 1) := by decide +kernel
theorem dX1_heightBits_20 : decode cX1_heightBits 20 = .ok (.iconst 1, 1) := by decide +kernel
theorem dX1_heightBits_21 : decode cX1_heightBits 21 = .ok (.iload_n 3, 1) := by decide +kernel
theorem dX1_heightBits_22 : decode cX1_heightBits 22 = .ok (.iconst 1, 1) := by decide +kernel
theorem dX1_heightBits_23 : decode cX1_heightBits 23 = .ok (.isub, 1) := by decide +kernel
theorem dX1_heightBits_24 : decode cX1_heightBits 24 = .ok (.ishl, 1) := by decide +kernel
theorem dX1_heightBits_25 : decode cX1_heightBits 25 = .ok (.ior, 1) := by decide +kernel
theorem dX1_heightBits_26 : decode cX1_heightBits 26 = .ok (.istore_n 2, 1) := by decide +kernel
theorem dX1_heightBits_27 : decode cX1_heightBits 27 = .ok (.iinc 3 1, 3) := by decide +kernel
theorem dX1_heightBits_30 : decode cX1_heightBits 30 = .ok (.goto (-26), 3) := by decide +kernel
theorem dX1_heightBits_33 : decode cX1_heightBits 33 = .ok (.iload_n 2, 1) := by decide +kernel
theorem dX1_heightBits_34 : decode cX1_heightBits 34 = .ok (.ireturn, 1) := by decide +kernel
theorem dX1_allows_0 : decode cX1_allows 0 = .ok (.iconst 0, 1) := by decide +kernel
theorem dX1_allows_1 : decode cX1_allows 1 = .ok (.istore_n 3, 1) := by decide +kernel
theorem dX1_allows_2 : decode cX1_allows 2 = .ok (.iload_n 3, 1) := by decide +kernel
theorem dX1_allows_3 : decode cX1_allows 3 = .ok (.aload_n 0, 1) := by decide +kernel
theorem dX1_allows_4 : decode cX1_allows 4 = .ok (.getfield 25, 3) := by decide +kernel
theorem dX1_allows_7 : decode cX1_allows 7 = .ok (.if_icmp .ge 68, 3) := by decide +kernel
theorem dX1_allows_10 : decode cX1_allows 10 = .ok (.iload_n 3, 1) := by decide +kernel
theorem dX1_allows_11 : decode cX1_allows 11 = .ok (.bipush 6, 2) := by decide +kernel
theorem dX1_allows_13 : decode cX1_allows 13 = .ok (.if_icmp .ge 62, 3) := by decide +kernel
theorem dX1_allows_16 : decode cX1_allows 16 = .ok (.aload_n 0, 1) := by decide +kernel
theorem dX1_allows_17 : decode cX1_allows 17 = .ok (.getfield 18, 3) := by decide +kernel
theorem dX1_allows_20 : decode cX1_allows 20 = .ok (.iload_n 3, 1) := by decide +kernel
theorem dX1_allows_21 : decode cX1_allows 21 = .ok (.iaload, 1) := by decide +kernel
theorem dX1_allows_22 : decode cX1_allows 22 = .ok (.aload_n 1, 1) := by decide +kernel
theorem dX1_allows_23 : decode cX1_allows 23 = .ok (.aload_n 0, 1) := by decide +kernel
theorem dX1_allows_24 : decode cX1_allows 24 = .ok (.getfield 11, 3) := by decide +kernel
theorem dX1_allows_27 : decode cX1_allows 27 = .ok (.iload_n 3, 1) := by decide +kernel
theorem dX1_allows_28 : decode cX1_allows 28 = .ok (.iaload, 1) := by decide +kernel
theorem dX1_allows_29 : decode cX1_allows 29 = .ok (.invokevirtual 37, 3) := by decide +kernel
theorem dX1_allows_32 : decode cX1_allows 32 = .ok (.aload_n 0, 1) := by decide +kernel
theorem dX1_allows_33 : decode cX1_allows 33 = .ok (.getfield 15, 3) := by decide +kernel
theorem dX1_allows_36 : decode cX1_allows 36 = .ok (.iload_n 3, 1) := by decide +kernel
theorem dX1_allows_37 : decode cX1_allows 37 = .ok (.iaload, 1) := by decide +kernel
theorem dX1_allows_38 : decode cX1_allows 38 = .ok (.invokestatic 43, 3) := by decide +kernel
theorem dX1_allows_41 : decode cX1_allows 41 = .ok (.iadd, 1) := by decide +kernel
theorem dX1_allows_42 : decode cX1_allows 42 = .ok (.istore 4, 2) := by decide +kernel
theorem dX1_allows_44 : decode cX1_allows 44 = .ok (.aload_n 0, 1) := by decide +kernel
theorem dX1_allows_45 : decode cX1_allows 45 = .ok (.getfield 21, 3) := by decide +kernel
theorem dX1_allows_48 : decode cX1_allows 48 = .ok (.iload_n 3, 1) := by decide +kernel
theorem dX1_allows_49 : decode cX1_allows 49 = .ok (.baload, 1) := by decide +kernel
theorem dX1_allows_50 : decode cX1_allows 50 = .ok (.iload 4, 2) := by decide +kernel
theorem dX1_allows_52 : decode cX1_allows 52 = .ok (.iload_n 2, 1) := by decide +kernel
theorem dX1_allows_53 : decode cX1_allows 53 = .ok (.invokestatic 49, 3) := by decide +kernel
theorem dX1_allows_56 : decode cX1_allows 56 = .ok (.if_icmp .le 7, 3) := by decide +kernel
theorem dX1_allows_59 : decode cX1_allows 59 = .ok (.iconst 1, 1) := by decide +kernel
theorem dX1_allows_60 : decode cX1_allows 60 = .ok (.goto 4, 3) := by decide +kernel
theorem dX1_allows_63 : decode cX1_allows 63 = .ok (.iconst 0, 1) := by decide +kernel
theorem dX1_allows_64 : decode cX1_allows 64 = .ok (.if_icmp .eq 5, 3) := by decide +kernel
theorem dX1_allows_67 : decode cX1_allows 67 = .ok (.iconst 0, 1) := by decide +kernel
theorem dX1_allows_68 : decode cX1_allows 68 = .ok (.ireturn, 1) := by decide +kernel
theorem dX1_allows_69 : decode cX1_allows 69 = .ok (.iinc 3 1, 3) := by decide +kernel
theorem dX1_allows_72 : decode cX1_allows 72 = .ok (.goto (-70), 3) := by decide +kernel
theorem dX1_allows_75 : decode cX1_allows 75 = .ok (.iconst 1, 1) := by decide +kernel
theorem dX1_allows_76 : decode cX1_allows 76 = .ok (.ireturn, 1) := by decide +kernel
theorem dX1_bestTry_0 : decode cX1_bestTry 0 = .ok (.aload_n 0, 1) := by decide +kernel
theorem dX1_bestTry_1 : decode cX1_bestTry 1 = .ok (.aload_n 1, 1) := by decide +kernel
theorem dX1_bestTry_2 : decode cX1_bestTry 2 = .ok (.invokevirtual 52, 3) := by decide +kernel
theorem dX1_bestTry_5 : decode cX1_bestTry 5 = .ok (.istore_n 3, 1) := by decide +kernel
theorem dX1_bestTry_6 : decode cX1_bestTry 6 = .ok (.iload_n 3, 1) := by decide +kernel
theorem dX1_bestTry_7 : decode cX1_bestTry 7 = .ok (.ifCond .ne 5, 3) := by decide +kernel
theorem dX1_bestTry_10 : decode cX1_bestTry 10 = .ok (.iconst (-1), 1) := by decide +kernel
theorem dX1_bestTry_11 : decode cX1_bestTry 11 = .ok (.ireturn, 1) := by decide +kernel
theorem dX1_bestTry_12 : decode cX1_bestTry 12 = .ok (.aload_n 1, 1) := by decide +kernel
theorem dX1_bestTry_13 : decode cX1_bestTry 13 = .ok (.iload_n 2, 1) := by decide +kernel
theorem dX1_bestTry_14 : decode cX1_bestTry 14 = .ok (.invokevirtual 37, 3) := by decide +kernel
theorem dX1_bestTry_17 : decode cX1_bestTry 17 = .ok (.iconst 1, 1) := by decide +kernel
theorem dX1_bestTry_18 : decode cX1_bestTry 18 = .ok (.invokestatic 43, 3) := by decide +kernel
theorem dX1_bestTry_21 : decode cX1_bestTry 21 = .ok (.istore 4, 2) := by decide +kernel
theorem dX1_bestTry_23 : decode cX1_bestTry 23 = .ok (.iconst 0, 1) := by decide +kernel
theorem dX1_bestTry_24 : decode cX1_bestTry 24 = .ok (.istore 5, 2) := by decide +kernel
theorem dX1_bestTry_26 : decode cX1_bestTry 26 = .ok (.bipush 10, 2) := by decide +kernel
theorem dX1_bestTry_28 : decode cX1_bestTry 28 = .ok (.istore 6, 2) := by decide +kernel
theorem dX1_bestTry_30 : decode cX1_bestTry 30 = .ok (.iconst 0, 1) := by decide +kernel
theorem dX1_bestTry_31 : decode cX1_bestTry 31 = .ok (.istore 7, 2) := by decide +kernel
theorem dX1_bestTry_33 : decode cX1_bestTry 33 = .ok (.iload 7, 2) := by decide +kernel
theorem dX1_bestTry_35 : decode cX1_bestTry 35 = .ok (.bipush 12, 2) := by decide +kernel
theorem dX1_bestTry_37 : decode cX1_bestTry 37 = .ok (.if_icmp .ge 35, 3) := by decide +kernel
theorem dX1_bestTry_40 : decode cX1_bestTry 40 = .ok (.iload_n 3, 1) := by decide +kernel
theorem dX1_bestTry_41 : decode cX1_bestTry 41 = .ok (.iload 7, 2) := by decide +kernel
theorem dX1_bestTry_43 : decode cX1_bestTry 43 = .ok (.iload 4, 2) := by decide +kernel
theorem dX1_bestTry_45 : decode cX1_bestTry 45 = .ok (.iadd, 1) := by decide +kernel
theorem dX1_bestTry_46 : decode cX1_bestTry 46 = .ok (.invokestatic 56, 3) := by decide +kernel
theorem dX1_bestTry_49 : decode cX1_bestTry 49 = .ok (.istore 8, 2) := by decide +kernel
theorem dX1_bestTry_51 : decode cX1_bestTry 51 = .ok (.iload 8, 2) := by decide +kernel
theorem dX1_bestTry_53 : decode cX1_bestTry 53 = .ok (.iload 6, 2) := by decide +kernel
theorem dX1_bestTry_55 : decode cX1_bestTry 55 = .ok (.if_icmp .ge 11, 3) := by decide +kernel
theorem dX1_bestTry_58 : decode cX1_bestTry 58 = .ok (.iload 8, 2) := by decide +kernel
theorem dX1_bestTry_60 : decode cX1_bestTry 60 = .ok (.istore 6, 2) := by decide +kernel
theorem dX1_bestTry_62 : decode cX1_bestTry 62 = .ok (.iload 7, 2) := by decide +kernel
theorem dX1_bestTry_64 : decode cX1_bestTry 64 = .ok (.istore 5, 2) := by decide +kernel
theorem dX1_bestTry_66 : decode cX1_bestTry 66 = .ok (.iinc 7 1, 3) := by decide +kernel
theorem dX1_bestTry_69 : decode cX1_bestTry 69 = .ok (.goto (-36), 3) := by decide +kernel
theorem dX1_bestTry_72 : decode cX1_bestTry 72 = .ok (.iload 5, 2) := by decide +kernel
theorem dX1_bestTry_74 : decode cX1_bestTry 74 = .ok (.ireturn, 1) := by decide +kernel
theorem dX1_leftAtWorst_0 : decode cX1_leftAtWorst 0 = .ok (.iconst 0, 1) := by decide +kernel
theorem dX1_leftAtWorst_1 : decode cX1_leftAtWorst 1 = .ok (.istore_n 2, 1) := by decide +kernel
theorem dX1_leftAtWorst_2 : decode cX1_leftAtWorst 2 = .ok (.iconst 0, 1) := by decide +kernel
theorem dX1_leftAtWorst_3 : decode cX1_leftAtWorst 3 = .ok (.istore_n 3, 1) := by decide +kernel
theorem dX1_leftAtWorst_4 : decode cX1_leftAtWorst 4 = .ok (.iconst 1, 1) := by decide +kernel
theorem dX1_leftAtWorst_5 : decode cX1_leftAtWorst 5 = .ok (.istore 4, 2) := by decide +kernel
theorem dX1_leftAtWorst_7 : decode cX1_leftAtWorst 7 = .ok (.iload 4, 2) := by decide +kernel
theorem dX1_leftAtWorst_9 : decode cX1_leftAtWorst 9 = .ok (.bipush 9, 2) := by decide +kernel
theorem dX1_leftAtWorst_11 : decode cX1_leftAtWorst 11 = .ok (.if_icmp .gt 41, 3) := by decide +kernel
theorem dX1_leftAtWorst_14 : decode cX1_leftAtWorst 14 = .ok (.iload_n 0, 1) := by decide +kernel
theorem dX1_leftAtWorst_15 : decode cX1_leftAtWorst 15 = .ok (.iload 4, 2) := by decide +kernel
theorem dX1_leftAtWorst_17 : decode cX1_leftAtWorst 17 = .ok (.iconst 1, 1) := by decide +kernel
theorem dX1_leftAtWorst_18 : decode cX1_leftAtWorst 18 = .ok (.isub, 1) := by decide +kernel
theorem dX1_leftAtWorst_19 : decode cX1_leftAtWorst 19 = .ok (.ishr, 1) := by decide +kernel
theorem dX1_leftAtWorst_20 : decode cX1_leftAtWorst 20 = .ok (.iconst 1, 1) := by decide +kernel
theorem dX1_leftAtWorst_21 : decode cX1_leftAtWorst 21 = .ok (.iand, 1) := by decide +kernel
theorem dX1_leftAtWorst_22 : decode cX1_leftAtWorst 22 = .ok (.ifCond .ne 6, 3) := by decide +kernel
theorem dX1_leftAtWorst_25 : decode cX1_leftAtWorst 25 = .ok (.goto 21, 3) := by decide +kernel
theorem dX1_leftAtWorst_28 : decode cX1_leftAtWorst 28 = .ok (.iload_n 1, 1) := by decide +kernel
theorem dX1_leftAtWorst_29 : decode cX1_leftAtWorst 29 = .ok (.iload 4, 2) := by decide +kernel
theorem dX1_leftAtWorst_31 : decode cX1_leftAtWorst 31 = .ok (.invokestatic 49, 3) := by decide +kernel
theorem dX1_leftAtWorst_34 : decode cX1_leftAtWorst 34 = .ok (.if_icmp .le 9, 3) := by decide +kernel
theorem dX1_leftAtWorst_37 : decode cX1_leftAtWorst 37 = .ok (.iinc 2 1, 3) := by decide +kernel
theorem dX1_leftAtWorst_40 : decode cX1_leftAtWorst 40 = .ok (.goto 6, 3) := by decide +kernel
theorem dX1_leftAtWorst_43 : decode cX1_leftAtWorst 43 = .ok (.iinc 3 1, 3) := by decide +kernel
theorem dX1_leftAtWorst_46 : decode cX1_leftAtWorst 46 = .ok (.iinc 4 1, 3) := by decide +kernel
theorem dX1_leftAtWorst_49 : decode cX1_leftAtWorst 49 = .ok (.goto (-42), 3) := by decide +kernel
theorem dX1_leftAtWorst_52 : decode cX1_leftAtWorst 52 = .ok (.iload_n 2, 1) := by decide +kernel
theorem dX1_leftAtWorst_53 : decode cX1_leftAtWorst 53 = .ok (.iload_n 3, 1) := by decide +kernel
theorem dX1_leftAtWorst_54 : decode cX1_leftAtWorst 54 = .ok (.invokestatic 59, 3) := by decide +kernel
theorem dX1_leftAtWorst_57 : decode cX1_leftAtWorst 57 = .ok (.ireturn, 1) := by decide +kernel
theorem dX2_isKind_0 : decode cX2_isKind 0 = .ok (.iload_n 0, 1) := by decide +kernel
theorem dX2_isKind_1 : decode cX2_isKind 1 = .ok (.ifCond .lt 12, 3) := by decide +kernel
theorem dX2_isKind_4 : decode cX2_isKind 4 = .ok (.iload_n 0, 1) := by decide +kernel
theorem dX2_isKind_5 : decode cX2_isKind 5 = .ok (.iconst 4, 1) := by decide +kernel
theorem dX2_isKind_6 : decode cX2_isKind 6 = .ok (.if_icmp .gt 7, 3) := by decide +kernel
theorem dX2_isKind_9 : decode cX2_isKind 9 = .ok (.iconst 1, 1) := by decide +kernel
theorem dX2_isKind_10 : decode cX2_isKind 10 = .ok (.goto 4, 3) := by decide +kernel
theorem dX2_isKind_13 : decode cX2_isKind 13 = .ok (.iconst 0, 1) := by decide +kernel
theorem dX2_isKind_14 : decode cX2_isKind 14 = .ok (.ireturn, 1) := by decide +kernel
theorem dX2_ofLetter_0 : decode cX2_ofLetter 0 = .ok (.ldc 9, 2) := by decide +kernel
theorem dX2_ofLetter_2 : decode cX2_ofLetter 2 = .ok (.iload_n 0, 1) := by decide +kernel
theorem dX2_ofLetter_3 : decode cX2_ofLetter 3 = .ok (.i2c, 1) := by decide +kernel
theorem dX2_ofLetter_4 : decode cX2_ofLetter 4 = .ok (.invokevirtual 11, 3) := by decide +kernel
theorem dX2_ofLetter_7 : decode cX2_ofLetter 7 = .ok (.ireturn, 1) := by decide +kernel
theorem dX2_isA_0 : decode cX2_isA 0 = .ok (.iload_n 1, 1) := by decide +kernel
theorem dX2_isA_1 : decode cX2_isA 1 = .ok (.ifCond .eq 18, 3) := by decide +kernel
theorem dX2_isA_4 : decode cX2_isA 4 = .ok (.iload_n 0, 1) := by decide +kernel
theorem dX2_isA_5 : decode cX2_isA 5 = .ok (.iload_n 1, 1) := by decide +kernel
theorem dX2_isA_6 : decode cX2_isA 6 = .ok (.if_icmp .eq 13, 3) := by decide +kernel
theorem dX2_isA_9 : decode cX2_isA 9 = .ok (.iload_n 1, 1) := by decide +kernel
theorem dX2_isA_10 : decode cX2_isA 10 = .ok (.iconst 1, 1) := by decide +kernel
theorem dX2_isA_11 : decode cX2_isA 11 = .ok (.if_icmp .ne 12, 3) := by decide +kernel
theorem dX2_isA_14 : decode cX2_isA 14 = .ok (.iload_n 0, 1) := by decide +kernel
theorem dX2_isA_15 : decode cX2_isA 15 = .ok (.iconst 4, 1) := by decide +kernel
theorem dX2_isA_16 : decode cX2_isA 16 = .ok (.if_icmp .ne 7, 3) := by decide +kernel
theorem dX2_isA_19 : decode cX2_isA 19 = .ok (.iconst 1, 1) := by decide +kernel
theorem dX2_isA_20 : decode cX2_isA 20 = .ok (.goto 4, 3) := by decide +kernel
theorem dX2_isA_23 : decode cX2_isA 23 = .ok (.iconst 0, 1) := by decide +kernel
theorem dX2_isA_24 : decode cX2_isA 24 = .ok (.ireturn, 1) := by decide +kernel
theorem dX2_growth_0 : decode cX2_growth 0 = .ok (.iload_n 0, 1) := by decide +kernel
theorem dX2_growth_1 : decode cX2_growth 1 = .ok (.tableswitch 43 1 4 #[31, 35, 39, 35], 31) := by decide +kernel
theorem dX2_growth_32 : decode cX2_growth 32 = .ok (.iload_n 1, 1) := by decide +kernel
theorem dX2_growth_33 : decode cX2_growth 33 = .ok (.iconst 1, 1) := by decide +kernel
theorem dX2_growth_34 : decode cX2_growth 34 = .ok (.iadd, 1) := by decide +kernel
theorem dX2_growth_35 : decode cX2_growth 35 = .ok (.ireturn, 1) := by decide +kernel
theorem dX2_growth_36 : decode cX2_growth 36 = .ok (.iload_n 1, 1) := by decide +kernel
theorem dX2_growth_37 : decode cX2_growth 37 = .ok (.iconst 2, 1) := by decide +kernel
theorem dX2_growth_38 : decode cX2_growth 38 = .ok (.iadd, 1) := by decide +kernel
theorem dX2_growth_39 : decode cX2_growth 39 = .ok (.ireturn, 1) := by decide +kernel
theorem dX2_growth_40 : decode cX2_growth 40 = .ok (.iload_n 1, 1) := by decide +kernel
theorem dX2_growth_41 : decode cX2_growth 41 = .ok (.iload_n 1, 1) := by decide +kernel
theorem dX2_growth_42 : decode cX2_growth 42 = .ok (.iadd, 1) := by decide +kernel
theorem dX2_growth_43 : decode cX2_growth 43 = .ok (.ireturn, 1) := by decide +kernel
theorem dX2_growth_44 : decode cX2_growth 44 = .ok (.iload_n 1, 1) := by decide +kernel
theorem dX2_growth_45 : decode cX2_growth 45 = .ok (.ireturn, 1) := by decide +kernel
theorem dX2_onSpot_0 : decode cX2_onSpot 0 = .ok (.iload_n 0, 1) := by decide +kernel
theorem dX2_onSpot_1 : decode cX2_onSpot 1 = .ok (.tableswitch 37 1 4 #[31, 37, 33, 35], 31) := by decide +kernel
theorem dX2_onSpot_32 : decode cX2_onSpot 32 = .ok (.iconst (-1), 1) := by decide +kernel
theorem dX2_onSpot_33 : decode cX2_onSpot 33 = .ok (.ireturn, 1) := by decide +kernel
theorem dX2_onSpot_34 : decode cX2_onSpot 34 = .ok (.iconst 1, 1) := by decide +kernel
theorem dX2_onSpot_35 : decode cX2_onSpot 35 = .ok (.ireturn, 1) := by decide +kernel
theorem dX2_onSpot_36 : decode cX2_onSpot 36 = .ok (.iconst 0, 1) := by decide +kernel
theorem dX2_onSpot_37 : decode cX2_onSpot 37 = .ok (.ireturn, 1) := by decide +kernel
theorem dX2_onSpot_38 : decode cX2_onSpot 38 = .ok (.bipush (-2), 2) := by decide +kernel
theorem dX2_onSpot_40 : decode cX2_onSpot 40 = .ok (.ireturn, 1) := by decide +kernel
theorem dX2_swayAfter_0 : decode cX2_swayAfter 0 = .ok (.iload_n 2, 1) := by decide +kernel
theorem dX2_swayAfter_1 : decode cX2_swayAfter 1 = .ok (.ifCond .ne 16, 3) := by decide +kernel
theorem dX2_swayAfter_4 : decode cX2_swayAfter 4 = .ok (.iconst 0, 1) := by decide +kernel
theorem dX2_swayAfter_5 : decode cX2_swayAfter 5 = .ok (.iload_n 1, 1) := by decide +kernel
theorem dX2_swayAfter_6 : decode cX2_swayAfter 6 = .ok (.iload_n 0, 1) := by decide +kernel
theorem dX2_swayAfter_7 : decode cX2_swayAfter 7 = .ok (.invokestatic 17, 3) := by decide +kernel
theorem dX2_swayAfter_10 : decode cX2_swayAfter 10 = .ok (.iadd, 1) := by decide +kernel
theorem dX2_swayAfter_11 : decode cX2_swayAfter 11 = .ok (.invokestatic 20, 3) := by decide +kernel
theorem dX2_swayAfter_14 : decode cX2_swayAfter 14 = .ok (.goto 10, 3) := by decide +kernel
theorem dX2_swayAfter_17 : decode cX2_swayAfter 17 = .ok (.iload_n 1, 1) := by decide +kernel
theorem dX2_swayAfter_18 : decode cX2_swayAfter 18 = .ok (.iload_n 0, 1) := by decide +kernel
theorem dX2_swayAfter_19 : decode cX2_swayAfter 19 = .ok (.iload_n 2, 1) := by decide +kernel
theorem dX2_swayAfter_20 : decode cX2_swayAfter 20 = .ok (.invokestatic 26, 3) := by decide +kernel
theorem dX2_swayAfter_23 : decode cX2_swayAfter 23 = .ok (.iadd, 1) := by decide +kernel
theorem dX2_swayAfter_24 : decode cX2_swayAfter 24 = .ok (.ireturn, 1) := by decide +kernel
theorem dX3_init_0 : decode cX3_init 0 = .ok (.aload_n 0, 1) := by decide +kernel
theorem dX3_init_1 : decode cX3_init 1 = .ok (.invokespecial 3, 3) := by decide +kernel
theorem dX3_init_4 : decode cX3_init 4 = .ok (.aload_n 0, 1) := by decide +kernel
theorem dX3_init_5 : decode cX3_init 5 = .ok (.bipush 16, 2) := by decide +kernel
theorem dX3_init_7 : decode cX3_init 7 = .ok (.newarray .int, 2) := by decide +kernel
theorem dX3_init_9 : decode cX3_init 9 = .ok (.putfield 11, 3) := by decide +kernel
theorem dX3_init_12 : decode cX3_init 12 = .ok (.aload_n 0, 1) := by decide +kernel
theorem dX3_init_13 : decode cX3_init 13 = .ok (.iconst 0, 1) := by decide +kernel
theorem dX3_init_14 : decode cX3_init 14 = .ok (.putfield 15, 3) := by decide +kernel
theorem dX3_init_17 : decode cX3_init 17 = .ok (.return_, 1) := by decide +kernel
theorem dX3_size_0 : decode cX3_size 0 = .ok (.aload_n 0, 1) := by decide +kernel
theorem dX3_size_1 : decode cX3_size 1 = .ok (.getfield 15, 3) := by decide +kernel
theorem dX3_size_4 : decode cX3_size 4 = .ok (.ireturn, 1) := by decide +kernel
theorem dX3_codeAt_0 : decode cX3_codeAt 0 = .ok (.iload_n 1, 1) := by decide +kernel
theorem dX3_codeAt_1 : decode cX3_codeAt 1 = .ok (.ifCond .lt 26, 3) := by decide +kernel
theorem dX3_codeAt_4 : decode cX3_codeAt 4 = .ok (.iload_n 1, 1) := by decide +kernel
theorem dX3_codeAt_5 : decode cX3_codeAt 5 = .ok (.aload_n 0, 1) := by decide +kernel
theorem dX3_codeAt_6 : decode cX3_codeAt 6 = .ok (.getfield 15, 3) := by decide +kernel
theorem dX3_codeAt_9 : decode cX3_codeAt 9 = .ok (.if_icmp .ge 18, 3) := by decide +kernel
theorem dX3_codeAt_12 : decode cX3_codeAt 12 = .ok (.iload_n 1, 1) := by decide +kernel
theorem dX3_codeAt_13 : decode cX3_codeAt 13 = .ok (.bipush 16, 2) := by decide +kernel
theorem dX3_codeAt_15 : decode cX3_codeAt 15 = .ok (.if_icmp .ge 12, 3) := by decide +kernel
theorem dX3_codeAt_18 : decode cX3_codeAt 18 = .ok (.aload_n 0, 1) := by decide +kernel
theorem dX3_codeAt_19 : decode cX3_codeAt 19 = .ok (.getfield 11, 3) := by decide +kernel
theorem dX3_codeAt_22 : decode cX3_codeAt 22 = .ok (.iload_n 1, 1) := by decide +kernel
theorem dX3_codeAt_23 : decode cX3_codeAt 23 = .ok (.iaload, 1) := by decide +kernel
theorem dX3_codeAt_24 : decode cX3_codeAt 24 = .ok (.goto 4, 3) := by decide +kernel
theorem dX3_codeAt_27 : decode cX3_codeAt 27 = .ok (.iconst 0, 1) := by decide +kernel
theorem dX3_codeAt_28 : decode cX3_codeAt 28 = .ok (.ireturn, 1) := by decide +kernel
theorem dX3_append_0 : decode cX3_append 0 = .ok (.aload_n 0, 1) := by decide +kernel
theorem dX3_append_1 : decode cX3_append 1 = .ok (.getfield 15, 3) := by decide +kernel
theorem dX3_append_4 : decode cX3_append 4 = .ok (.ifCond .lt 12, 3) := by decide +kernel
theorem dX3_append_7 : decode cX3_append 7 = .ok (.aload_n 0, 1) := by decide +kernel
theorem dX3_append_8 : decode cX3_append 8 = .ok (.getfield 15, 3) := by decide +kernel
theorem dX3_append_11 : decode cX3_append 11 = .ok (.bipush 16, 2) := by decide +kernel
theorem dX3_append_13 : decode cX3_append 13 = .ok (.if_icmp .lt 5, 3) := by decide +kernel
theorem dX3_append_16 : decode cX3_append 16 = .ok (.iconst 0, 1) := by decide +kernel
theorem dX3_append_17 : decode cX3_append 17 = .ok (.ireturn, 1) := by decide +kernel
theorem dX3_append_18 : decode cX3_append 18 = .ok (.aload_n 0, 1) := by decide +kernel
theorem dX3_append_19 : decode cX3_append 19 = .ok (.getfield 11, 3) := by decide +kernel
theorem dX3_append_22 : decode cX3_append 22 = .ok (.aload_n 0, 1) := by decide +kernel
theorem dX3_append_23 : decode cX3_append 23 = .ok (.getfield 15, 3) := by decide +kernel
theorem dX3_append_26 : decode cX3_append 26 = .ok (.iload_n 1, 1) := by decide +kernel
theorem dX3_append_27 : decode cX3_append 27 = .ok (.iastore, 1) := by decide +kernel
theorem dX3_append_28 : decode cX3_append 28 = .ok (.aload_n 0, 1) := by decide +kernel
theorem dX3_append_29 : decode cX3_append 29 = .ok (.dup, 1) := by decide +kernel
theorem dX3_append_30 : decode cX3_append 30 = .ok (.getfield 15, 3) := by decide +kernel
theorem dX3_append_33 : decode cX3_append 33 = .ok (.iconst 1, 1) := by decide +kernel
theorem dX3_append_34 : decode cX3_append 34 = .ok (.iadd, 1) := by decide +kernel
theorem dX3_append_35 : decode cX3_append 35 = .ok (.putfield 15, 3) := by decide +kernel
theorem dX3_append_38 : decode cX3_append 38 = .ok (.iconst 1, 1) := by decide +kernel
theorem dX3_append_39 : decode cX3_append 39 = .ok (.ireturn, 1) := by decide +kernel
theorem dX3_clear_0 : decode cX3_clear 0 = .ok (.aload_n 0, 1) := by decide +kernel
theorem dX3_clear_1 : decode cX3_clear 1 = .ok (.getfield 15, 3) := by decide +kernel
theorem dX3_clear_4 : decode cX3_clear 4 = .ok (.istore_n 1, 1) := by decide +kernel
theorem dX3_clear_5 : decode cX3_clear 5 = .ok (.aload_n 0, 1) := by decide +kernel
theorem dX3_clear_6 : decode cX3_clear 6 = .ok (.iconst 0, 1) := by decide +kernel
theorem dX3_clear_7 : decode cX3_clear 7 = .ok (.putfield 15, 3) := by decide +kernel
theorem dX3_clear_10 : decode cX3_clear 10 = .ok (.iload_n 1, 1) := by decide +kernel
theorem dX3_clear_11 : decode cX3_clear 11 = .ok (.ireturn, 1) := by decide +kernel
theorem dX3_placesAhead_0 : decode cX3_placesAhead 0 = .ok (.iconst 0, 1) := by decide +kernel
theorem dX3_placesAhead_1 : decode cX3_placesAhead 1 = .ok (.istore_n 1, 1) := by decide +kernel
theorem dX3_placesAhead_2 : decode cX3_placesAhead 2 = .ok (.iload_n 1, 1) := by decide +kernel
theorem dX3_placesAhead_3 : decode cX3_placesAhead 3 = .ok (.aload_n 0, 1) := by decide +kernel
theorem dX3_placesAhead_4 : decode cX3_placesAhead 4 = .ok (.getfield 15, 3) := by decide +kernel
theorem dX3_placesAhead_7 : decode cX3_placesAhead 7 = .ok (.if_icmp .ge 27, 3) := by decide +kernel
theorem dX3_placesAhead_10 : decode cX3_placesAhead 10 = .ok (.iload_n 1, 1) := by decide +kernel
theorem dX3_placesAhead_11 : decode cX3_placesAhead 11 = .ok (.bipush 12, 2) := by decide +kernel
theorem dX3_placesAhead_13 : decode cX3_placesAhead 13 = .ok (.if_icmp .ge 21, 3) := by decide +kernel
theorem dX3_placesAhead_16 : decode cX3_placesAhead 16 = .ok (.aload_n 0, 1) := by decide +kernel
theorem dX3_placesAhead_17 : decode cX3_placesAhead 17 = .ok (.iload_n 1, 1) := by decide +kernel
theorem dX3_placesAhead_18 : decode cX3_placesAhead 18 = .ok (.invokevirtual 19, 3) := by decide +kernel
theorem dX3_placesAhead_21 : decode cX3_placesAhead 21 = .ok (.invokestatic 23, 3) := by decide +kernel
theorem dX3_placesAhead_24 : decode cX3_placesAhead 24 = .ok (.iconst (-1), 1) := by decide +kernel
theorem dX3_placesAhead_25 : decode cX3_placesAhead 25 = .ok (.if_icmp .eq 9, 3) := by decide +kernel
theorem dX3_placesAhead_28 : decode cX3_placesAhead 28 = .ok (.iinc 1 1, 3) := by decide +kernel
theorem dX3_placesAhead_31 : decode cX3_placesAhead 31 = .ok (.goto (-29), 3) := by decide +kernel
theorem dX3_placesAhead_34 : decode cX3_placesAhead 34 = .ok (.iload_n 1, 1) := by decide +kernel
theorem dX3_placesAhead_35 : decode cX3_placesAhead 35 = .ok (.ireturn, 1) := by decide +kernel
theorem dX3_firstWrong_0 : decode cX3_firstWrong 0 = .ok (.aload_n 0, 1) := by decide +kernel
theorem dX3_firstWrong_1 : decode cX3_firstWrong 1 = .ok (.invokevirtual 28, 3) := by decide +kernel
theorem dX3_firstWrong_4 : decode cX3_firstWrong 4 = .ok (.istore_n 1, 1) := by decide +kernel
theorem dX3_firstWrong_5 : decode cX3_firstWrong 5 = .ok (.iload_n 1, 1) := by decide +kernel
theorem dX3_firstWrong_6 : decode cX3_firstWrong 6 = .ok (.aload_n 0, 1) := by decide +kernel
theorem dX3_firstWrong_7 : decode cX3_firstWrong 7 = .ok (.getfield 15, 3) := by decide +kernel
theorem dX3_firstWrong_10 : decode cX3_firstWrong 10 = .ok (.if_icmp .ge 18, 3) := by decide +kernel
theorem dX3_firstWrong_13 : decode cX3_firstWrong 13 = .ok (.iload_n 1, 1) := by decide +kernel
theorem dX3_firstWrong_14 : decode cX3_firstWrong 14 = .ok (.iconst 4, 1) := by decide +kernel
theorem dX3_firstWrong_15 : decode cX3_firstWrong 15 = .ok (.if_icmp .lt 13, 3) := by decide +kernel
theorem dX3_firstWrong_18 : decode cX3_firstWrong 18 = .ok (.aload_n 0, 1) := by decide +kernel
theorem dX3_firstWrong_19 : decode cX3_firstWrong 19 = .ok (.iload_n 1, 1) := by decide +kernel
theorem dX3_firstWrong_20 : decode cX3_firstWrong 20 = .ok (.invokevirtual 19, 3) := by decide +kernel
theorem dX3_firstWrong_23 : decode cX3_firstWrong 23 = .ok (.bipush 59, 2) := by decide +kernel
theorem dX3_firstWrong_25 : decode cX3_firstWrong 25 = .ok (.if_icmp .eq 5, 3) := by decide +kernel
theorem dX3_firstWrong_28 : decode cX3_firstWrong 28 = .ok (.iload_n 1, 1) := by decide +kernel
theorem dX3_firstWrong_29 : decode cX3_firstWrong 29 = .ok (.ireturn, 1) := by decide +kernel
theorem dX3_firstWrong_30 : decode cX3_firstWrong 30 = .ok (.iload_n 1, 1) := by decide +kernel
theorem dX3_firstWrong_31 : decode cX3_firstWrong 31 = .ok (.iconst 1, 1) := by decide +kernel
theorem dX3_firstWrong_32 : decode cX3_firstWrong 32 = .ok (.iadd, 1) := by decide +kernel
theorem dX3_firstWrong_33 : decode cX3_firstWrong 33 = .ok (.istore_n 2, 1) := by decide +kernel
theorem dX3_firstWrong_34 : decode cX3_firstWrong 34 = .ok (.iload_n 2, 1) := by decide +kernel
theorem dX3_firstWrong_35 : decode cX3_firstWrong 35 = .ok (.aload_n 0, 1) := by decide +kernel
theorem dX3_firstWrong_36 : decode cX3_firstWrong 36 = .ok (.getfield 15, 3) := by decide +kernel
theorem dX3_firstWrong_39 : decode cX3_firstWrong 39 = .ok (.if_icmp .ge 23, 3) := by decide +kernel
theorem dX3_firstWrong_42 : decode cX3_firstWrong 42 = .ok (.aload_n 0, 1) := by decide +kernel
theorem dX3_firstWrong_43 : decode cX3_firstWrong 43 = .ok (.iload_n 2, 1) := by decide +kernel
theorem dX3_firstWrong_44 : decode cX3_firstWrong 44 = .ok (.invokevirtual 19, 3) := by decide +kernel
theorem dX3_firstWrong_47 : decode cX3_firstWrong 47 = .ok (.bipush 49, 2) := by decide +kernel
theorem dX3_firstWrong_49 : decode cX3_firstWrong 49 = .ok (.if_icmp .lt 13, 3) := by decide +kernel
theorem dX3_firstWrong_52 : decode cX3_firstWrong 52 = .ok (.aload_n 0, 1) := by decide +kernel
theorem dX3_firstWrong_53 : decode cX3_firstWrong 53 = .ok (.iload_n 2, 1) := by decide +kernel
theorem dX3_firstWrong_54 : decode cX3_firstWrong 54 = .ok (.invokevirtual 19, 3) := by decide +kernel
theorem dX3_firstWrong_57 : decode cX3_firstWrong 57 = .ok (.bipush 57, 2) := by decide +kernel
theorem dX3_firstWrong_59 : decode cX3_firstWrong 59 = .ok (.if_icmp .le 5, 3) := by decide +kernel
theorem dX3_firstWrong_62 : decode cX3_firstWrong 62 = .ok (.iload_n 2, 1) := by decide +kernel
theorem dX3_firstWrong_63 : decode cX3_firstWrong 63 = .ok (.ireturn, 1) := by decide +kernel
theorem dX3_firstWrong_64 : decode cX3_firstWrong 64 = .ok (.iload_n 2, 1) := by decide +kernel
theorem dX3_firstWrong_65 : decode cX3_firstWrong 65 = .ok (.iconst 1, 1) := by decide +kernel
theorem dX3_firstWrong_66 : decode cX3_firstWrong 66 = .ok (.iadd, 1) := by decide +kernel
theorem dX3_firstWrong_67 : decode cX3_firstWrong 67 = .ok (.ireturn, 1) := by decide +kernel
theorem dX3_isWhole_0 : decode cX3_isWhole 0 = .ok (.aload_n 0, 1) := by decide +kernel
theorem dX3_isWhole_1 : decode cX3_isWhole 1 = .ok (.invokevirtual 28, 3) := by decide +kernel
theorem dX3_isWhole_4 : decode cX3_isWhole 4 = .ok (.istore_n 1, 1) := by decide +kernel
theorem dX3_isWhole_5 : decode cX3_isWhole 5 = .ok (.aload_n 0, 1) := by decide +kernel
theorem dX3_isWhole_6 : decode cX3_isWhole 6 = .ok (.getfield 15, 3) := by decide +kernel
theorem dX3_isWhole_9 : decode cX3_isWhole 9 = .ok (.iload_n 1, 1) := by decide +kernel
theorem dX3_isWhole_10 : decode cX3_isWhole 10 = .ok (.iconst 2, 1) := by decide +kernel
theorem dX3_isWhole_11 : decode cX3_isWhole 11 = .ok (.iadd, 1) := by decide +kernel
theorem dX3_isWhole_12 : decode cX3_isWhole 12 = .ok (.if_icmp .ne 18, 3) := by decide +kernel
theorem dX3_isWhole_15 : decode cX3_isWhole 15 = .ok (.aload_n 0, 1) := by decide +kernel
theorem dX3_isWhole_16 : decode cX3_isWhole 16 = .ok (.invokevirtual 32, 3) := by decide +kernel
theorem dX3_isWhole_19 : decode cX3_isWhole 19 = .ok (.aload_n 0, 1) := by decide +kernel
theorem dX3_isWhole_20 : decode cX3_isWhole 20 = .ok (.getfield 15, 3) := by decide +kernel
theorem dX3_isWhole_23 : decode cX3_isWhole 23 = .ok (.if_icmp .ne 7, 3) := by decide +kernel
theorem dX3_isWhole_26 : decode cX3_isWhole 26 = .ok (.iconst 1, 1) := by decide +kernel
theorem dX3_isWhole_27 : decode cX3_isWhole 27 = .ok (.goto 4, 3) := by decide +kernel
theorem dX3_isWhole_30 : decode cX3_isWhole 30 = .ok (.iconst 0, 1) := by decide +kernel
theorem dX3_isWhole_31 : decode cX3_isWhole 31 = .ok (.ireturn, 1) := by decide +kernel
theorem dX3_height_0 : decode cX3_height 0 = .ok (.aload_n 0, 1) := by decide +kernel
theorem dX3_height_1 : decode cX3_height 1 = .ok (.aload_n 0, 1) := by decide +kernel
theorem dX3_height_2 : decode cX3_height 2 = .ok (.getfield 15, 3) := by decide +kernel
theorem dX3_height_5 : decode cX3_height 5 = .ok (.iconst 1, 1) := by decide +kernel
theorem dX3_height_6 : decode cX3_height 6 = .ok (.isub, 1) := by decide +kernel
theorem dX3_height_7 : decode cX3_height 7 = .ok (.invokevirtual 19, 3) := by decide +kernel
theorem dX3_height_10 : decode cX3_height 10 = .ok (.bipush 48, 2) := by decide +kernel
theorem dX3_height_12 : decode cX3_height 12 = .ok (.isub, 1) := by decide +kernel
theorem dX3_height_13 : decode cX3_height 13 = .ok (.ireturn, 1) := by decide +kernel
theorem dX4_init_0 : decode cX4_init 0 = .ok (.aload_n 0, 1) := by decide +kernel
theorem dX4_init_1 : decode cX4_init 1 = .ok (.invokespecial 3, 3) := by decide +kernel
theorem dX4_init_4 : decode cX4_init 4 = .ok (.aload_n 0, 1) := by decide +kernel
theorem dX4_init_5 : decode cX4_init 5 = .ok (.sipush 144, 3) := by decide +kernel
theorem dX4_init_8 : decode cX4_init 8 = .ok (.newarray .int, 2) := by decide +kernel
theorem dX4_init_10 : decode cX4_init 10 = .ok (.putfield 11, 3) := by decide +kernel
theorem dX4_init_13 : decode cX4_init 13 = .ok (.aload_n 0, 1) := by decide +kernel
theorem dX4_init_14 : decode cX4_init 14 = .ok (.sipush 144, 3) := by decide +kernel
theorem dX4_init_17 : decode cX4_init 17 = .ok (.newarray .int, 2) := by decide +kernel
theorem dX4_init_19 : decode cX4_init 19 = .ok (.putfield 15, 3) := by decide +kernel
theorem dX4_init_22 : decode cX4_init 22 = .ok (.aload_n 0, 1) := by decide +kernel
theorem dX4_init_23 : decode cX4_init 23 = .ok (.sipush 144, 3) := by decide +kernel
theorem dX4_init_26 : decode cX4_init 26 = .ok (.newarray .int, 2) := by decide +kernel
theorem dX4_init_28 : decode cX4_init 28 = .ok (.putfield 18, 3) := by decide +kernel
theorem dX4_init_31 : decode cX4_init 31 = .ok (.aload_n 0, 1) := by decide +kernel
theorem dX4_init_32 : decode cX4_init 32 = .ok (.sipush 144, 3) := by decide +kernel
theorem dX4_init_35 : decode cX4_init 35 = .ok (.newarray .int, 2) := by decide +kernel
theorem dX4_init_37 : decode cX4_init 37 = .ok (.putfield 21, 3) := by decide +kernel
theorem dX4_init_40 : decode cX4_init 40 = .ok (.aload_n 0, 1) := by decide +kernel
theorem dX4_init_41 : decode cX4_init 41 = .ok (.iconst 0, 1) := by decide +kernel
theorem dX4_init_42 : decode cX4_init 42 = .ok (.putfield 24, 3) := by decide +kernel
theorem dX4_init_45 : decode cX4_init 45 = .ok (.aload_n 0, 1) := by decide +kernel
theorem dX4_init_46 : decode cX4_init 46 = .ok (.iconst (-1), 1) := by decide +kernel
theorem dX4_init_47 : decode cX4_init 47 = .ok (.putfield 28, 3) := by decide +kernel
theorem dX4_init_50 : decode cX4_init 50 = .ok (.return_, 1) := by decide +kernel
theorem dX4_fewest_0 : decode cX4_fewest 0 = .ok (.aload_n 0, 1) := by decide +kernel
theorem dX4_fewest_1 : decode cX4_fewest 1 = .ok (.iconst 0, 1) := by decide +kernel
theorem dX4_fewest_2 : decode cX4_fewest 2 = .ok (.putfield 24, 3) := by decide +kernel
theorem dX4_fewest_5 : decode cX4_fewest 5 = .ok (.aload_n 0, 1) := by decide +kernel
theorem dX4_fewest_6 : decode cX4_fewest 6 = .ok (.iconst (-1), 1) := by decide +kernel
theorem dX4_fewest_7 : decode cX4_fewest 7 = .ok (.putfield 28, 3) := by decide +kernel
theorem dX4_fewest_10 : decode cX4_fewest 10 = .ok (.iconst 0, 1) := by decide +kernel
theorem dX4_fewest_11 : decode cX4_fewest 11 = .ok (.istore 5, 2) := by decide +kernel
theorem dX4_fewest_13 : decode cX4_fewest 13 = .ok (.iload 5, 2) := by decide +kernel
theorem dX4_fewest_15 : decode cX4_fewest 15 = .ok (.sipush 144, 3) := by decide +kernel
theorem dX4_fewest_18 : decode cX4_fewest 18 = .ok (.if_icmp .ge 17, 3) := by decide +kernel
theorem dX4_fewest_21 : decode cX4_fewest 21 = .ok (.aload_n 0, 1) := by decide +kernel
theorem dX4_fewest_22 : decode cX4_fewest 22 = .ok (.getfield 15, 3) := by decide +kernel
theorem dX4_fewest_25 : decode cX4_fewest 25 = .ok (.iload 5, 2) := by decide +kernel
theorem dX4_fewest_27 : decode cX4_fewest 27 = .ok (.iconst (-1), 1) := by decide +kernel
theorem dX4_fewest_28 : decode cX4_fewest 28 = .ok (.iastore, 1) := by decide +kernel
theorem dX4_fewest_29 : decode cX4_fewest 29 = .ok (.iinc 5 1, 3) := by decide +kernel
theorem dX4_fewest_32 : decode cX4_fewest 32 = .ok (.goto (-19), 3) := by decide +kernel
theorem dX4_fewest_35 : decode cX4_fewest 35 = .ok (.aload_n 1, 1) := by decide +kernel
theorem dX4_fewest_36 : decode cX4_fewest 36 = .ok (.invokevirtual 31, 3) := by decide +kernel
theorem dX4_fewest_39 : decode cX4_fewest 39 = .ok (.iconst 1, 1) := by decide +kernel
theorem dX4_fewest_40 : decode cX4_fewest 40 = .ok (.isub, 1) := by decide +kernel
theorem dX4_fewest_41 : decode cX4_fewest 41 = .ok (.istore 5, 2) := by decide +kernel
theorem dX4_fewest_43 : decode cX4_fewest 43 = .ok (.aload_n 0, 1) := by decide +kernel
theorem dX4_fewest_44 : decode cX4_fewest 44 = .ok (.iload_n 3, 1) := by decide +kernel
theorem dX4_fewest_45 : decode cX4_fewest 45 = .ok (.iload 4, 2) := by decide +kernel
theorem dX4_fewest_47 : decode cX4_fewest 47 = .ok (.iconst (-1), 1) := by decide +kernel
theorem dX4_fewest_48 : decode cX4_fewest 48 = .ok (.iconst 0, 1) := by decide +kernel
theorem dX4_fewest_49 : decode cX4_fewest 49 = .ok (.iload 5, 2) := by decide +kernel
theorem dX4_fewest_51 : decode cX4_fewest 51 = .ok (.invokevirtual 37, 3) := by decide +kernel
theorem dX4_fewest_54 : decode cX4_fewest 54 = .ok (.iconst 0, 1) := by decide +kernel
theorem dX4_fewest_55 : decode cX4_fewest 55 = .ok (.istore 6, 2) := by decide +kernel
theorem dX4_fewest_57 : decode cX4_fewest 57 = .ok (.iload 6, 2) := by decide +kernel
theorem dX4_fewest_59 : decode cX4_fewest 59 = .ok (.aload_n 0, 1) := by decide +kernel
theorem dX4_fewest_60 : decode cX4_fewest 60 = .ok (.getfield 24, 3) := by decide +kernel
theorem dX4_fewest_63 : decode cX4_fewest 63 = .ok (.if_icmp .ge 43, 3) := by decide +kernel
theorem dX4_fewest_66 : decode cX4_fewest 66 = .ok (.iload 6, 2) := by decide +kernel
theorem dX4_fewest_68 : decode cX4_fewest 68 = .ok (.sipush 144, 3) := by decide +kernel
theorem dX4_fewest_71 : decode cX4_fewest 71 = .ok (.if_icmp .ge 35, 3) := by decide +kernel
theorem dX4_fewest_74 : decode cX4_fewest 74 = .ok (.aload_n 0, 1) := by decide +kernel
theorem dX4_fewest_75 : decode cX4_fewest 75 = .ok (.getfield 28, 3) := by decide +kernel
theorem dX4_fewest_78 : decode cX4_fewest 78 = .ok (.iconst (-1), 1) := by decide +kernel
theorem dX4_fewest_79 : decode cX4_fewest 79 = .ok (.if_icmp .ne 27, 3) := by decide +kernel
theorem dX4_fewest_82 : decode cX4_fewest 82 = .ok (.aload_n 0, 1) := by decide +kernel
theorem dX4_fewest_83 : decode cX4_fewest 83 = .ok (.aload_n 1, 1) := by decide +kernel
theorem dX4_fewest_84 : decode cX4_fewest 84 = .ok (.iload_n 2, 1) := by decide +kernel
theorem dX4_fewest_85 : decode cX4_fewest 85 = .ok (.invokestatic 41, 3) := by decide +kernel
theorem dX4_fewest_88 : decode cX4_fewest 88 = .ok (.aload_n 0, 1) := by decide +kernel
theorem dX4_fewest_89 : decode cX4_fewest 89 = .ok (.getfield 11, 3) := by decide +kernel
theorem dX4_fewest_92 : decode cX4_fewest 92 = .ok (.iload 6, 2) := by decide +kernel
theorem dX4_fewest_94 : decode cX4_fewest 94 = .ok (.iaload, 1) := by decide +kernel
theorem dX4_fewest_95 : decode cX4_fewest 95 = .ok (.iload 5, 2) := by decide +kernel
theorem dX4_fewest_97 : decode cX4_fewest 97 = .ok (.invokevirtual 45, 3) := by decide +kernel
theorem dX4_fewest_100 : decode cX4_fewest 100 = .ok (.iinc 6 1, 3) := by decide +kernel
theorem dX4_fewest_103 : decode cX4_fewest 103 = .ok (.goto (-46), 3) := by decide +kernel
theorem dX4_fewest_106 : decode cX4_fewest 106 = .ok (.aload_n 0, 1) := by decide +kernel
theorem dX4_fewest_107 : decode cX4_fewest 107 = .ok (.aload_n 0, 1) := by decide +kernel
theorem dX4_fewest_108 : decode cX4_fewest 108 = .ok (.getfield 28, 3) := by decide +kernel
theorem dX4_fewest_111 : decode cX4_fewest 111 = .ok (.invokevirtual 49, 3) := by decide +kernel
theorem dX4_fewest_114 : decode cX4_fewest 114 = .ok (.ireturn, 1) := by decide +kernel
theorem dX4_farOfStep_0 : decode cX4_farOfStep 0 = .ok (.aload_n 0, 1) := by decide +kernel
theorem dX4_farOfStep_1 : decode cX4_farOfStep 1 = .ok (.getfield 28, 3) := by decide +kernel
theorem dX4_farOfStep_4 : decode cX4_farOfStep 4 = .ok (.istore_n 2, 1) := by decide +kernel
theorem dX4_farOfStep_5 : decode cX4_farOfStep 5 = .ok (.aload_n 0, 1) := by decide +kernel
theorem dX4_farOfStep_6 : decode cX4_farOfStep 6 = .ok (.aload_n 0, 1) := by decide +kernel
theorem dX4_farOfStep_7 : decode cX4_farOfStep 7 = .ok (.getfield 28, 3) := by decide +kernel
theorem dX4_farOfStep_10 : decode cX4_farOfStep 10 = .ok (.invokevirtual 49, 3) := by decide +kernel
theorem dX4_farOfStep_13 : decode cX4_farOfStep 13 = .ok (.istore_n 3, 1) := by decide +kernel
theorem dX4_farOfStep_14 : decode cX4_farOfStep 14 = .ok (.iload_n 3, 1) := by decide +kernel
theorem dX4_farOfStep_15 : decode cX4_farOfStep 15 = .ok (.iload_n 1, 1) := by decide +kernel
theorem dX4_farOfStep_16 : decode cX4_farOfStep 16 = .ok (.if_icmp .le 23, 3) := by decide +kernel
theorem dX4_farOfStep_19 : decode cX4_farOfStep 19 = .ok (.iload_n 2, 1) := by decide +kernel
theorem dX4_farOfStep_20 : decode cX4_farOfStep 20 = .ok (.invokestatic 52, 3) := by decide +kernel
theorem dX4_farOfStep_23 : decode cX4_farOfStep 23 = .ok (.ifCond .eq 16, 3) := by decide +kernel
theorem dX4_farOfStep_26 : decode cX4_farOfStep 26 = .ok (.aload_n 0, 1) := by decide +kernel
theorem dX4_farOfStep_27 : decode cX4_farOfStep 27 = .ok (.getfield 18, 3) := by decide +kernel
theorem dX4_farOfStep_30 : decode cX4_farOfStep 30 = .ok (.iload_n 2, 1) := by decide +kernel
theorem dX4_farOfStep_31 : decode cX4_farOfStep 31 = .ok (.iaload, 1) := by decide +kernel
theorem dX4_farOfStep_32 : decode cX4_farOfStep 32 = .ok (.istore_n 2, 1) := by decide +kernel
theorem dX4_farOfStep_33 : decode cX4_farOfStep 33 = .ok (.iinc 3 (-1), 3) := by decide +kernel
theorem dX4_farOfStep_36 : decode cX4_farOfStep 36 = .ok (.goto (-22), 3) := by decide +kernel
theorem dX4_farOfStep_39 : decode cX4_farOfStep 39 = .ok (.iload_n 1, 1) := by decide +kernel
theorem dX4_farOfStep_40 : decode cX4_farOfStep 40 = .ok (.iconst 1, 1) := by decide +kernel
theorem dX4_farOfStep_41 : decode cX4_farOfStep 41 = .ok (.if_icmp .lt 29, 3) := by decide +kernel
theorem dX4_farOfStep_44 : decode cX4_farOfStep 44 = .ok (.iload_n 2, 1) := by decide +kernel
theorem dX4_farOfStep_45 : decode cX4_farOfStep 45 = .ok (.invokestatic 52, 3) := by decide +kernel
theorem dX4_farOfStep_48 : decode cX4_farOfStep 48 = .ok (.ifCond .eq 22, 3) := by decide +kernel
theorem dX4_farOfStep_51 : decode cX4_farOfStep 51 = .ok (.aload_n 0, 1) := by decide +kernel
theorem dX4_farOfStep_52 : decode cX4_farOfStep 52 = .ok (.getfield 15, 3) := by decide +kernel
theorem dX4_farOfStep_55 : decode cX4_farOfStep 55 = .ok (.iload_n 2, 1) := by decide +kernel
theorem dX4_farOfStep_56 : decode cX4_farOfStep 56 = .ok (.iaload, 1) := by decide +kernel
theorem dX4_farOfStep_57 : decode cX4_farOfStep 57 = .ok (.iload_n 1, 1) := by decide +kernel
theorem dX4_farOfStep_58 : decode cX4_farOfStep 58 = .ok (.if_icmp .ne 12, 3) := by decide +kernel
theorem dX4_farOfStep_61 : decode cX4_farOfStep 61 = .ok (.aload_n 0, 1) := by decide +kernel
theorem dX4_farOfStep_62 : decode cX4_farOfStep 62 = .ok (.getfield 21, 3) := by decide +kernel
theorem dX4_farOfStep_65 : decode cX4_farOfStep 65 = .ok (.iload_n 2, 1) := by decide +kernel
theorem dX4_farOfStep_66 : decode cX4_farOfStep 66 = .ok (.iaload, 1) := by decide +kernel
theorem dX4_farOfStep_67 : decode cX4_farOfStep 67 = .ok (.goto 4, 3) := by decide +kernel
