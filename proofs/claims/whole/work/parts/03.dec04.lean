theorem dX7_hear_105 : decode cX7_hear 105 = .ok (.getfield 94, 3) := by decide +kernel
theorem dX7_hear_108 : decode cX7_hear 108 = .ok (.ireturn, 1) := by decide +kernel
theorem dX7_forget_0 : decode cX7_forget 0 = .ok (.aload_n 0, 1) := by decide +kernel
theorem dX7_forget_1 : decode cX7_forget 1 = .ok (.getfield 94, 3) := by decide +kernel
theorem dX7_forget_4 : decode cX7_forget 4 = .ok (.istore_n 1, 1) := by decide +kernel
theorem dX7_forget_5 : decode cX7_forget 5 = .ok (.aload_n 0, 1) := by decide +kernel
theorem dX7_forget_6 : decode cX7_forget 6 = .ok (.iconst 0, 1) := by decide +kernel
theorem dX7_forget_7 : decode cX7_forget 7 = .ok (.putfield 94, 3) := by decide +kernel
theorem dX7_forget_10 : decode cX7_forget 10 = .ok (.iload_n 1, 1) := by decide +kernel
theorem dX7_forget_11 : decode cX7_forget 11 = .ok (.ireturn, 1) := by decide +kernel
theorem dX7_heightsNow_0 : decode cX7_heightsNow 0 = .ok (.iconst 0, 1) := by decide +kernel
theorem dX7_heightsNow_1 : decode cX7_heightsNow 1 = .ok (.istore_n 1, 1) := by decide +kernel
theorem dX7_heightsNow_2 : decode cX7_heightsNow 2 = .ok (.iconst 1, 1) := by decide +kernel
theorem dX7_heightsNow_3 : decode cX7_heightsNow 3 = .ok (.istore_n 2, 1) := by decide +kernel
theorem dX7_heightsNow_4 : decode cX7_heightsNow 4 = .ok (.iload_n 2, 1) := by decide +kernel
theorem dX7_heightsNow_5 : decode cX7_heightsNow 5 = .ok (.bipush 9, 2) := by decide +kernel
theorem dX7_heightsNow_7 : decode cX7_heightsNow 7 = .ok (.if_icmp .gt 111, 3) := by decide +kernel
theorem dX7_heightsNow_10 : decode cX7_heightsNow 10 = .ok (.iconst 1, 1) := by decide +kernel
theorem dX7_heightsNow_11 : decode cX7_heightsNow 11 = .ok (.istore_n 3, 1) := by decide +kernel
theorem dX7_heightsNow_12 : decode cX7_heightsNow 12 = .ok (.iconst 0, 1) := by decide +kernel
theorem dX7_heightsNow_13 : decode cX7_heightsNow 13 = .ok (.istore 4, 2) := by decide +kernel
theorem dX7_heightsNow_15 : decode cX7_heightsNow 15 = .ok (.iload 4, 2) := by decide +kernel
theorem dX7_heightsNow_17 : decode cX7_heightsNow 17 = .ok (.aload_n 0, 1) := by decide +kernel
theorem dX7_heightsNow_18 : decode cX7_heightsNow 18 = .ok (.getfield 94, 3) := by decide +kernel
theorem dX7_heightsNow_21 : decode cX7_heightsNow 21 = .ok (.if_icmp .ge 75, 3) := by decide +kernel
theorem dX7_heightsNow_24 : decode cX7_heightsNow 24 = .ok (.iload_n 3, 1) := by decide +kernel
theorem dX7_heightsNow_25 : decode cX7_heightsNow 25 = .ok (.ifCond .eq 63, 3) := by decide +kernel
theorem dX7_heightsNow_28 : decode cX7_heightsNow 28 = .ok (.aload_n 0, 1) := by decide +kernel
theorem dX7_heightsNow_29 : decode cX7_heightsNow 29 = .ok (.aload_n 0, 1) := by decide +kernel
theorem dX7_heightsNow_30 : decode cX7_heightsNow 30 = .ok (.getfield 13, 3) := by decide +kernel
theorem dX7_heightsNow_33 : decode cX7_heightsNow 33 = .ok (.iload 4, 2) := by decide +kernel
theorem dX7_heightsNow_35 : decode cX7_heightsNow 35 = .ok (.iaload, 1) := by decide +kernel
theorem dX7_heightsNow_36 : decode cX7_heightsNow 36 = .ok (.aload_n 0, 1) := by decide +kernel
theorem dX7_heightsNow_37 : decode cX7_heightsNow 37 = .ok (.getfield 16, 3) := by decide +kernel
theorem dX7_heightsNow_40 : decode cX7_heightsNow 40 = .ok (.iload 4, 2) := by decide +kernel
theorem dX7_heightsNow_42 : decode cX7_heightsNow 42 = .ok (.iaload, 1) := by decide +kernel
theorem dX7_heightsNow_43 : decode cX7_heightsNow 43 = .ok (.aload_n 0, 1) := by decide +kernel
theorem dX7_heightsNow_44 : decode cX7_heightsNow 44 = .ok (.getfield 19, 3) := by decide +kernel
theorem dX7_heightsNow_47 : decode cX7_heightsNow 47 = .ok (.iload 4, 2) := by decide +kernel
theorem dX7_heightsNow_49 : decode cX7_heightsNow 49 = .ok (.iaload, 1) := by decide +kernel
theorem dX7_heightsNow_50 : decode cX7_heightsNow 50 = .ok (.invokevirtual 97, 3) := by decide +kernel
theorem dX7_heightsNow_53 : decode cX7_heightsNow 53 = .ok (.iload_n 2, 1) := by decide +kernel
theorem dX7_heightsNow_54 : decode cX7_heightsNow 54 = .ok (.invokestatic 112, 3) := by decide +kernel
theorem dX7_heightsNow_57 : decode cX7_heightsNow 57 = .ok (.if_icmp .le 7, 3) := by decide +kernel
theorem dX7_heightsNow_60 : decode cX7_heightsNow 60 = .ok (.iconst 1, 1) := by decide +kernel
theorem dX7_heightsNow_61 : decode cX7_heightsNow 61 = .ok (.goto 4, 3) := by decide +kernel
theorem dX7_heightsNow_64 : decode cX7_heightsNow 64 = .ok (.iconst 0, 1) := by decide +kernel
theorem dX7_heightsNow_65 : decode cX7_heightsNow 65 = .ok (.aload_n 0, 1) := by decide +kernel
theorem dX7_heightsNow_66 : decode cX7_heightsNow 66 = .ok (.getfield 22, 3) := by decide +kernel
theorem dX7_heightsNow_69 : decode cX7_heightsNow 69 = .ok (.iload 4, 2) := by decide +kernel
theorem dX7_heightsNow_71 : decode cX7_heightsNow 71 = .ok (.iaload, 1) := by decide +kernel
theorem dX7_heightsNow_72 : decode cX7_heightsNow 72 = .ok (.iconst 1, 1) := by decide +kernel
theorem dX7_heightsNow_73 : decode cX7_heightsNow 73 = .ok (.if_icmp .ne 7, 3) := by decide +kernel
theorem dX7_heightsNow_76 : decode cX7_heightsNow 76 = .ok (.iconst 1, 1) := by decide +kernel
theorem dX7_heightsNow_77 : decode cX7_heightsNow 77 = .ok (.goto 4, 3) := by decide +kernel
theorem dX7_heightsNow_80 : decode cX7_heightsNow 80 = .ok (.iconst 0, 1) := by decide +kernel
theorem dX7_heightsNow_81 : decode cX7_heightsNow 81 = .ok (.if_icmp .ne 7, 3) := by decide +kernel
theorem dX7_heightsNow_84 : decode cX7_heightsNow 84 = .ok (.iconst 1, 1) := by decide +kernel
theorem dX7_heightsNow_85 : decode cX7_heightsNow 85 = .ok (.goto 4, 3) := by decide +kernel
theorem dX7_heightsNow_88 : decode cX7_heightsNow 88 = .ok (.iconst 0, 1) := by decide +kernel
theorem dX7_heightsNow_89 : decode cX7_heightsNow 89 = .ok (.istore_n 3, 1) := by decide +kernel
theorem dX7_heightsNow_90 : decode cX7_heightsNow 90 = .ok (.iinc 4 1, 3) := by decide +kernel
theorem dX7_heightsNow_93 : decode cX7_heightsNow 93 = .ok (.goto (-78), 3) := by decide +kernel
theorem dX7_heightsNow_96 : decode cX7_heightsNow 96 = .ok (.iload_n 1, 1) := by decide +kernel
theorem dX7_heightsNow_97 : decode cX7_heightsNow 97 = .ok (.iload_n 3, 1) := by decide +kernel
theorem dX7_heightsNow_98 : decode cX7_heightsNow 98 = .ok (.ifCond .eq 11, 3) := by decide +kernel
theorem dX7_heightsNow_101 : decode cX7_heightsNow 101 = .ok (.iconst 1, 1) := by decide +kernel
theorem dX7_heightsNow_102 : decode cX7_heightsNow 102 = .ok (.iload_n 2, 1) := by decide +kernel
theorem dX7_heightsNow_103 : decode cX7_heightsNow 103 = .ok (.iconst 1, 1) := by decide +kernel
theorem dX7_heightsNow_104 : decode cX7_heightsNow 104 = .ok (.isub, 1) := by decide +kernel
theorem dX7_heightsNow_105 : decode cX7_heightsNow 105 = .ok (.ishl, 1) := by decide +kernel
theorem dX7_heightsNow_106 : decode cX7_heightsNow 106 = .ok (.goto 4, 3) := by decide +kernel
theorem dX7_heightsNow_109 : decode cX7_heightsNow 109 = .ok (.iconst 0, 1) := by decide +kernel
theorem dX7_heightsNow_110 : decode cX7_heightsNow 110 = .ok (.ior, 1) := by decide +kernel
theorem dX7_heightsNow_111 : decode cX7_heightsNow 111 = .ok (.istore_n 1, 1) := by decide +kernel
theorem dX7_heightsNow_112 : decode cX7_heightsNow 112 = .ok (.iinc 2 1, 3) := by decide +kernel
theorem dX7_heightsNow_115 : decode cX7_heightsNow 115 = .ok (.goto (-111), 3) := by decide +kernel
theorem dX7_heightsNow_118 : decode cX7_heightsNow 118 = .ok (.iload_n 1, 1) := by decide +kernel
theorem dX7_heightsNow_119 : decode cX7_heightsNow 119 = .ok (.ireturn, 1) := by decide +kernel
theorem dX7_heights_0 : decode cX7_heights 0 = .ok (.aload_n 0, 1) := by decide +kernel
theorem dX7_heights_1 : decode cX7_heights 1 = .ok (.getfield 73, 3) := by decide +kernel
theorem dX7_heights_4 : decode cX7_heights 4 = .ok (.ifCond .ne 8, 3) := by decide +kernel
theorem dX7_heights_7 : decode cX7_heights 7 = .ok (.bipush (-103), 2) := by decide +kernel
theorem dX7_heights_9 : decode cX7_heights 9 = .ok (.goto 7, 3) := by decide +kernel
theorem dX7_heights_12 : decode cX7_heights 12 = .ok (.aload_n 0, 1) := by decide +kernel
theorem dX7_heights_13 : decode cX7_heights 13 = .ok (.invokevirtual 145, 3) := by decide +kernel
theorem dX7_heights_16 : decode cX7_heights 16 = .ok (.ireturn, 1) := by decide +kernel
theorem dX7_tryAt_0 : decode cX7_tryAt 0 = .ok (.aload_n 0, 1) := by decide +kernel
theorem dX7_tryAt_1 : decode cX7_tryAt 1 = .ok (.invokevirtual 145, 3) := by decide +kernel
theorem dX7_tryAt_4 : decode cX7_tryAt 4 = .ok (.istore_n 2, 1) := by decide +kernel
theorem dX7_tryAt_5 : decode cX7_tryAt 5 = .ok (.iconst (-1), 1) := by decide +kernel
theorem dX7_tryAt_6 : decode cX7_tryAt 6 = .ok (.istore_n 3, 1) := by decide +kernel
theorem dX7_tryAt_7 : decode cX7_tryAt 7 = .ok (.ldc 118, 2) := by decide +kernel
theorem dX7_tryAt_9 : decode cX7_tryAt 9 = .ok (.istore 4, 2) := by decide +kernel
theorem dX7_tryAt_11 : decode cX7_tryAt 11 = .ok (.iconst 0, 1) := by decide +kernel
theorem dX7_tryAt_12 : decode cX7_tryAt 12 = .ok (.istore 5, 2) := by decide +kernel
theorem dX7_tryAt_14 : decode cX7_tryAt 14 = .ok (.iload 5, 2) := by decide +kernel
theorem dX7_tryAt_16 : decode cX7_tryAt 16 = .ok (.bipush 11, 2) := by decide +kernel
theorem dX7_tryAt_18 : decode cX7_tryAt 18 = .ok (.if_icmp .gt 137, 3) := by decide +kernel
theorem dX7_tryAt_21 : decode cX7_tryAt 21 = .ok (.iload_n 2, 1) := by decide +kernel
theorem dX7_tryAt_22 : decode cX7_tryAt 22 = .ok (.ifCond .eq 133, 3) := by decide +kernel
theorem dX7_tryAt_25 : decode cX7_tryAt 25 = .ok (.iconst 0, 1) := by decide +kernel
theorem dX7_tryAt_26 : decode cX7_tryAt 26 = .ok (.istore 6, 2) := by decide +kernel
theorem dX7_tryAt_28 : decode cX7_tryAt 28 = .ok (.iconst 0, 1) := by decide +kernel
theorem dX7_tryAt_29 : decode cX7_tryAt 29 = .ok (.istore 7, 2) := by decide +kernel
theorem dX7_tryAt_31 : decode cX7_tryAt 31 = .ok (.iconst 1, 1) := by decide +kernel
theorem dX7_tryAt_32 : decode cX7_tryAt 32 = .ok (.istore 8, 2) := by decide +kernel
theorem dX7_tryAt_34 : decode cX7_tryAt 34 = .ok (.iload 8, 2) := by decide +kernel
theorem dX7_tryAt_36 : decode cX7_tryAt 36 = .ok (.bipush 9, 2) := by decide +kernel
theorem dX7_tryAt_38 : decode cX7_tryAt 38 = .ok (.if_icmp .gt 59, 3) := by decide +kernel
theorem dX7_tryAt_41 : decode cX7_tryAt 41 = .ok (.iload 7, 2) := by decide +kernel
theorem dX7_tryAt_43 : decode cX7_tryAt 43 = .ok (.iload_n 2, 1) := by decide +kernel
theorem dX7_tryAt_44 : decode cX7_tryAt 44 = .ok (.iload 8, 2) := by decide +kernel
theorem dX7_tryAt_46 : decode cX7_tryAt 46 = .ok (.iconst 1, 1) := by decide +kernel
theorem dX7_tryAt_47 : decode cX7_tryAt 47 = .ok (.isub, 1) := by decide +kernel
theorem dX7_tryAt_48 : decode cX7_tryAt 48 = .ok (.ishr, 1) := by decide +kernel
theorem dX7_tryAt_49 : decode cX7_tryAt 49 = .ok (.iconst 1, 1) := by decide +kernel
theorem dX7_tryAt_50 : decode cX7_tryAt 50 = .ok (.iand, 1) := by decide +kernel
theorem dX7_tryAt_51 : decode cX7_tryAt 51 = .ok (.iadd, 1) := by decide +kernel
theorem dX7_tryAt_52 : decode cX7_tryAt 52 = .ok (.istore 7, 2) := by decide +kernel
theorem dX7_tryAt_54 : decode cX7_tryAt 54 = .ok (.iload 6, 2) := by decide +kernel
theorem dX7_tryAt_56 : decode cX7_tryAt 56 = .ok (.iload_n 2, 1) := by decide +kernel
theorem dX7_tryAt_57 : decode cX7_tryAt 57 = .ok (.iload 8, 2) := by decide +kernel
theorem dX7_tryAt_59 : decode cX7_tryAt 59 = .ok (.iconst 1, 1) := by decide +kernel
theorem dX7_tryAt_60 : decode cX7_tryAt 60 = .ok (.isub, 1) := by decide +kernel
theorem dX7_tryAt_61 : decode cX7_tryAt 61 = .ok (.invokestatic 148, 3) := by decide +kernel
theorem dX7_tryAt_64 : decode cX7_tryAt 64 = .ok (.ifCond .eq 23, 3) := by decide +kernel
theorem dX7_tryAt_67 : decode cX7_tryAt 67 = .ok (.aload_n 0, 1) := by decide +kernel
theorem dX7_tryAt_68 : decode cX7_tryAt 68 = .ok (.iload_n 1, 1) := by decide +kernel
theorem dX7_tryAt_69 : decode cX7_tryAt 69 = .ok (.iconst 1, 1) := by decide +kernel
theorem dX7_tryAt_70 : decode cX7_tryAt 70 = .ok (.iload 5, 2) := by decide +kernel
theorem dX7_tryAt_72 : decode cX7_tryAt 72 = .ok (.invokevirtual 97, 3) := by decide +kernel
theorem dX7_tryAt_75 : decode cX7_tryAt 75 = .ok (.iload 8, 2) := by decide +kernel
theorem dX7_tryAt_77 : decode cX7_tryAt 77 = .ok (.invokestatic 112, 3) := by decide +kernel
theorem dX7_tryAt_80 : decode cX7_tryAt 80 = .ok (.if_icmp .le 7, 3) := by decide +kernel
theorem dX7_tryAt_83 : decode cX7_tryAt 83 = .ok (.iconst 1, 1) := by decide +kernel
theorem dX7_tryAt_84 : decode cX7_tryAt 84 = .ok (.goto 4, 3) := by decide +kernel
theorem dX7_tryAt_87 : decode cX7_tryAt 87 = .ok (.iconst 0, 1) := by decide +kernel
theorem dX7_tryAt_88 : decode cX7_tryAt 88 = .ok (.iadd, 1) := by decide +kernel
theorem dX7_tryAt_89 : decode cX7_tryAt 89 = .ok (.istore 6, 2) := by decide +kernel
theorem dX7_tryAt_91 : decode cX7_tryAt 91 = .ok (.iinc 8 1, 3) := by decide +kernel
theorem dX7_tryAt_94 : decode cX7_tryAt 94 = .ok (.goto (-60), 3) := by decide +kernel
theorem dX7_tryAt_97 : decode cX7_tryAt 97 = .ok (.iload 6, 2) := by decide +kernel
theorem dX7_tryAt_99 : decode cX7_tryAt 99 = .ok (.iload 7, 2) := by decide +kernel
theorem dX7_tryAt_101 : decode cX7_tryAt 101 = .ok (.iload 6, 2) := by decide +kernel
theorem dX7_tryAt_103 : decode cX7_tryAt 103 = .ok (.isub, 1) := by decide +kernel
theorem dX7_tryAt_104 : decode cX7_tryAt 104 = .ok (.if_icmp .le 8, 3) := by decide +kernel
theorem dX7_tryAt_107 : decode cX7_tryAt 107 = .ok (.iload 6, 2) := by decide +kernel
theorem dX7_tryAt_109 : decode cX7_tryAt 109 = .ok (.goto 8, 3) := by decide +kernel
theorem dX7_tryAt_112 : decode cX7_tryAt 112 = .ok (.iload 7, 2) := by decide +kernel
theorem dX7_tryAt_114 : decode cX7_tryAt 114 = .ok (.iload 6, 2) := by decide +kernel
theorem dX7_tryAt_116 : decode cX7_tryAt 116 = .ok (.isub, 1) := by decide +kernel
theorem dX7_tryAt_117 : decode cX7_tryAt 117 = .ok (.istore 8, 2) := by decide +kernel
theorem dX7_tryAt_119 : decode cX7_tryAt 119 = .ok (.iload 8, 2) := by decide +kernel
theorem dX7_tryAt_121 : decode cX7_tryAt 121 = .ok (.iload 4, 2) := by decide +kernel
theorem dX7_tryAt_123 : decode cX7_tryAt 123 = .ok (.if_icmp .ge 8, 3) := by decide +kernel
theorem dX7_tryAt_126 : decode cX7_tryAt 126 = .ok (.iload 5, 2) := by decide +kernel
theorem dX7_tryAt_128 : decode cX7_tryAt 128 = .ok (.goto 4, 3) := by decide +kernel
theorem dX7_tryAt_131 : decode cX7_tryAt 131 = .ok (.iload_n 3, 1) := by decide +kernel
theorem dX7_tryAt_132 : decode cX7_tryAt 132 = .ok (.istore_n 3, 1) := by decide +kernel
theorem dX7_tryAt_133 : decode cX7_tryAt 133 = .ok (.iload 8, 2) := by decide +kernel
theorem dX7_tryAt_135 : decode cX7_tryAt 135 = .ok (.iload 4, 2) := by decide +kernel
theorem dX7_tryAt_137 : decode cX7_tryAt 137 = .ok (.if_icmp .ge 8, 3) := by decide +kernel
theorem dX7_tryAt_140 : decode cX7_tryAt 140 = .ok (.iload 8, 2) := by decide +kernel
theorem dX7_tryAt_142 : decode cX7_tryAt 142 = .ok (.goto 5, 3) := by decide +kernel
theorem dX7_tryAt_145 : decode cX7_tryAt 145 = .ok (.iload 4, 2) := by decide +kernel
theorem dX7_tryAt_147 : decode cX7_tryAt 147 = .ok (.istore 4, 2) := by decide +kernel
theorem dX7_tryAt_149 : decode cX7_tryAt 149 = .ok (.iinc 5 1, 3) := by decide +kernel
theorem dX7_tryAt_152 : decode cX7_tryAt 152 = .ok (.goto (-138), 3) := by decide +kernel
theorem dX7_tryAt_155 : decode cX7_tryAt 155 = .ok (.iload_n 3, 1) := by decide +kernel
theorem dX7_tryAt_156 : decode cX7_tryAt 156 = .ok (.ireturn, 1) := by decide +kernel
theorem dX7_draw_0 : decode cX7_draw 0 = .ok (.aload_n 0, 1) := by decide +kernel
theorem dX7_draw_1 : decode cX7_draw 1 = .ok (.ldc2_w 152, 3) := by decide +kernel
theorem dX7_draw_4 : decode cX7_draw 4 = .ok (.aload_n 0, 1) := by decide +kernel
theorem dX7_draw_5 : decode cX7_draw 5 = .ok (.getfield 154, 3) := by decide +kernel
theorem dX7_draw_8 : decode cX7_draw 8 = .ok (.lmul, 1) := by decide +kernel
theorem dX7_draw_9 : decode cX7_draw 9 = .ok (.ldc2_w 158, 3) := by decide +kernel
theorem dX7_draw_12 : decode cX7_draw 12 = .ok (.ladd, 1) := by decide +kernel
theorem dX7_draw_13 : decode cX7_draw 13 = .ok (.ldc2_w 160, 3) := by decide +kernel
theorem dX7_draw_16 : decode cX7_draw 16 = .ok (.land, 1) := by decide +kernel
theorem dX7_draw_17 : decode cX7_draw 17 = .ok (.putfield 154, 3) := by decide +kernel
theorem dX7_draw_20 : decode cX7_draw 20 = .ok (.aload_n 0, 1) := by decide +kernel
theorem dX7_draw_21 : decode cX7_draw 21 = .ok (.getfield 154, 3) := by decide +kernel
theorem dX7_draw_24 : decode cX7_draw 24 = .ok (.ldc2_w 162, 3) := by decide +kernel
theorem dX7_draw_27 : decode cX7_draw 27 = .ok (.ldiv, 1) := by decide +kernel
theorem dX7_draw_28 : decode cX7_draw 28 = .ok (.iload_n 1, 1) := by decide +kernel
theorem dX7_draw_29 : decode cX7_draw 29 = .ok (.i2l, 1) := by decide +kernel
theorem dX7_draw_30 : decode cX7_draw 30 = .ok (.lrem, 1) := by decide +kernel
theorem dX7_draw_31 : decode cX7_draw 31 = .ok (.l2i, 1) := by decide +kernel
theorem dX7_draw_32 : decode cX7_draw 32 = .ok (.ireturn, 1) := by decide +kernel
theorem dX7_racesNow_0 : decode cX7_racesNow 0 = .ok (.aload_n 0, 1) := by decide +kernel
theorem dX7_racesNow_1 : decode cX7_racesNow 1 = .ok (.getfield 82, 3) := by decide +kernel
theorem dX7_racesNow_4 : decode cX7_racesNow 4 = .ok (.istore 4, 2) := by decide +kernel
theorem dX7_racesNow_6 : decode cX7_racesNow 6 = .ok (.aload_n 0, 1) := by decide +kernel
theorem dX7_racesNow_7 : decode cX7_racesNow 7 = .ok (.getfield 85, 3) := by decide +kernel
theorem dX7_racesNow_10 : decode cX7_racesNow 10 = .ok (.istore 5, 2) := by decide +kernel
theorem dX7_racesNow_12 : decode cX7_racesNow 12 = .ok (.aload_n 0, 1) := by decide +kernel
theorem dX7_racesNow_13 : decode cX7_racesNow 13 = .ok (.iload_n 2, 1) := by decide +kernel
theorem dX7_racesNow_14 : decode cX7_racesNow 14 = .ok (.i2l, 1) := by decide +kernel
theorem dX7_racesNow_15 : decode cX7_racesNow 15 = .ok (.putfield 154, 3) := by decide +kernel
theorem dX7_racesNow_18 : decode cX7_racesNow 18 = .ok (.iconst 0, 1) := by decide +kernel
theorem dX7_racesNow_19 : decode cX7_racesNow 19 = .ok (.istore 6, 2) := by decide +kernel
theorem dX7_racesNow_21 : decode cX7_racesNow 21 = .ok (.iconst 0, 1) := by decide +kernel
theorem dX7_racesNow_22 : decode cX7_racesNow 22 = .ok (.istore 7, 2) := by decide +kernel
theorem dX7_racesNow_24 : decode cX7_racesNow 24 = .ok (.iload 7, 2) := by decide +kernel
theorem dX7_racesNow_26 : decode cX7_racesNow 26 = .ok (.iload_n 1, 1) := by decide +kernel
theorem dX7_racesNow_27 : decode cX7_racesNow 27 = .ok (.if_icmp .ge 60, 3) := by decide +kernel
theorem dX7_racesNow_30 : decode cX7_racesNow 30 = .ok (.aload_n 0, 1) := by decide +kernel
theorem dX7_racesNow_31 : decode cX7_racesNow 31 = .ok (.iconst 4, 1) := by decide +kernel
theorem dX7_racesNow_32 : decode cX7_racesNow 32 = .ok (.invokevirtual 164, 3) := by decide +kernel
theorem dX7_racesNow_35 : decode cX7_racesNow 35 = .ok (.istore 8, 2) := by decide +kernel
theorem dX7_racesNow_37 : decode cX7_racesNow 37 = .ok (.aload_n 0, 1) := by decide +kernel
theorem dX7_racesNow_38 : decode cX7_racesNow 38 = .ok (.getfield 73, 3) := by decide +kernel
theorem dX7_racesNow_41 : decode cX7_racesNow 41 = .ok (.iconst 1, 1) := by decide +kernel
theorem dX7_racesNow_42 : decode cX7_racesNow 42 = .ok (.isub, 1) := by decide +kernel
theorem dX7_racesNow_43 : decode cX7_racesNow 43 = .ok (.aload_n 0, 1) := by decide +kernel
theorem dX7_racesNow_44 : decode cX7_racesNow 44 = .ok (.getfield 82, 3) := by decide +kernel
theorem dX7_racesNow_47 : decode cX7_racesNow 47 = .ok (.isub, 1) := by decide +kernel
theorem dX7_racesNow_48 : decode cX7_racesNow 48 = .ok (.istore 9, 2) := by decide +kernel
theorem dX7_racesNow_50 : decode cX7_racesNow 50 = .ok (.iload 6, 2) := by decide +kernel
theorem dX7_racesNow_52 : decode cX7_racesNow 52 = .ok (.aload_n 0, 1) := by decide +kernel
theorem dX7_racesNow_53 : decode cX7_racesNow 53 = .ok (.iload 8, 2) := by decide +kernel
theorem dX7_racesNow_55 : decode cX7_racesNow 55 = .ok (.iload 9, 2) := by decide +kernel
theorem dX7_racesNow_57 : decode cX7_racesNow 57 = .ok (.if_icmp .ge 8, 3) := by decide +kernel
theorem dX7_racesNow_60 : decode cX7_racesNow 60 = .ok (.iload 8, 2) := by decide +kernel
theorem dX7_racesNow_62 : decode cX7_racesNow 62 = .ok (.goto 5, 3) := by decide +kernel
theorem dX7_racesNow_65 : decode cX7_racesNow 65 = .ok (.iload 9, 2) := by decide +kernel
theorem dX7_racesNow_67 : decode cX7_racesNow 67 = .ok (.invokevirtual 115, 3) := by decide +kernel
theorem dX7_racesNow_70 : decode cX7_racesNow 70 = .ok (.ifCond .eq 7, 3) := by decide +kernel
theorem dX7_racesNow_73 : decode cX7_racesNow 73 = .ok (.iconst 0, 1) := by decide +kernel
theorem dX7_racesNow_74 : decode cX7_racesNow 74 = .ok (.goto 4, 3) := by decide +kernel
theorem dX7_racesNow_77 : decode cX7_racesNow 77 = .ok (.iconst 1, 1) := by decide +kernel
theorem dX7_racesNow_78 : decode cX7_racesNow 78 = .ok (.iadd, 1) := by decide +kernel
theorem dX7_racesNow_79 : decode cX7_racesNow 79 = .ok (.istore 6, 2) := by decide +kernel
theorem dX7_racesNow_81 : decode cX7_racesNow 81 = .ok (.iinc 7 1, 3) := by decide +kernel
theorem dX7_racesNow_84 : decode cX7_racesNow 84 = .ok (.goto (-60), 3) := by decide +kernel
theorem dX7_racesNow_87 : decode cX7_racesNow 87 = .ok (.aload_n 0, 1) := by decide +kernel
theorem dX7_racesNow_88 : decode cX7_racesNow 88 = .ok (.getfield 82, 3) := by decide +kernel
theorem dX7_racesNow_91 : decode cX7_racesNow 91 = .ok (.istore 7, 2) := by decide +kernel
theorem dX7_racesNow_93 : decode cX7_racesNow 93 = .ok (.aload_n 0, 1) := by decide +kernel
theorem dX7_racesNow_94 : decode cX7_racesNow 94 = .ok (.iload 4, 2) := by decide +kernel
theorem dX7_racesNow_96 : decode cX7_racesNow 96 = .ok (.putfield 82, 3) := by decide +kernel
theorem dX7_racesNow_99 : decode cX7_racesNow 99 = .ok (.aload_n 0, 1) := by decide +kernel
theorem dX7_racesNow_100 : decode cX7_racesNow 100 = .ok (.iload 5, 2) := by decide +kernel
theorem dX7_racesNow_102 : decode cX7_racesNow 102 = .ok (.putfield 85, 3) := by decide +kernel
theorem dX7_racesNow_105 : decode cX7_racesNow 105 = .ok (.iload_n 3, 1) := by decide +kernel
theorem dX7_racesNow_106 : decode cX7_racesNow 106 = .ok (.ifCond .ne 8, 3) := by decide +kernel
theorem dX7_racesNow_109 : decode cX7_racesNow 109 = .ok (.iload 6, 2) := by decide +kernel
theorem dX7_racesNow_111 : decode cX7_racesNow 111 = .ok (.goto 18, 3) := by decide +kernel
theorem dX7_racesNow_114 : decode cX7_racesNow 114 = .ok (.iload_n 3, 1) := by decide +kernel
theorem dX7_racesNow_115 : decode cX7_racesNow 115 = .ok (.iconst 1, 1) := by decide +kernel
theorem dX7_racesNow_116 : decode cX7_racesNow 116 = .ok (.if_icmp .ne 8, 3) := by decide +kernel
theorem dX7_racesNow_119 : decode cX7_racesNow 119 = .ok (.iload 7, 2) := by decide +kernel
theorem dX7_racesNow_121 : decode cX7_racesNow 121 = .ok (.goto 8, 3) := by decide +kernel
theorem dX7_racesNow_124 : decode cX7_racesNow 124 = .ok (.aload_n 0, 1) := by decide +kernel
theorem dX7_racesNow_125 : decode cX7_racesNow 125 = .ok (.getfield 154, 3) := by decide +kernel
theorem dX7_racesNow_128 : decode cX7_racesNow 128 = .ok (.l2i, 1) := by decide +kernel
theorem dX7_racesNow_129 : decode cX7_racesNow 129 = .ok (.ireturn, 1) := by decide +kernel
theorem dX7_races_0 : decode cX7_races 0 = .ok (.iload_n 1, 1) := by decide +kernel
theorem dX7_races_1 : decode cX7_races 1 = .ok (.iconst 1, 1) := by decide +kernel
theorem dX7_races_2 : decode cX7_races 2 = .ok (.bipush 60, 2) := by decide +kernel
theorem dX7_races_4 : decode cX7_races 4 = .ok (.invokestatic 47, 3) := by decide +kernel
theorem dX7_races_7 : decode cX7_races 7 = .ok (.ifCond .eq 16, 3) := by decide +kernel
theorem dX7_races_10 : decode cX7_races 10 = .ok (.iload_n 2, 1) := by decide +kernel
theorem dX7_races_11 : decode cX7_races 11 = .ok (.ifCond .lt 12, 3) := by decide +kernel
theorem dX7_races_14 : decode cX7_races 14 = .ok (.iload_n 3, 1) := by decide +kernel
theorem dX7_races_15 : decode cX7_races 15 = .ok (.iconst 0, 1) := by decide +kernel
theorem dX7_races_16 : decode cX7_races 16 = .ok (.iconst 2, 1) := by decide +kernel
theorem dX7_races_17 : decode cX7_races 17 = .ok (.invokestatic 47, 3) := by decide +kernel
theorem dX7_races_20 : decode cX7_races 20 = .ok (.ifCond .ne 6, 3) := by decide +kernel
theorem dX7_races_23 : decode cX7_races 23 = .ok (.bipush (-102), 2) := by decide +kernel
theorem dX7_races_25 : decode cX7_races 25 = .ok (.ireturn, 1) := by decide +kernel
theorem dX7_races_26 : decode cX7_races 26 = .ok (.aload_n 0, 1) := by decide +kernel
theorem dX7_races_27 : decode cX7_races 27 = .ok (.getfield 73, 3) := by decide +kernel
theorem dX7_races_30 : decode cX7_races 30 = .ok (.ifCond .ne 8, 3) := by decide +kernel
theorem dX7_races_33 : decode cX7_races 33 = .ok (.bipush (-103), 2) := by decide +kernel
theorem dX7_races_35 : decode cX7_races 35 = .ok (.goto 10, 3) := by decide +kernel
theorem dX7_races_38 : decode cX7_races 38 = .ok (.aload_n 0, 1) := by decide +kernel
theorem dX7_races_39 : decode cX7_races 39 = .ok (.iload_n 1, 1) := by decide +kernel
theorem dX7_races_40 : decode cX7_races 40 = .ok (.iload_n 2, 1) := by decide +kernel
theorem dX7_races_41 : decode cX7_races 41 = .ok (.iload_n 3, 1) := by decide +kernel
theorem dX7_races_42 : decode cX7_races 42 = .ok (.invokevirtual 167, 3) := by decide +kernel
theorem dX7_races_45 : decode cX7_races 45 = .ok (.ireturn, 1) := by decide +kernel
theorem dX7_image_0 : decode cX7_image 0 = .ok (.aload_n 0, 1) := by decide +kernel
theorem dX7_image_1 : decode cX7_image 1 = .ok (.getfield 73, 3) := by decide +kernel
theorem dX7_image_4 : decode cX7_image 4 = .ok (.ifCond .ne 6, 3) := by decide +kernel
theorem dX7_image_7 : decode cX7_image 7 = .ok (.bipush (-103), 2) := by decide +kernel
theorem dX7_image_9 : decode cX7_image 9 = .ok (.ireturn, 1) := by decide +kernel
theorem dX7_image_10 : decode cX7_image 10 = .ok (.aload_n 0, 1) := by decide +kernel
theorem dX7_image_11 : decode cX7_image 11 = .ok (.iconst 1, 1) := by decide +kernel
theorem dX7_image_12 : decode cX7_image 12 = .ok (.putfield 170, 3) := by decide +kernel
theorem dX7_image_15 : decode cX7_image 15 = .ok (.aload_n 0, 1) := by decide +kernel
theorem dX7_image_16 : decode cX7_image 16 = .ok (.aload_n 0, 1) := by decide +kernel
theorem dX7_image_17 : decode cX7_image 17 = .ok (.getfield 79, 3) := by decide +kernel
theorem dX7_image_20 : decode cX7_image 20 = .ok (.putfield 173, 3) := by decide +kernel
theorem dX7_image_23 : decode cX7_image 23 = .ok (.aload_n 0, 1) := by decide +kernel
theorem dX7_image_24 : decode cX7_image 24 = .ok (.aload_n 0, 1) := by decide +kernel
theorem dX7_image_25 : decode cX7_image 25 = .ok (.getfield 76, 3) := by decide +kernel
theorem dX7_image_28 : decode cX7_image 28 = .ok (.putfield 176, 3) := by decide +kernel
theorem dX7_image_31 : decode cX7_image 31 = .ok (.aload_n 0, 1) := by decide +kernel
theorem dX7_image_32 : decode cX7_image 32 = .ok (.aload_n 0, 1) := by decide +kernel
theorem dX7_image_33 : decode cX7_image 33 = .ok (.getfield 82, 3) := by decide +kernel
theorem dX7_image_36 : decode cX7_image 36 = .ok (.putfield 179, 3) := by decide +kernel
theorem dX7_image_39 : decode cX7_image 39 = .ok (.aload_n 0, 1) := by decide +kernel
theorem dX7_image_40 : decode cX7_image 40 = .ok (.aload_n 0, 1) := by decide +kernel
theorem dX7_image_41 : decode cX7_image 41 = .ok (.getfield 85, 3) := by decide +kernel
theorem dX7_image_44 : decode cX7_image 44 = .ok (.putfield 182, 3) := by decide +kernel
theorem dX7_image_47 : decode cX7_image 47 = .ok (.aload_n 0, 1) := by decide +kernel
theorem dX7_image_48 : decode cX7_image 48 = .ok (.aload_n 0, 1) := by decide +kernel
theorem dX7_image_49 : decode cX7_image 49 = .ok (.getfield 88, 3) := by decide +kernel
theorem dX7_image_52 : decode cX7_image 52 = .ok (.putfield 185, 3) := by decide +kernel
theorem dX7_image_55 : decode cX7_image 55 = .ok (.aload_n 0, 1) := by decide +kernel
theorem dX7_image_56 : decode cX7_image 56 = .ok (.aload_n 0, 1) := by decide +kernel
theorem dX7_image_57 : decode cX7_image 57 = .ok (.getfield 91, 3) := by decide +kernel
theorem dX7_image_60 : decode cX7_image 60 = .ok (.putfield 188, 3) := by decide +kernel
theorem dX7_image_63 : decode cX7_image 63 = .ok (.aload_n 0, 1) := by decide +kernel
theorem dX7_image_64 : decode cX7_image 64 = .ok (.aload_n 0, 1) := by decide +kernel
theorem dX7_image_65 : decode cX7_image 65 = .ok (.getfield 94, 3) := by decide +kernel
theorem dX7_image_68 : decode cX7_image 68 = .ok (.putfield 191, 3) := by decide +kernel
theorem dX7_image_71 : decode cX7_image 71 = .ok (.iconst 0, 1) := by decide +kernel
theorem dX7_image_72 : decode cX7_image 72 = .ok (.istore_n 1, 1) := by decide +kernel
theorem dX7_image_73 : decode cX7_image 73 = .ok (.iload_n 1, 1) := by decide +kernel
theorem dX7_image_74 : decode cX7_image 74 = .ok (.bipush 12, 2) := by decide +kernel
theorem dX7_image_76 : decode cX7_image 76 = .ok (.if_icmp .ge 21, 3) := by decide +kernel
theorem dX7_image_79 : decode cX7_image 79 = .ok (.aload_n 0, 1) := by decide +kernel
theorem dX7_image_80 : decode cX7_image 80 = .ok (.getfield 32, 3) := by decide +kernel
theorem dX7_image_83 : decode cX7_image 83 = .ok (.iload_n 1, 1) := by decide +kernel
theorem dX7_image_84 : decode cX7_image 84 = .ok (.aload_n 0, 1) := by decide +kernel
theorem dX7_image_85 : decode cX7_image 85 = .ok (.getfield 7, 3) := by decide +kernel
theorem dX7_image_88 : decode cX7_image 88 = .ok (.iload_n 1, 1) := by decide +kernel
theorem dX7_image_89 : decode cX7_image 89 = .ok (.iaload, 1) := by decide +kernel
theorem dX7_image_90 : decode cX7_image 90 = .ok (.iastore, 1) := by decide +kernel
theorem dX7_image_91 : decode cX7_image 91 = .ok (.iinc 1 1, 3) := by decide +kernel
theorem dX7_image_94 : decode cX7_image 94 = .ok (.goto (-21), 3) := by decide +kernel
theorem dX7_image_97 : decode cX7_image 97 = .ok (.iconst 0, 1) := by decide +kernel
theorem dX7_image_98 : decode cX7_image 98 = .ok (.istore_n 1, 1) := by decide +kernel
theorem dX7_image_99 : decode cX7_image 99 = .ok (.iload_n 1, 1) := by decide +kernel
theorem dX7_image_100 : decode cX7_image 100 = .ok (.bipush 6, 2) := by decide +kernel
theorem dX7_image_102 : decode cX7_image 102 = .ok (.if_icmp .ge 57, 3) := by decide +kernel
theorem dX7_image_105 : decode cX7_image 105 = .ok (.aload_n 0, 1) := by decide +kernel
theorem dX7_image_106 : decode cX7_image 106 = .ok (.getfield 35, 3) := by decide +kernel
theorem dX7_image_109 : decode cX7_image 109 = .ok (.iload_n 1, 1) := by decide +kernel
theorem dX7_image_110 : decode cX7_image 110 = .ok (.aload_n 0, 1) := by decide +kernel
theorem dX7_image_111 : decode cX7_image 111 = .ok (.getfield 13, 3) := by decide +kernel
theorem dX7_image_114 : decode cX7_image 114 = .ok (.iload_n 1, 1) := by decide +kernel
theorem dX7_image_115 : decode cX7_image 115 = .ok (.iaload, 1) := by decide +kernel
theorem dX7_image_116 : decode cX7_image 116 = .ok (.iastore, 1) := by decide +kernel
theorem dX7_image_117 : decode cX7_image 117 = .ok (.aload_n 0, 1) := by decide +kernel
theorem dX7_image_118 : decode cX7_image 118 = .ok (.getfield 38, 3) := by decide +kernel
theorem dX7_image_121 : decode cX7_image 121 = .ok (.iload_n 1, 1) := by decide +kernel
theorem dX7_image_122 : decode cX7_image 122 = .ok (.aload_n 0, 1) := by decide +kernel
theorem dX7_image_123 : decode cX7_image 123 = .ok (.getfield 16, 3) := by decide +kernel
theorem dX7_image_126 : decode cX7_image 126 = .ok (.iload_n 1, 1) := by decide +kernel
theorem dX7_image_127 : decode cX7_image 127 = .ok (.iaload, 1) := by decide +kernel
theorem dX7_image_128 : decode cX7_image 128 = .ok (.iastore, 1) := by decide +kernel
theorem dX7_image_129 : decode cX7_image 129 = .ok (.aload_n 0, 1) := by decide +kernel
theorem dX7_image_130 : decode cX7_image 130 = .ok (.getfield 41, 3) := by decide +kernel
theorem dX7_image_133 : decode cX7_image 133 = .ok (.iload_n 1, 1) := by decide +kernel
theorem dX7_image_134 : decode cX7_image 134 = .ok (.aload_n 0, 1) := by decide +kernel
theorem dX7_image_135 : decode cX7_image 135 = .ok (.getfield 19, 3) := by decide +kernel
theorem dX7_image_138 : decode cX7_image 138 = .ok (.iload_n 1, 1) := by decide +kernel
theorem dX7_image_139 : decode cX7_image 139 = .ok (.iaload, 1) := by decide +kernel
theorem dX7_image_140 : decode cX7_image 140 = .ok (.iastore, 1) := by decide +kernel
theorem dX7_image_141 : decode cX7_image 141 = .ok (.aload_n 0, 1) := by decide +kernel
theorem dX7_image_142 : decode cX7_image 142 = .ok (.getfield 44, 3) := by decide +kernel
theorem dX7_image_145 : decode cX7_image 145 = .ok (.iload_n 1, 1) := by decide +kernel
theorem dX7_image_146 : decode cX7_image 146 = .ok (.aload_n 0, 1) := by decide +kernel
theorem dX7_image_147 : decode cX7_image 147 = .ok (.getfield 22, 3) := by decide +kernel
theorem dX7_image_150 : decode cX7_image 150 = .ok (.iload_n 1, 1) := by decide +kernel
theorem dX7_image_151 : decode cX7_image 151 = .ok (.iaload, 1) := by decide +kernel
theorem dX7_image_152 : decode cX7_image 152 = .ok (.iastore, 1) := by decide +kernel
theorem dX7_image_153 : decode cX7_image 153 = .ok (.iinc 1 1, 3) := by decide +kernel
theorem dX7_image_156 : decode cX7_image 156 = .ok (.goto (-57), 3) := by decide +kernel
theorem dX7_image_159 : decode cX7_image 159 = .ok (.aload_n 0, 1) := by decide +kernel
theorem dX7_image_160 : decode cX7_image 160 = .ok (.getfield 88, 3) := by decide +kernel
theorem dX7_image_163 : decode cX7_image 163 = .ok (.ireturn, 1) := by decide +kernel
theorem dX7_restore_0 : decode cX7_restore 0 = .ok (.aload_n 0, 1) := by decide +kernel
theorem dX7_restore_1 : decode cX7_restore 1 = .ok (.getfield 170, 3) := by decide +kernel
theorem dX7_restore_4 : decode cX7_restore 4 = .ok (.ifCond .eq 14, 3) := by decide +kernel
theorem dX7_restore_7 : decode cX7_restore 7 = .ok (.aload_n 0, 1) := by decide +kernel
theorem dX7_restore_8 : decode cX7_restore 8 = .ok (.getfield 173, 3) := by decide +kernel
theorem dX7_restore_11 : decode cX7_restore 11 = .ok (.aload_n 0, 1) := by decide +kernel
theorem dX7_restore_12 : decode cX7_restore 12 = .ok (.getfield 79, 3) := by decide +kernel
theorem dX7_restore_15 : decode cX7_restore 15 = .ok (.if_icmp .eq 6, 3) := by decide +kernel
theorem dX7_restore_18 : decode cX7_restore 18 = .ok (.bipush (-103), 2) := by decide +kernel
theorem dX7_restore_20 : decode cX7_restore 20 = .ok (.ireturn, 1) := by decide +kernel
theorem dX7_restore_21 : decode cX7_restore 21 = .ok (.aload_n 0, 1) := by decide +kernel
theorem dX7_restore_22 : decode cX7_restore 22 = .ok (.aload_n 0, 1) := by decide +kernel
theorem dX7_restore_23 : decode cX7_restore 23 = .ok (.getfield 176, 3) := by decide +kernel
theorem dX7_restore_26 : decode cX7_restore 26 = .ok (.putfield 76, 3) := by decide +kernel
theorem dX7_restore_29 : decode cX7_restore 29 = .ok (.aload_n 0, 1) := by decide +kernel
theorem dX7_restore_30 : decode cX7_restore 30 = .ok (.aload_n 0, 1) := by decide +kernel
theorem dX7_restore_31 : decode cX7_restore 31 = .ok (.getfield 179, 3) := by decide +kernel
theorem dX7_restore_34 : decode cX7_restore 34 = .ok (.putfield 82, 3) := by decide +kernel
theorem dX7_restore_37 : decode cX7_restore 37 = .ok (.aload_n 0, 1) := by decide +kernel
theorem dX7_restore_38 : decode cX7_restore 38 = .ok (.aload_n 0, 1) := by decide +kernel
theorem dX7_restore_39 : decode cX7_restore 39 = .ok (.getfield 182, 3) := by decide +kernel
theorem dX7_restore_42 : decode cX7_restore 42 = .ok (.putfield 85, 3) := by decide +kernel
theorem dX7_restore_45 : decode cX7_restore 45 = .ok (.aload_n 0, 1) := by decide +kernel
theorem dX7_restore_46 : decode cX7_restore 46 = .ok (.aload_n 0, 1) := by decide +kernel
theorem dX7_restore_47 : decode cX7_restore 47 = .ok (.getfield 185, 3) := by decide +kernel
theorem dX7_restore_50 : decode cX7_restore 50 = .ok (.putfield 88, 3) := by decide +kernel
theorem dX7_restore_53 : decode cX7_restore 53 = .ok (.aload_n 0, 1) := by decide +kernel
theorem dX7_restore_54 : decode cX7_restore 54 = .ok (.aload_n 0, 1) := by decide +kernel
theorem dX7_restore_55 : decode cX7_restore 55 = .ok (.getfield 188, 3) := by decide +kernel
theorem dX7_restore_58 : decode cX7_restore 58 = .ok (.putfield 91, 3) := by decide +kernel
theorem dX7_restore_61 : decode cX7_restore 61 = .ok (.aload_n 0, 1) := by decide +kernel
theorem dX7_restore_62 : decode cX7_restore 62 = .ok (.aload_n 0, 1) := by decide +kernel
theorem dX7_restore_63 : decode cX7_restore 63 = .ok (.getfield 191, 3) := by decide +kernel
theorem dX7_restore_66 : decode cX7_restore 66 = .ok (.putfield 94, 3) := by decide +kernel
theorem dX7_restore_69 : decode cX7_restore 69 = .ok (.iconst 0, 1) := by decide +kernel
theorem dX7_restore_70 : decode cX7_restore 70 = .ok (.istore_n 1, 1) := by decide +kernel
theorem dX7_restore_71 : decode cX7_restore 71 = .ok (.iload_n 1, 1) := by decide +kernel
theorem dX7_restore_72 : decode cX7_restore 72 = .ok (.bipush 12, 2) := by decide +kernel
theorem dX7_restore_74 : decode cX7_restore 74 = .ok (.if_icmp .ge 21, 3) := by decide +kernel
theorem dX7_restore_77 : decode cX7_restore 77 = .ok (.aload_n 0, 1) := by decide +kernel
theorem dX7_restore_78 : decode cX7_restore 78 = .ok (.getfield 7, 3) := by decide +kernel
theorem dX7_restore_81 : decode cX7_restore 81 = .ok (.iload_n 1, 1) := by decide +kernel
theorem dX7_restore_82 : decode cX7_restore 82 = .ok (.aload_n 0, 1) := by decide +kernel
theorem dX7_restore_83 : decode cX7_restore 83 = .ok (.getfield 32, 3) := by decide +kernel
theorem dX7_restore_86 : decode cX7_restore 86 = .ok (.iload_n 1, 1) := by decide +kernel
theorem dX7_restore_87 : decode cX7_restore 87 = .ok (.iaload, 1) := by decide +kernel
theorem dX7_restore_88 : decode cX7_restore 88 = .ok (.iastore, 1) := by decide +kernel
theorem dX7_restore_89 : decode cX7_restore 89 = .ok (.iinc 1 1, 3) := by decide +kernel
theorem dX7_restore_92 : decode cX7_restore 92 = .ok (.goto (-21), 3) := by decide +kernel
theorem dX7_restore_95 : decode cX7_restore 95 = .ok (.iconst 0, 1) := by decide +kernel
theorem dX7_restore_96 : decode cX7_restore 96 = .ok (.istore_n 1, 1) := by decide +kernel
theorem dX7_restore_97 : decode cX7_restore 97 = .ok (.iload_n 1, 1) := by decide +kernel
theorem dX7_restore_98 : decode cX7_restore 98 = .ok (.bipush 6, 2) := by decide +kernel
theorem dX7_restore_100 : decode cX7_restore 100 = .ok (.if_icmp .ge 57, 3) := by decide +kernel
theorem dX7_restore_103 : decode cX7_restore 103 = .ok (.aload_n 0, 1) := by decide +kernel
theorem dX7_restore_104 : decode cX7_restore 104 = .ok (.getfield 13, 3) := by decide +kernel
theorem dX7_restore_107 : decode cX7_restore 107 = .ok (.iload_n 1, 1) := by decide +kernel
theorem dX7_restore_108 : decode cX7_restore 108 = .ok (.aload_n 0, 1) := by decide +kernel
theorem dX7_restore_109 : decode cX7_restore 109 = .ok (.getfield 35, 3) := by decide +kernel
theorem dX7_restore_112 : decode cX7_restore 112 = .ok (.iload_n 1, 1) := by decide +kernel
theorem dX7_restore_113 : decode cX7_restore 113 = .ok (.iaload, 1) := by decide +kernel
theorem dX7_restore_114 : decode cX7_restore 114 = .ok (.iastore, 1) := by decide +kernel
theorem dX7_restore_115 : decode cX7_restore 115 = .ok (.aload_n 0, 1) := by decide +kernel
theorem dX7_restore_116 : decode cX7_restore 116 = .ok (.getfield 16, 3) := by decide +kernel
theorem dX7_restore_119 : decode cX7_restore 119 = .ok (.iload_n 1, 1) := by decide +kernel
theorem dX7_restore_120 : decode cX7_restore 120 = .ok (.aload_n 0, 1) := by decide +kernel
theorem dX7_restore_121 : decode cX7_restore 121 = .ok (.getfield 38, 3) := by decide +kernel
theorem dX7_restore_124 : decode cX7_restore 124 = .ok (.iload_n 1, 1) := by decide +kernel
theorem dX7_restore_125 : decode cX7_restore 125 = .ok (.iaload, 1) := by decide +kernel
theorem dX7_restore_126 : decode cX7_restore 126 = .ok (.iastore, 1) := by decide +kernel
theorem dX7_restore_127 : decode cX7_restore 127 = .ok (.aload_n 0, 1) := by decide +kernel
theorem dX7_restore_128 : decode cX7_restore 128 = .ok (.getfield 19, 3) := by decide +kernel
theorem dX7_restore_131 : decode cX7_restore 131 = .ok (.iload_n 1, 1) := by decide +kernel
theorem dX7_restore_132 : decode cX7_restore 132 = .ok (.aload_n 0, 1) := by decide +kernel
theorem dX7_restore_133 : decode cX7_restore 133 = .ok (.getfield 41, 3) := by decide +kernel
theorem dX7_restore_136 : decode cX7_restore 136 = .ok (.iload_n 1, 1) := by decide +kernel
theorem dX7_restore_137 : decode cX7_restore 137 = .ok (.iaload, 1) := by decide +kernel
theorem dX7_restore_138 : decode cX7_restore 138 = .ok (.iastore, 1) := by decide +kernel
theorem dX7_restore_139 : decode cX7_restore 139 = .ok (.aload_n 0, 1) := by decide +kernel
theorem dX7_restore_140 : decode cX7_restore 140 = .ok (.getfield 22, 3) := by decide +kernel
theorem dX7_restore_143 : decode cX7_restore 143 = .ok (.iload_n 1, 1) := by decide +kernel
theorem dX7_restore_144 : decode cX7_restore 144 = .ok (.aload_n 0, 1) := by decide +kernel
theorem dX7_restore_145 : decode cX7_restore 145 = .ok (.getfield 44, 3) := by decide +kernel
theorem dX7_restore_148 : decode cX7_restore 148 = .ok (.iload_n 1, 1) := by decide +kernel
theorem dX7_restore_149 : decode cX7_restore 149 = .ok (.iaload, 1) := by decide +kernel
theorem dX7_restore_150 : decode cX7_restore 150 = .ok (.iastore, 1) := by decide +kernel
theorem dX7_restore_151 : decode cX7_restore 151 = .ok (.iinc 1 1, 3) := by decide +kernel
theorem dX7_restore_154 : decode cX7_restore 154 = .ok (.goto (-57), 3) := by decide +kernel
theorem dX7_restore_157 : decode cX7_restore 157 = .ok (.aload_n 0, 1) := by decide +kernel
theorem dX7_restore_158 : decode cX7_restore 158 = .ok (.getfield 88, 3) := by decide +kernel
theorem dX7_restore_161 : decode cX7_restore 161 = .ok (.ireturn, 1) := by decide +kernel
theorem dX7_plain_0 : decode cX7_plain 0 = .ok (.iconst 0, 1) := by decide +kernel
theorem dX7_plain_1 : decode cX7_plain 1 = .ok (.istore_n 1, 1) := by decide +kernel
theorem dX7_plain_2 : decode cX7_plain 2 = .ok (.iconst 0, 1) := by decide +kernel
theorem dX7_plain_3 : decode cX7_plain 3 = .ok (.istore_n 2, 1) := by decide +kernel
theorem dX7_plain_4 : decode cX7_plain 4 = .ok (.iload_n 2, 1) := by decide +kernel
theorem dX7_plain_5 : decode cX7_plain 5 = .ok (.aload_n 0, 1) := by decide +kernel
theorem dX7_plain_6 : decode cX7_plain 6 = .ok (.getfield 73, 3) := by decide +kernel
theorem dX7_plain_9 : decode cX7_plain 9 = .ok (.if_icmp .ge 26, 3) := by decide +kernel
theorem dX7_plain_12 : decode cX7_plain 12 = .ok (.iload_n 1, 1) := by decide +kernel
theorem dX7_plain_13 : decode cX7_plain 13 = .ok (.aload_n 0, 1) := by decide +kernel
theorem dX7_plain_14 : decode cX7_plain 14 = .ok (.getfield 7, 3) := by decide +kernel
theorem dX7_plain_17 : decode cX7_plain 17 = .ok (.iload_n 2, 1) := by decide +kernel
theorem dX7_plain_18 : decode cX7_plain 18 = .ok (.iaload, 1) := by decide +kernel
theorem dX7_plain_19 : decode cX7_plain 19 = .ok (.ifCond .ne 7, 3) := by decide +kernel
theorem dX7_plain_22 : decode cX7_plain 22 = .ok (.iconst 1, 1) := by decide +kernel
theorem dX7_plain_23 : decode cX7_plain 23 = .ok (.goto 4, 3) := by decide +kernel
theorem dX7_plain_26 : decode cX7_plain 26 = .ok (.iconst 0, 1) := by decide +kernel
theorem dX7_plain_27 : decode cX7_plain 27 = .ok (.iadd, 1) := by decide +kernel
theorem dX7_plain_28 : decode cX7_plain 28 = .ok (.istore_n 1, 1) := by decide +kernel
theorem dX7_plain_29 : decode cX7_plain 29 = .ok (.iinc 2 1, 3) := by decide +kernel
theorem dX7_plain_32 : decode cX7_plain 32 = .ok (.goto (-28), 3) := by decide +kernel
theorem dX7_plain_35 : decode cX7_plain 35 = .ok (.iload_n 1, 1) := by decide +kernel
theorem dX7_plain_36 : decode cX7_plain 36 = .ok (.ireturn, 1) := by decide +kernel
theorem dX7_howMany_0 : decode cX7_howMany 0 = .ok (.iload_n 1, 1) := by decide +kernel
theorem dX7_howMany_1 : decode cX7_howMany 1 = .ok (.tableswitch 137 0 11 #[63, 68, 73, 78, 83, 88, 93, 112, 117, 122, 127, 132], 63) := by decide +kernel
theorem dX7_howMany_64 : decode cX7_howMany 64 = .ok (.aload_n 0, 1) := by decide +kernel
theorem dX7_howMany_65 : decode cX7_howMany 65 = .ok (.getfield 73, 3) := by decide +kernel
theorem dX7_howMany_68 : decode cX7_howMany 68 = .ok (.ireturn, 1) := by decide +kernel
theorem dX7_howMany_69 : decode cX7_howMany 69 = .ok (.aload_n 0, 1) := by decide +kernel
theorem dX7_howMany_70 : decode cX7_howMany 70 = .ok (.getfield 76, 3) := by decide +kernel
theorem dX7_howMany_73 : decode cX7_howMany 73 = .ok (.ireturn, 1) := by decide +kernel
theorem dX7_howMany_74 : decode cX7_howMany 74 = .ok (.aload_n 0, 1) := by decide +kernel
theorem dX7_howMany_75 : decode cX7_howMany 75 = .ok (.getfield 82, 3) := by decide +kernel
theorem dX7_howMany_78 : decode cX7_howMany 78 = .ok (.ireturn, 1) := by decide +kernel
theorem dX7_howMany_79 : decode cX7_howMany 79 = .ok (.aload_n 0, 1) := by decide +kernel
theorem dX7_howMany_80 : decode cX7_howMany 80 = .ok (.getfield 85, 3) := by decide +kernel
theorem dX7_howMany_83 : decode cX7_howMany 83 = .ok (.ireturn, 1) := by decide +kernel
theorem dX7_howMany_84 : decode cX7_howMany 84 = .ok (.aload_n 0, 1) := by decide +kernel
theorem dX7_howMany_85 : decode cX7_howMany 85 = .ok (.getfield 88, 3) := by decide +kernel
theorem dX7_howMany_88 : decode cX7_howMany 88 = .ok (.ireturn, 1) := by decide +kernel
theorem dX7_howMany_89 : decode cX7_howMany 89 = .ok (.aload_n 0, 1) := by decide +kernel
theorem dX7_howMany_90 : decode cX7_howMany 90 = .ok (.getfield 91, 3) := by decide +kernel
theorem dX7_howMany_93 : decode cX7_howMany 93 = .ok (.ireturn, 1) := by decide +kernel
theorem dX7_howMany_94 : decode cX7_howMany 94 = .ok (.aload_n 0, 1) := by decide +kernel
theorem dX7_howMany_95 : decode cX7_howMany 95 = .ok (.getfield 73, 3) := by decide +kernel
theorem dX7_howMany_98 : decode cX7_howMany 98 = .ok (.ifCond .ne 7, 3) := by decide +kernel
theorem dX7_howMany_101 : decode cX7_howMany 101 = .ok (.iconst 0, 1) := by decide +kernel
theorem dX7_howMany_102 : decode cX7_howMany 102 = .ok (.goto 10, 3) := by decide +kernel
theorem dX7_howMany_105 : decode cX7_howMany 105 = .ok (.aload_n 0, 1) := by decide +kernel
theorem dX7_howMany_106 : decode cX7_howMany 106 = .ok (.getfield 76, 3) := by decide +kernel
theorem dX7_howMany_109 : decode cX7_howMany 109 = .ok (.invokestatic 112, 3) := by decide +kernel
theorem dX7_howMany_112 : decode cX7_howMany 112 = .ok (.ireturn, 1) := by decide +kernel
theorem dX7_howMany_113 : decode cX7_howMany 113 = .ok (.aload_n 0, 1) := by decide +kernel
theorem dX7_howMany_114 : decode cX7_howMany 114 = .ok (.invokevirtual 194, 3) := by decide +kernel
theorem dX7_howMany_117 : decode cX7_howMany 117 = .ok (.ireturn, 1) := by decide +kernel
theorem dX7_howMany_118 : decode cX7_howMany 118 = .ok (.aload_n 0, 1) := by decide +kernel
theorem dX7_howMany_119 : decode cX7_howMany 119 = .ok (.getfield 94, 3) := by decide +kernel
theorem dX7_howMany_122 : decode cX7_howMany 122 = .ok (.ireturn, 1) := by decide +kernel
theorem dX7_howMany_123 : decode cX7_howMany 123 = .ok (.aload_n 0, 1) := by decide +kernel
theorem dX7_howMany_124 : decode cX7_howMany 124 = .ok (.getfield 51, 3) := by decide +kernel
theorem dX7_howMany_127 : decode cX7_howMany 127 = .ok (.ireturn, 1) := by decide +kernel
theorem dX7_howMany_128 : decode cX7_howMany 128 = .ok (.aload_n 0, 1) := by decide +kernel
theorem dX7_howMany_129 : decode cX7_howMany 129 = .ok (.getfield 79, 3) := by decide +kernel
theorem dX7_howMany_132 : decode cX7_howMany 132 = .ok (.ireturn, 1) := by decide +kernel
theorem dX7_howMany_133 : decode cX7_howMany 133 = .ok (.aload_n 0, 1) := by decide +kernel
theorem dX7_howMany_134 : decode cX7_howMany 134 = .ok (.getfield 130, 3) := by decide +kernel
theorem dX7_howMany_137 : decode cX7_howMany 137 = .ok (.ireturn, 1) := by decide +kernel
theorem dX7_howMany_138 : decode cX7_howMany 138 = .ok (.bipush (-102), 2) := by decide +kernel
theorem dX7_howMany_140 : decode cX7_howMany 140 = .ok (.ireturn, 1) := by decide +kernel
theorem dX7_count_0 : decode cX7_count 0 = .ok (.aload_n 0, 1) := by decide +kernel
theorem dX7_count_1 : decode cX7_count 1 = .ok (.iload_n 1, 1) := by decide +kernel
theorem dX7_count_2 : decode cX7_count 2 = .ok (.invokevirtual 197, 3) := by decide +kernel
theorem dX7_count_5 : decode cX7_count 5 = .ok (.ireturn, 1) := by decide +kernel
theorem dX7_mix_0 : decode cX7_mix 0 = .ok (.aload_n 0, 1) := by decide +kernel
theorem dX7_mix_1 : decode cX7_mix 1 = .ok (.ldc2_w 200, 3) := by decide +kernel
theorem dX7_mix_4 : decode cX7_mix 4 = .ok (.aload_n 0, 1) := by decide +kernel
theorem dX7_mix_5 : decode cX7_mix 5 = .ok (.getfield 202, 3) := by decide +kernel
theorem dX7_mix_8 : decode cX7_mix 8 = .ok (.lmul, 1) := by decide +kernel
theorem dX7_mix_9 : decode cX7_mix 9 = .ok (.lload_n 1, 1) := by decide +kernel
theorem dX7_mix_10 : decode cX7_mix 10 = .ok (.ladd, 1) := by decide +kernel
theorem dX7_mix_11 : decode cX7_mix 11 = .ok (.putfield 202, 3) := by decide +kernel
theorem dX7_mix_14 : decode cX7_mix 14 = .ok (.return_, 1) := by decide +kernel
theorem dX7_digest_0 : decode cX7_digest 0 = .ok (.aload_n 0, 1) := by decide +kernel
theorem dX7_digest_1 : decode cX7_digest 1 = .ok (.ldc2_w 205, 3) := by decide +kernel
theorem dX7_digest_4 : decode cX7_digest 4 = .ok (.putfield 202, 3) := by decide +kernel
theorem dX7_digest_7 : decode cX7_digest 7 = .ok (.iconst 0, 1) := by decide +kernel
theorem dX7_digest_8 : decode cX7_digest 8 = .ok (.istore_n 1, 1) := by decide +kernel
theorem dX7_digest_9 : decode cX7_digest 9 = .ok (.iload_n 1, 1) := by decide +kernel
theorem dX7_digest_10 : decode cX7_digest 10 = .ok (.aload_n 0, 1) := by decide +kernel
theorem dX7_digest_11 : decode cX7_digest 11 = .ok (.getfield 73, 3) := by decide +kernel
theorem dX7_digest_14 : decode cX7_digest 14 = .ok (.if_icmp .ge 34, 3) := by decide +kernel
theorem dX7_digest_17 : decode cX7_digest 17 = .ok (.iconst 0, 1) := by decide +kernel
theorem dX7_digest_18 : decode cX7_digest 18 = .ok (.istore_n 2, 1) := by decide +kernel
theorem dX7_digest_19 : decode cX7_digest 19 = .ok (.iload_n 2, 1) := by decide +kernel
theorem dX7_digest_20 : decode cX7_digest 20 = .ok (.bipush 6, 2) := by decide +kernel
theorem dX7_digest_22 : decode cX7_digest 22 = .ok (.if_icmp .ge 20, 3) := by decide +kernel
theorem dX7_digest_25 : decode cX7_digest 25 = .ok (.aload_n 0, 1) := by decide +kernel
theorem dX7_digest_26 : decode cX7_digest 26 = .ok (.aload_n 0, 1) := by decide +kernel
theorem dX7_digest_27 : decode cX7_digest 27 = .ok (.iload_n 1, 1) := by decide +kernel
theorem dX7_digest_28 : decode cX7_digest 28 = .ok (.iload_n 2, 1) := by decide +kernel
theorem dX7_digest_29 : decode cX7_digest 29 = .ok (.invokevirtual 108, 3) := by decide +kernel
theorem dX7_digest_32 : decode cX7_digest 32 = .ok (.i2l, 1) := by decide +kernel
theorem dX7_digest_33 : decode cX7_digest 33 = .ok (.invokevirtual 207, 3) := by decide +kernel
theorem dX7_digest_36 : decode cX7_digest 36 = .ok (.iinc 2 1, 3) := by decide +kernel
theorem dX7_digest_39 : decode cX7_digest 39 = .ok (.goto (-20), 3) := by decide +kernel
theorem dX7_digest_42 : decode cX7_digest 42 = .ok (.iinc 1 1, 3) := by decide +kernel
theorem dX7_digest_45 : decode cX7_digest 45 = .ok (.goto (-36), 3) := by decide +kernel
theorem dX7_digest_48 : decode cX7_digest 48 = .ok (.aload_n 0, 1) := by decide +kernel
theorem dX7_digest_49 : decode cX7_digest 49 = .ok (.getfield 73, 3) := by decide +kernel
theorem dX7_digest_52 : decode cX7_digest 52 = .ok (.ifCond .le 59, 3) := by decide +kernel
theorem dX7_digest_55 : decode cX7_digest 55 = .ok (.aload_n 0, 1) := by decide +kernel
theorem dX7_digest_56 : decode cX7_digest 56 = .ok (.aload_n 0, 1) := by decide +kernel
theorem dX7_digest_57 : decode cX7_digest 57 = .ok (.aload_n 0, 1) := by decide +kernel
theorem dX7_digest_58 : decode cX7_digest 58 = .ok (.getfield 82, 3) := by decide +kernel
theorem dX7_digest_61 : decode cX7_digest 61 = .ok (.iconst 0, 1) := by decide +kernel
theorem dX7_digest_62 : decode cX7_digest 62 = .ok (.aload_n 0, 1) := by decide +kernel
theorem dX7_digest_63 : decode cX7_digest 63 = .ok (.getfield 85, 3) := by decide +kernel
theorem dX7_digest_66 : decode cX7_digest 66 = .ok (.invokevirtual 97, 3) := by decide +kernel
theorem dX7_digest_69 : decode cX7_digest 69 = .ok (.i2l, 1) := by decide +kernel
theorem dX7_digest_70 : decode cX7_digest 70 = .ok (.invokevirtual 207, 3) := by decide +kernel
theorem dX7_digest_73 : decode cX7_digest 73 = .ok (.aload_n 0, 1) := by decide +kernel
theorem dX7_digest_74 : decode cX7_digest 74 = .ok (.aload_n 0, 1) := by decide +kernel
theorem dX7_digest_75 : decode cX7_digest 75 = .ok (.invokevirtual 139, 3) := by decide +kernel
theorem dX7_digest_78 : decode cX7_digest 78 = .ok (.i2l, 1) := by decide +kernel
theorem dX7_digest_79 : decode cX7_digest 79 = .ok (.invokevirtual 207, 3) := by decide +kernel
theorem dX7_digest_82 : decode cX7_digest 82 = .ok (.aload_n 0, 1) := by decide +kernel
theorem dX7_digest_83 : decode cX7_digest 83 = .ok (.aload_n 0, 1) := by decide +kernel
theorem dX7_digest_84 : decode cX7_digest 84 = .ok (.iconst 0, 1) := by decide +kernel
theorem dX7_digest_85 : decode cX7_digest 85 = .ok (.invokevirtual 142, 3) := by decide +kernel
theorem dX7_digest_88 : decode cX7_digest 88 = .ok (.i2l, 1) := by decide +kernel
theorem dX7_digest_89 : decode cX7_digest 89 = .ok (.invokevirtual 207, 3) := by decide +kernel
theorem dX7_digest_92 : decode cX7_digest 92 = .ok (.aload_n 0, 1) := by decide +kernel
theorem dX7_digest_93 : decode cX7_digest 93 = .ok (.aload_n 0, 1) := by decide +kernel
theorem dX7_digest_94 : decode cX7_digest 94 = .ok (.iconst 1, 1) := by decide +kernel
theorem dX7_digest_95 : decode cX7_digest 95 = .ok (.invokevirtual 142, 3) := by decide +kernel
theorem dX7_digest_98 : decode cX7_digest 98 = .ok (.i2l, 1) := by decide +kernel
theorem dX7_digest_99 : decode cX7_digest 99 = .ok (.invokevirtual 207, 3) := by decide +kernel
theorem dX7_digest_102 : decode cX7_digest 102 = .ok (.aload_n 0, 1) := by decide +kernel
theorem dX7_digest_103 : decode cX7_digest 103 = .ok (.aload_n 0, 1) := by decide +kernel
theorem dX7_digest_104 : decode cX7_digest 104 = .ok (.invokevirtual 145, 3) := by decide +kernel
theorem dX7_digest_107 : decode cX7_digest 107 = .ok (.i2l, 1) := by decide +kernel
theorem dX7_digest_108 : decode cX7_digest 108 = .ok (.invokevirtual 207, 3) := by decide +kernel
theorem dX7_digest_111 : decode cX7_digest 111 = .ok (.iconst 0, 1) := by decide +kernel
theorem dX7_digest_112 : decode cX7_digest 112 = .ok (.istore_n 1, 1) := by decide +kernel
theorem dX7_digest_113 : decode cX7_digest 113 = .ok (.iload_n 1, 1) := by decide +kernel
theorem dX7_digest_114 : decode cX7_digest 114 = .ok (.aload_n 0, 1) := by decide +kernel
theorem dX7_digest_115 : decode cX7_digest 115 = .ok (.getfield 51, 3) := by decide +kernel
theorem dX7_digest_118 : decode cX7_digest 118 = .ok (.if_icmp .ge 20, 3) := by decide +kernel
theorem dX7_digest_121 : decode cX7_digest 121 = .ok (.aload_n 0, 1) := by decide +kernel
theorem dX7_digest_122 : decode cX7_digest 122 = .ok (.aload_n 0, 1) := by decide +kernel
theorem dX7_digest_123 : decode cX7_digest 123 = .ok (.getfield 25, 3) := by decide +kernel
theorem dX7_digest_126 : decode cX7_digest 126 = .ok (.iload_n 1, 1) := by decide +kernel
theorem dX7_digest_127 : decode cX7_digest 127 = .ok (.baload, 1) := by decide +kernel
theorem dX7_digest_128 : decode cX7_digest 128 = .ok (.i2l, 1) := by decide +kernel
theorem dX7_digest_129 : decode cX7_digest 129 = .ok (.invokevirtual 207, 3) := by decide +kernel
theorem dX7_digest_132 : decode cX7_digest 132 = .ok (.iinc 1 1, 3) := by decide +kernel
theorem dX7_digest_135 : decode cX7_digest 135 = .ok (.goto (-22), 3) := by decide +kernel
theorem dX7_digest_138 : decode cX7_digest 138 = .ok (.iconst 0, 1) := by decide +kernel
theorem dX7_digest_139 : decode cX7_digest 139 = .ok (.istore_n 1, 1) := by decide +kernel
theorem dX7_digest_140 : decode cX7_digest 140 = .ok (.iload_n 1, 1) := by decide +kernel
theorem dX7_digest_141 : decode cX7_digest 141 = .ok (.bipush 12, 2) := by decide +kernel
theorem dX7_digest_143 : decode cX7_digest 143 = .ok (.if_icmp .ge 19, 3) := by decide +kernel
theorem dX7_digest_146 : decode cX7_digest 146 = .ok (.aload_n 0, 1) := by decide +kernel
theorem dX7_digest_147 : decode cX7_digest 147 = .ok (.aload_n 0, 1) := by decide +kernel
theorem dX7_digest_148 : decode cX7_digest 148 = .ok (.iload_n 1, 1) := by decide +kernel
theorem dX7_digest_149 : decode cX7_digest 149 = .ok (.invokevirtual 197, 3) := by decide +kernel
theorem dX7_digest_152 : decode cX7_digest 152 = .ok (.i2l, 1) := by decide +kernel
theorem dX7_digest_153 : decode cX7_digest 153 = .ok (.invokevirtual 207, 3) := by decide +kernel
theorem dX7_digest_156 : decode cX7_digest 156 = .ok (.iinc 1 1, 3) := by decide +kernel
theorem dX7_digest_159 : decode cX7_digest 159 = .ok (.goto (-19), 3) := by decide +kernel
theorem dX7_digest_162 : decode cX7_digest 162 = .ok (.aload_n 0, 1) := by decide +kernel
theorem dX7_digest_163 : decode cX7_digest 163 = .ok (.getfield 202, 3) := by decide +kernel
theorem dX7_digest_166 : decode cX7_digest 166 = .ok (.lreturn, 1) := by decide +kernel
theorem dJ0_length_8abf5_0 : decode cJ0_length_8abf5 0 = .ok (.aload_n 0, 1) := by decide +kernel
theorem dJ0_length_8abf5_1 : decode cJ0_length_8abf5 1 = .ok (.getfield 9, 3) := by decide +kernel
theorem dJ0_length_8abf5_4 : decode cJ0_length_8abf5 4 = .ok (.arraylength, 1) := by decide +kernel
theorem dJ0_length_8abf5_5 : decode cJ0_length_8abf5 5 = .ok (.aload_n 0, 1) := by decide +kernel
theorem dJ0_length_8abf5_6 : decode cJ0_length_8abf5 6 = .ok (.invokevirtual 335, 3) := by decide +kernel
theorem dJ0_length_8abf5_9 : decode cJ0_length_8abf5 9 = .ok (.ishr, 1) := by decide +kernel
theorem dJ0_length_8abf5_10 : decode cJ0_length_8abf5 10 = .ok (.ireturn, 1) := by decide +kernel
theorem dJ0_indexOf_0f7a4_0 : decode cJ0_indexOf_0f7a4 0 = .ok (.aload_n 0, 1) := by decide +kernel
theorem dJ0_indexOf_0f7a4_1 : decode cJ0_indexOf_0f7a4 1 = .ok (.iload_n 1, 1) := by decide +kernel
theorem dJ0_indexOf_0f7a4_2 : decode cJ0_indexOf_0f7a4 2 = .ok (.iconst 0, 1) := by decide +kernel
theorem dJ0_indexOf_0f7a4_3 : decode cJ0_indexOf_0f7a4 3 = .ok (.invokevirtual 633, 3) := by decide +kernel
theorem dJ0_indexOf_0f7a4_6 : decode cJ0_indexOf_0f7a4 6 = .ok (.ireturn, 1) := by decide +kernel
theorem dJ0_indexOf_7cf53_0 : decode cJ0_indexOf_7cf53 0 = .ok (.aload_n 0, 1) := by decide +kernel
theorem dJ0_indexOf_7cf53_1 : decode cJ0_indexOf_7cf53 1 = .ok (.invokevirtual 492, 3) := by decide +kernel
theorem dJ0_indexOf_7cf53_4 : decode cJ0_indexOf_7cf53 4 = .ok (.ifCond .eq 19, 3) := by decide +kernel
theorem dJ0_indexOf_7cf53_7 : decode cJ0_indexOf_7cf53 7 = .ok (.aload_n 0, 1) := by decide +kernel
theorem dJ0_indexOf_7cf53_8 : decode cJ0_indexOf_7cf53 8 = .ok (.getfield 9, 3) := by decide +kernel
theorem dJ0_indexOf_7cf53_11 : decode cJ0_indexOf_7cf53 11 = .ok (.iload_n 1, 1) := by decide +kernel
theorem dJ0_indexOf_7cf53_12 : decode cJ0_indexOf_7cf53 12 = .ok (.iload_n 2, 1) := by decide +kernel
theorem dJ0_indexOf_7cf53_13 : decode cJ0_indexOf_7cf53 13 = .ok (.aload_n 0, 1) := by decide +kernel
theorem dJ0_indexOf_7cf53_14 : decode cJ0_indexOf_7cf53 14 = .ok (.invokevirtual 505, 3) := by decide +kernel
theorem dJ0_indexOf_7cf53_17 : decode cJ0_indexOf_7cf53 17 = .ok (.invokestatic 637, 3) := by decide +kernel
theorem dJ0_indexOf_7cf53_20 : decode cJ0_indexOf_7cf53 20 = .ok (.goto 16, 3) := by decide +kernel
theorem dJ0_indexOf_7cf53_23 : decode cJ0_indexOf_7cf53 23 = .ok (.aload_n 0, 1) := by decide +kernel
theorem dJ0_indexOf_7cf53_24 : decode cJ0_indexOf_7cf53 24 = .ok (.getfield 9, 3) := by decide +kernel
theorem dJ0_indexOf_7cf53_27 : decode cJ0_indexOf_7cf53 27 = .ok (.iload_n 1, 1) := by decide +kernel
theorem dJ0_indexOf_7cf53_28 : decode cJ0_indexOf_7cf53 28 = .ok (.iload_n 2, 1) := by decide +kernel
theorem dJ0_indexOf_7cf53_29 : decode cJ0_indexOf_7cf53 29 = .ok (.aload_n 0, 1) := by decide +kernel
theorem dJ0_indexOf_7cf53_30 : decode cJ0_indexOf_7cf53 30 = .ok (.invokevirtual 505, 3) := by decide +kernel
theorem dJ0_indexOf_7cf53_33 : decode cJ0_indexOf_7cf53 33 = .ok (.invokestatic 640, 3) := by decide +kernel
theorem dJ0_indexOf_7cf53_36 : decode cJ0_indexOf_7cf53 36 = .ok (.ireturn, 1) := by decide +kernel
theorem dJ0_coder_7d493_0 : decode cJ0_coder_7d493 0 = .ok (.getstatic 38, 3) := by decide +kernel
theorem dJ0_coder_7d493_3 : decode cJ0_coder_7d493 3 = .ok (.ifCond .eq 10, 3) := by decide +kernel
theorem dJ0_coder_7d493_6 : decode cJ0_coder_7d493 6 = .ok (.aload_n 0, 1) := by decide +kernel
theorem dJ0_coder_7d493_7 : decode cJ0_coder_7d493 7 = .ok (.getfield 15, 3) := by decide +kernel
theorem dJ0_coder_7d493_10 : decode cJ0_coder_7d493 10 = .ok (.goto 4, 3) := by decide +kernel
theorem dJ0_coder_7d493_13 : decode cJ0_coder_7d493 13 = .ok (.iconst 1, 1) := by decide +kernel
theorem dJ0_coder_7d493_14 : decode cJ0_coder_7d493 14 = .ok (.ireturn, 1) := by decide +kernel
theorem dJ0_isLatin1_aae02_0 : decode cJ0_isLatin1_aae02 0 = .ok (.getstatic 38, 3) := by decide +kernel
theorem dJ0_isLatin1_aae02_3 : decode cJ0_isLatin1_aae02 3 = .ok (.ifCond .eq 14, 3) := by decide +kernel
theorem dJ0_isLatin1_aae02_6 : decode cJ0_isLatin1_aae02 6 = .ok (.aload_n 0, 1) := by decide +kernel
theorem dJ0_isLatin1_aae02_7 : decode cJ0_isLatin1_aae02 7 = .ok (.getfield 15, 3) := by decide +kernel
theorem dJ0_isLatin1_aae02_10 : decode cJ0_isLatin1_aae02 10 = .ok (.ifCond .ne 7, 3) := by decide +kernel
theorem dJ0_isLatin1_aae02_13 : decode cJ0_isLatin1_aae02 13 = .ok (.iconst 1, 1) := by decide +kernel
theorem dJ0_isLatin1_aae02_14 : decode cJ0_isLatin1_aae02 14 = .ok (.goto 4, 3) := by decide +kernel
theorem dJ0_isLatin1_aae02_17 : decode cJ0_isLatin1_aae02 17 = .ok (.iconst 0, 1) := by decide +kernel
theorem dJ0_isLatin1_aae02_18 : decode cJ0_isLatin1_aae02 18 = .ok (.ireturn, 1) := by decide +kernel
theorem dJ0_checkBoundsBeginEnd_23922_0 : decode cJ0_checkBoundsBeginEnd_23922 0 = .ok (.iload_n 0, 1) := by decide +kernel
theorem dJ0_checkBoundsBeginEnd_23922_1 : decode cJ0_checkBoundsBeginEnd_23922 1 = .ok (.iload_n 1, 1) := by decide +kernel
theorem dJ0_checkBoundsBeginEnd_23922_2 : decode cJ0_checkBoundsBeginEnd_23922 2 = .ok (.iload_n 2, 1) := by decide +kernel
theorem dJ0_checkBoundsBeginEnd_23922_3 : decode cJ0_checkBoundsBeginEnd_23922 3 = .ok (.getstatic 1053, 3) := by decide +kernel
theorem dJ0_checkBoundsBeginEnd_23922_6 : decode cJ0_checkBoundsBeginEnd_23922 6 = .ok (.invokestatic 1062, 3) := by decide +kernel
theorem dJ0_checkBoundsBeginEnd_23922_9 : decode cJ0_checkBoundsBeginEnd_23922 9 = .ok (.pop, 1) := by decide +kernel
theorem dJ0_checkBoundsBeginEnd_23922_10 : decode cJ0_checkBoundsBeginEnd_23922 10 = .ok (.return_, 1) := by decide +kernel
theorem dJ1_canEncode_9a6ad_0 : decode cJ1_canEncode_9a6ad 0 = .ok (.iload_n 0, 1) := by decide +kernel
theorem dJ1_canEncode_9a6ad_1 : decode cJ1_canEncode_9a6ad 1 = .ok (.ifCond .lt 14, 3) := by decide +kernel
theorem dJ1_canEncode_9a6ad_4 : decode cJ1_canEncode_9a6ad 4 = .ok (.iload_n 0, 1) := by decide +kernel
theorem dJ1_canEncode_9a6ad_5 : decode cJ1_canEncode_9a6ad 5 = .ok (.sipush 255, 3) := by decide +kernel
theorem dJ1_canEncode_9a6ad_8 : decode cJ1_canEncode_9a6ad 8 = .ok (.if_icmp .gt 7, 3) := by decide +kernel
theorem dJ1_canEncode_9a6ad_11 : decode cJ1_canEncode_9a6ad 11 = .ok (.iconst 1, 1) := by decide +kernel
