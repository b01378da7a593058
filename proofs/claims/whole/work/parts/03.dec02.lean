theorem dX6_races_1 : decode cX6_races 1 = .ok (.iconst 1, 1) := by decide +kernel
theorem dX6_races_2 : decode cX6_races 2 = .ok (.if_icmp .lt 22, 3) := by decide +kernel
theorem dX6_races_5 : decode cX6_races 5 = .ok (.iload_n 1, 1) := by decide +kernel
theorem dX6_races_6 : decode cX6_races 6 = .ok (.bipush 60, 2) := by decide +kernel
theorem dX6_races_8 : decode cX6_races 8 = .ok (.if_icmp .gt 16, 3) := by decide +kernel
theorem dX6_races_11 : decode cX6_races 11 = .ok (.iload_n 2, 1) := by decide +kernel
theorem dX6_races_12 : decode cX6_races 12 = .ok (.ifCond .lt 12, 3) := by decide +kernel
theorem dX6_races_15 : decode cX6_races 15 = .ok (.iload_n 3, 1) := by decide +kernel
theorem dX6_races_16 : decode cX6_races 16 = .ok (.ifCond .lt 8, 3) := by decide +kernel
theorem dX6_races_19 : decode cX6_races 19 = .ok (.iload_n 3, 1) := by decide +kernel
theorem dX6_races_20 : decode cX6_races 20 = .ok (.iconst 2, 1) := by decide +kernel
theorem dX6_races_21 : decode cX6_races 21 = .ok (.if_icmp .le 6, 3) := by decide +kernel
theorem dX6_races_24 : decode cX6_races 24 = .ok (.bipush (-102), 2) := by decide +kernel
theorem dX6_races_26 : decode cX6_races 26 = .ok (.ireturn, 1) := by decide +kernel
theorem dX6_races_27 : decode cX6_races 27 = .ok (.aload_n 0, 1) := by decide +kernel
theorem dX6_races_28 : decode cX6_races 28 = .ok (.invokevirtual 124, 3) := by decide +kernel
theorem dX6_races_31 : decode cX6_races 31 = .ok (.ifCond .ne 6, 3) := by decide +kernel
theorem dX6_races_34 : decode cX6_races 34 = .ok (.bipush (-103), 2) := by decide +kernel
theorem dX6_races_36 : decode cX6_races 36 = .ok (.ireturn, 1) := by decide +kernel
theorem dX6_races_37 : decode cX6_races 37 = .ok (.aload_n 0, 1) := by decide +kernel
theorem dX6_races_38 : decode cX6_races 38 = .ok (.getfield 26, 3) := by decide +kernel
theorem dX6_races_41 : decode cX6_races 41 = .ok (.aload_n 0, 1) := by decide +kernel
theorem dX6_races_42 : decode cX6_races 42 = .ok (.getfield 19, 3) := by decide +kernel
theorem dX6_races_45 : decode cX6_races 45 = .ok (.invokevirtual 170, 3) := by decide +kernel
theorem dX6_races_48 : decode cX6_races 48 = .ok (.aload_n 0, 1) := by decide +kernel
theorem dX6_races_49 : decode cX6_races 49 = .ok (.getfield 26, 3) := by decide +kernel
theorem dX6_races_52 : decode cX6_races 52 = .ok (.iload_n 1, 1) := by decide +kernel
theorem dX6_races_53 : decode cX6_races 53 = .ok (.iload_n 2, 1) := by decide +kernel
theorem dX6_races_54 : decode cX6_races 54 = .ok (.invokevirtual 174, 3) := by decide +kernel
theorem dX6_races_57 : decode cX6_races 57 = .ok (.istore 4, 2) := by decide +kernel
theorem dX6_races_59 : decode cX6_races 59 = .ok (.iload_n 3, 1) := by decide +kernel
theorem dX6_races_60 : decode cX6_races 60 = .ok (.lookupswitch 52 #[(0, 28), (1, 44)], 28) := by decide +kernel
theorem dX6_races_88 : decode cX6_races 88 = .ok (.aload_n 0, 1) := by decide +kernel
theorem dX6_races_89 : decode cX6_races 89 = .ok (.getfield 26, 3) := by decide +kernel
theorem dX6_races_92 : decode cX6_races 92 = .ok (.getfield 177, 3) := by decide +kernel
theorem dX6_races_95 : decode cX6_races 95 = .ok (.aload_n 0, 1) := by decide +kernel
theorem dX6_races_96 : decode cX6_races 96 = .ok (.getfield 19, 3) := by decide +kernel
theorem dX6_races_99 : decode cX6_races 99 = .ok (.getfield 177, 3) := by decide +kernel
theorem dX6_races_102 : decode cX6_races 102 = .ok (.isub, 1) := by decide +kernel
theorem dX6_races_103 : decode cX6_races 103 = .ok (.ireturn, 1) := by decide +kernel
theorem dX6_races_104 : decode cX6_races 104 = .ok (.aload_n 0, 1) := by decide +kernel
theorem dX6_races_105 : decode cX6_races 105 = .ok (.getfield 26, 3) := by decide +kernel
theorem dX6_races_108 : decode cX6_races 108 = .ok (.getfield 136, 3) := by decide +kernel
theorem dX6_races_111 : decode cX6_races 111 = .ok (.ireturn, 1) := by decide +kernel
theorem dX6_races_112 : decode cX6_races 112 = .ok (.iload 4, 2) := by decide +kernel
theorem dX6_races_114 : decode cX6_races 114 = .ok (.ireturn, 1) := by decide +kernel
theorem dX6_image_0 : decode cX6_image 0 = .ok (.aload_n 0, 1) := by decide +kernel
theorem dX6_image_1 : decode cX6_image 1 = .ok (.invokevirtual 124, 3) := by decide +kernel
theorem dX6_image_4 : decode cX6_image 4 = .ok (.ifCond .ne 6, 3) := by decide +kernel
theorem dX6_image_7 : decode cX6_image 7 = .ok (.bipush (-103), 2) := by decide +kernel
theorem dX6_image_9 : decode cX6_image 9 = .ok (.ireturn, 1) := by decide +kernel
theorem dX6_image_10 : decode cX6_image 10 = .ok (.aload_n 0, 1) := by decide +kernel
theorem dX6_image_11 : decode cX6_image 11 = .ok (.getfield 23, 3) := by decide +kernel
theorem dX6_image_14 : decode cX6_image 14 = .ok (.aload_n 0, 1) := by decide +kernel
theorem dX6_image_15 : decode cX6_image 15 = .ok (.getfield 19, 3) := by decide +kernel
theorem dX6_image_18 : decode cX6_image 18 = .ok (.invokevirtual 170, 3) := by decide +kernel
theorem dX6_image_21 : decode cX6_image 21 = .ok (.aload_n 0, 1) := by decide +kernel
theorem dX6_image_22 : decode cX6_image 22 = .ok (.iconst 1, 1) := by decide +kernel
theorem dX6_image_23 : decode cX6_image 23 = .ok (.putfield 43, 3) := by decide +kernel
theorem dX6_image_26 : decode cX6_image 26 = .ok (.aload_n 0, 1) := by decide +kernel
theorem dX6_image_27 : decode cX6_image 27 = .ok (.getfield 23, 3) := by decide +kernel
theorem dX6_image_30 : decode cX6_image 30 = .ok (.getfield 180, 3) := by decide +kernel
theorem dX6_image_33 : decode cX6_image 33 = .ok (.ireturn, 1) := by decide +kernel
theorem dX6_restore_0 : decode cX6_restore 0 = .ok (.aload_n 0, 1) := by decide +kernel
theorem dX6_restore_1 : decode cX6_restore 1 = .ok (.getfield 43, 3) := by decide +kernel
theorem dX6_restore_4 : decode cX6_restore 4 = .ok (.ifCond .ne 6, 3) := by decide +kernel
theorem dX6_restore_7 : decode cX6_restore 7 = .ok (.bipush (-103), 2) := by decide +kernel
theorem dX6_restore_9 : decode cX6_restore 9 = .ok (.ireturn, 1) := by decide +kernel
theorem dX6_restore_10 : decode cX6_restore 10 = .ok (.aload_n 0, 1) := by decide +kernel
theorem dX6_restore_11 : decode cX6_restore 11 = .ok (.getfield 19, 3) := by decide +kernel
theorem dX6_restore_14 : decode cX6_restore 14 = .ok (.aload_n 0, 1) := by decide +kernel
theorem dX6_restore_15 : decode cX6_restore 15 = .ok (.getfield 23, 3) := by decide +kernel
theorem dX6_restore_18 : decode cX6_restore 18 = .ok (.invokevirtual 170, 3) := by decide +kernel
theorem dX6_restore_21 : decode cX6_restore 21 = .ok (.aload_n 0, 1) := by decide +kernel
theorem dX6_restore_22 : decode cX6_restore 22 = .ok (.getfield 19, 3) := by decide +kernel
theorem dX6_restore_25 : decode cX6_restore 25 = .ok (.getfield 180, 3) := by decide +kernel
theorem dX6_restore_28 : decode cX6_restore 28 = .ok (.ireturn, 1) := by decide +kernel
theorem dX6_count_0 : decode cX6_count 0 = .ok (.iload_n 1, 1) := by decide +kernel
theorem dX6_count_1 : decode cX6_count 1 = .ok (.tableswitch 176 0 11 #[63, 74, 82, 90, 98, 106, 114, 136, 147, 158, 166, 171], 63) := by decide +kernel
theorem dX6_count_64 : decode cX6_count 64 = .ok (.aload_n 0, 1) := by decide +kernel
theorem dX6_count_65 : decode cX6_count 65 = .ok (.getfield 19, 3) := by decide +kernel
theorem dX6_count_68 : decode cX6_count 68 = .ok (.getfield 82, 3) := by decide +kernel
theorem dX6_count_71 : decode cX6_count 71 = .ok (.invokevirtual 85, 3) := by decide +kernel
theorem dX6_count_74 : decode cX6_count 74 = .ok (.ireturn, 1) := by decide +kernel
theorem dX6_count_75 : decode cX6_count 75 = .ok (.aload_n 0, 1) := by decide +kernel
theorem dX6_count_76 : decode cX6_count 76 = .ok (.getfield 19, 3) := by decide +kernel
theorem dX6_count_79 : decode cX6_count 79 = .ok (.getfield 142, 3) := by decide +kernel
theorem dX6_count_82 : decode cX6_count 82 = .ok (.ireturn, 1) := by decide +kernel
theorem dX6_count_83 : decode cX6_count 83 = .ok (.aload_n 0, 1) := by decide +kernel
theorem dX6_count_84 : decode cX6_count 84 = .ok (.getfield 19, 3) := by decide +kernel
theorem dX6_count_87 : decode cX6_count 87 = .ok (.getfield 136, 3) := by decide +kernel
theorem dX6_count_90 : decode cX6_count 90 = .ok (.ireturn, 1) := by decide +kernel
theorem dX6_count_91 : decode cX6_count 91 = .ok (.aload_n 0, 1) := by decide +kernel
theorem dX6_count_92 : decode cX6_count 92 = .ok (.getfield 19, 3) := by decide +kernel
theorem dX6_count_95 : decode cX6_count 95 = .ok (.getfield 145, 3) := by decide +kernel
theorem dX6_count_98 : decode cX6_count 98 = .ok (.ireturn, 1) := by decide +kernel
theorem dX6_count_99 : decode cX6_count 99 = .ok (.aload_n 0, 1) := by decide +kernel
theorem dX6_count_100 : decode cX6_count 100 = .ok (.getfield 19, 3) := by decide +kernel
theorem dX6_count_103 : decode cX6_count 103 = .ok (.getfield 180, 3) := by decide +kernel
theorem dX6_count_106 : decode cX6_count 106 = .ok (.ireturn, 1) := by decide +kernel
theorem dX6_count_107 : decode cX6_count 107 = .ok (.aload_n 0, 1) := by decide +kernel
theorem dX6_count_108 : decode cX6_count 108 = .ok (.getfield 19, 3) := by decide +kernel
theorem dX6_count_111 : decode cX6_count 111 = .ok (.getfield 177, 3) := by decide +kernel
theorem dX6_count_114 : decode cX6_count 114 = .ok (.ireturn, 1) := by decide +kernel
theorem dX6_count_115 : decode cX6_count 115 = .ok (.aload_n 0, 1) := by decide +kernel
theorem dX6_count_116 : decode cX6_count 116 = .ok (.invokevirtual 124, 3) := by decide +kernel
theorem dX6_count_119 : decode cX6_count 119 = .ok (.ifCond .eq 16, 3) := by decide +kernel
theorem dX6_count_122 : decode cX6_count 122 = .ok (.aload_n 0, 1) := by decide +kernel
theorem dX6_count_123 : decode cX6_count 123 = .ok (.getfield 19, 3) := by decide +kernel
theorem dX6_count_126 : decode cX6_count 126 = .ok (.getfield 142, 3) := by decide +kernel
theorem dX6_count_129 : decode cX6_count 129 = .ok (.invokestatic 183, 3) := by decide +kernel
theorem dX6_count_132 : decode cX6_count 132 = .ok (.goto 4, 3) := by decide +kernel
theorem dX6_count_135 : decode cX6_count 135 = .ok (.iconst 0, 1) := by decide +kernel
theorem dX6_count_136 : decode cX6_count 136 = .ok (.ireturn, 1) := by decide +kernel
theorem dX6_count_137 : decode cX6_count 137 = .ok (.aload_n 0, 1) := by decide +kernel
theorem dX6_count_138 : decode cX6_count 138 = .ok (.getfield 19, 3) := by decide +kernel
theorem dX6_count_141 : decode cX6_count 141 = .ok (.getfield 82, 3) := by decide +kernel
theorem dX6_count_144 : decode cX6_count 144 = .ok (.invokevirtual 186, 3) := by decide +kernel
theorem dX6_count_147 : decode cX6_count 147 = .ok (.ireturn, 1) := by decide +kernel
theorem dX6_count_148 : decode cX6_count 148 = .ok (.aload_n 0, 1) := by decide +kernel
theorem dX6_count_149 : decode cX6_count 149 = .ok (.getfield 19, 3) := by decide +kernel
theorem dX6_count_152 : decode cX6_count 152 = .ok (.getfield 100, 3) := by decide +kernel
theorem dX6_count_155 : decode cX6_count 155 = .ok (.invokevirtual 164, 3) := by decide +kernel
theorem dX6_count_158 : decode cX6_count 158 = .ok (.ireturn, 1) := by decide +kernel
theorem dX6_count_159 : decode cX6_count 159 = .ok (.aload_n 0, 1) := by decide +kernel
theorem dX6_count_160 : decode cX6_count 160 = .ok (.getfield 10, 3) := by decide +kernel
theorem dX6_count_163 : decode cX6_count 163 = .ok (.invokevirtual 64, 3) := by decide +kernel
theorem dX6_count_166 : decode cX6_count 166 = .ok (.ireturn, 1) := by decide +kernel
theorem dX6_count_167 : decode cX6_count 167 = .ok (.aload_n 0, 1) := by decide +kernel
theorem dX6_count_168 : decode cX6_count 168 = .ok (.getfield 47, 3) := by decide +kernel
theorem dX6_count_171 : decode cX6_count 171 = .ok (.ireturn, 1) := by decide +kernel
theorem dX6_count_172 : decode cX6_count 172 = .ok (.aload_n 0, 1) := by decide +kernel
theorem dX6_count_173 : decode cX6_count 173 = .ok (.getfield 51, 3) := by decide +kernel
theorem dX6_count_176 : decode cX6_count 176 = .ok (.ireturn, 1) := by decide +kernel
theorem dX6_count_177 : decode cX6_count 177 = .ok (.bipush (-102), 2) := by decide +kernel
theorem dX6_count_179 : decode cX6_count 179 = .ok (.ireturn, 1) := by decide +kernel
theorem dX6_digest_0 : decode cX6_digest 0 = .ok (.ldc2_w 189, 3) := by decide +kernel
theorem dX6_digest_3 : decode cX6_digest 3 = .ok (.lstore_n 1, 1) := by decide +kernel
theorem dX6_digest_4 : decode cX6_digest 4 = .ok (.iconst 0, 1) := by decide +kernel
theorem dX6_digest_5 : decode cX6_digest 5 = .ok (.istore_n 3, 1) := by decide +kernel
theorem dX6_digest_6 : decode cX6_digest 6 = .ok (.iload_n 3, 1) := by decide +kernel
theorem dX6_digest_7 : decode cX6_digest 7 = .ok (.aload_n 0, 1) := by decide +kernel
theorem dX6_digest_8 : decode cX6_digest 8 = .ok (.getfield 19, 3) := by decide +kernel
theorem dX6_digest_11 : decode cX6_digest 11 = .ok (.getfield 82, 3) := by decide +kernel
theorem dX6_digest_14 : decode cX6_digest 14 = .ok (.invokevirtual 85, 3) := by decide +kernel
theorem dX6_digest_17 : decode cX6_digest 17 = .ok (.if_icmp .ge 40, 3) := by decide +kernel
theorem dX6_digest_20 : decode cX6_digest 20 = .ok (.iconst 0, 1) := by decide +kernel
theorem dX6_digest_21 : decode cX6_digest 21 = .ok (.istore 4, 2) := by decide +kernel
theorem dX6_digest_23 : decode cX6_digest 23 = .ok (.iload 4, 2) := by decide +kernel
theorem dX6_digest_25 : decode cX6_digest 25 = .ok (.bipush 6, 2) := by decide +kernel
theorem dX6_digest_27 : decode cX6_digest 27 = .ok (.if_icmp .ge 24, 3) := by decide +kernel
theorem dX6_digest_30 : decode cX6_digest 30 = .ok (.ldc2_w 191, 3) := by decide +kernel
theorem dX6_digest_33 : decode cX6_digest 33 = .ok (.lload_n 1, 1) := by decide +kernel
theorem dX6_digest_34 : decode cX6_digest 34 = .ok (.lmul, 1) := by decide +kernel
theorem dX6_digest_35 : decode cX6_digest 35 = .ok (.aload_n 0, 1) := by decide +kernel
theorem dX6_digest_36 : decode cX6_digest 36 = .ok (.iload_n 3, 1) := by decide +kernel
theorem dX6_digest_37 : decode cX6_digest 37 = .ok (.iload 4, 2) := by decide +kernel
theorem dX6_digest_39 : decode cX6_digest 39 = .ok (.invokevirtual 193, 3) := by decide +kernel
theorem dX6_digest_42 : decode cX6_digest 42 = .ok (.i2l, 1) := by decide +kernel
theorem dX6_digest_43 : decode cX6_digest 43 = .ok (.ladd, 1) := by decide +kernel
theorem dX6_digest_44 : decode cX6_digest 44 = .ok (.lstore_n 1, 1) := by decide +kernel
theorem dX6_digest_45 : decode cX6_digest 45 = .ok (.iinc 4 1, 3) := by decide +kernel
theorem dX6_digest_48 : decode cX6_digest 48 = .ok (.goto (-25), 3) := by decide +kernel
theorem dX6_digest_51 : decode cX6_digest 51 = .ok (.iinc 3 1, 3) := by decide +kernel
theorem dX6_digest_54 : decode cX6_digest 54 = .ok (.goto (-48), 3) := by decide +kernel
theorem dX6_digest_57 : decode cX6_digest 57 = .ok (.aload_n 0, 1) := by decide +kernel
theorem dX6_digest_58 : decode cX6_digest 58 = .ok (.invokevirtual 124, 3) := by decide +kernel
theorem dX6_digest_61 : decode cX6_digest 61 = .ok (.ifCond .eq 68, 3) := by decide +kernel
theorem dX6_digest_64 : decode cX6_digest 64 = .ok (.aload_n 0, 1) := by decide +kernel
theorem dX6_digest_65 : decode cX6_digest 65 = .ok (.invokevirtual 158, 3) := by decide +kernel
theorem dX6_digest_68 : decode cX6_digest 68 = .ok (.ldc2_w 191, 3) := by decide +kernel
theorem dX6_digest_71 : decode cX6_digest 71 = .ok (.lload_n 1, 1) := by decide +kernel
theorem dX6_digest_72 : decode cX6_digest 72 = .ok (.lmul, 1) := by decide +kernel
theorem dX6_digest_73 : decode cX6_digest 73 = .ok (.aload_n 0, 1) := by decide +kernel
theorem dX6_digest_74 : decode cX6_digest 74 = .ok (.iconst 0, 1) := by decide +kernel
theorem dX6_digest_75 : decode cX6_digest 75 = .ok (.invokevirtual 196, 3) := by decide +kernel
theorem dX6_digest_78 : decode cX6_digest 78 = .ok (.i2l, 1) := by decide +kernel
theorem dX6_digest_79 : decode cX6_digest 79 = .ok (.ladd, 1) := by decide +kernel
theorem dX6_digest_80 : decode cX6_digest 80 = .ok (.lstore_n 1, 1) := by decide +kernel
theorem dX6_digest_81 : decode cX6_digest 81 = .ok (.ldc2_w 191, 3) := by decide +kernel
theorem dX6_digest_84 : decode cX6_digest 84 = .ok (.lload_n 1, 1) := by decide +kernel
theorem dX6_digest_85 : decode cX6_digest 85 = .ok (.lmul, 1) := by decide +kernel
theorem dX6_digest_86 : decode cX6_digest 86 = .ok (.aload_n 0, 1) := by decide +kernel
theorem dX6_digest_87 : decode cX6_digest 87 = .ok (.invokevirtual 155, 3) := by decide +kernel
theorem dX6_digest_90 : decode cX6_digest 90 = .ok (.i2l, 1) := by decide +kernel
theorem dX6_digest_91 : decode cX6_digest 91 = .ok (.ladd, 1) := by decide +kernel
theorem dX6_digest_92 : decode cX6_digest 92 = .ok (.lstore_n 1, 1) := by decide +kernel
theorem dX6_digest_93 : decode cX6_digest 93 = .ok (.ldc2_w 191, 3) := by decide +kernel
theorem dX6_digest_96 : decode cX6_digest 96 = .ok (.lload_n 1, 1) := by decide +kernel
theorem dX6_digest_97 : decode cX6_digest 97 = .ok (.lmul, 1) := by decide +kernel
theorem dX6_digest_98 : decode cX6_digest 98 = .ok (.aload_n 0, 1) := by decide +kernel
theorem dX6_digest_99 : decode cX6_digest 99 = .ok (.getfield 54, 3) := by decide +kernel
theorem dX6_digest_102 : decode cX6_digest 102 = .ok (.i2l, 1) := by decide +kernel
theorem dX6_digest_103 : decode cX6_digest 103 = .ok (.ladd, 1) := by decide +kernel
theorem dX6_digest_104 : decode cX6_digest 104 = .ok (.lstore_n 1, 1) := by decide +kernel
theorem dX6_digest_105 : decode cX6_digest 105 = .ok (.ldc2_w 191, 3) := by decide +kernel
theorem dX6_digest_108 : decode cX6_digest 108 = .ok (.lload_n 1, 1) := by decide +kernel
theorem dX6_digest_109 : decode cX6_digest 109 = .ok (.lmul, 1) := by decide +kernel
theorem dX6_digest_110 : decode cX6_digest 110 = .ok (.aload_n 0, 1) := by decide +kernel
theorem dX6_digest_111 : decode cX6_digest 111 = .ok (.getfield 57, 3) := by decide +kernel
theorem dX6_digest_114 : decode cX6_digest 114 = .ok (.i2l, 1) := by decide +kernel
theorem dX6_digest_115 : decode cX6_digest 115 = .ok (.ladd, 1) := by decide +kernel
theorem dX6_digest_116 : decode cX6_digest 116 = .ok (.lstore_n 1, 1) := by decide +kernel
theorem dX6_digest_117 : decode cX6_digest 117 = .ok (.ldc2_w 191, 3) := by decide +kernel
theorem dX6_digest_120 : decode cX6_digest 120 = .ok (.lload_n 1, 1) := by decide +kernel
theorem dX6_digest_121 : decode cX6_digest 121 = .ok (.lmul, 1) := by decide +kernel
theorem dX6_digest_122 : decode cX6_digest 122 = .ok (.aload_n 0, 1) := by decide +kernel
theorem dX6_digest_123 : decode cX6_digest 123 = .ok (.invokevirtual 199, 3) := by decide +kernel
theorem dX6_digest_126 : decode cX6_digest 126 = .ok (.i2l, 1) := by decide +kernel
theorem dX6_digest_127 : decode cX6_digest 127 = .ok (.ladd, 1) := by decide +kernel
theorem dX6_digest_128 : decode cX6_digest 128 = .ok (.lstore_n 1, 1) := by decide +kernel
theorem dX6_digest_129 : decode cX6_digest 129 = .ok (.iconst 0, 1) := by decide +kernel
theorem dX6_digest_130 : decode cX6_digest 130 = .ok (.istore_n 3, 1) := by decide +kernel
theorem dX6_digest_131 : decode cX6_digest 131 = .ok (.iload_n 3, 1) := by decide +kernel
theorem dX6_digest_132 : decode cX6_digest 132 = .ok (.aload_n 0, 1) := by decide +kernel
theorem dX6_digest_133 : decode cX6_digest 133 = .ok (.getfield 10, 3) := by decide +kernel
theorem dX6_digest_136 : decode cX6_digest 136 = .ok (.invokevirtual 64, 3) := by decide +kernel
theorem dX6_digest_139 : decode cX6_digest 139 = .ok (.if_icmp .ge 25, 3) := by decide +kernel
theorem dX6_digest_142 : decode cX6_digest 142 = .ok (.ldc2_w 191, 3) := by decide +kernel
theorem dX6_digest_145 : decode cX6_digest 145 = .ok (.lload_n 1, 1) := by decide +kernel
theorem dX6_digest_146 : decode cX6_digest 146 = .ok (.lmul, 1) := by decide +kernel
theorem dX6_digest_147 : decode cX6_digest 147 = .ok (.aload_n 0, 1) := by decide +kernel
theorem dX6_digest_148 : decode cX6_digest 148 = .ok (.getfield 10, 3) := by decide +kernel
theorem dX6_digest_151 : decode cX6_digest 151 = .ok (.iload_n 3, 1) := by decide +kernel
theorem dX6_digest_152 : decode cX6_digest 152 = .ok (.invokevirtual 202, 3) := by decide +kernel
theorem dX6_digest_155 : decode cX6_digest 155 = .ok (.i2l, 1) := by decide +kernel
theorem dX6_digest_156 : decode cX6_digest 156 = .ok (.ladd, 1) := by decide +kernel
theorem dX6_digest_157 : decode cX6_digest 157 = .ok (.lstore_n 1, 1) := by decide +kernel
theorem dX6_digest_158 : decode cX6_digest 158 = .ok (.iinc 3 1, 3) := by decide +kernel
theorem dX6_digest_161 : decode cX6_digest 161 = .ok (.goto (-30), 3) := by decide +kernel
theorem dX6_digest_164 : decode cX6_digest 164 = .ok (.iconst 0, 1) := by decide +kernel
theorem dX6_digest_165 : decode cX6_digest 165 = .ok (.istore_n 3, 1) := by decide +kernel
theorem dX6_digest_166 : decode cX6_digest 166 = .ok (.iload_n 3, 1) := by decide +kernel
theorem dX6_digest_167 : decode cX6_digest 167 = .ok (.bipush 12, 2) := by decide +kernel
theorem dX6_digest_169 : decode cX6_digest 169 = .ok (.if_icmp .ge 22, 3) := by decide +kernel
theorem dX6_digest_172 : decode cX6_digest 172 = .ok (.ldc2_w 191, 3) := by decide +kernel
theorem dX6_digest_175 : decode cX6_digest 175 = .ok (.lload_n 1, 1) := by decide +kernel
theorem dX6_digest_176 : decode cX6_digest 176 = .ok (.lmul, 1) := by decide +kernel
theorem dX6_digest_177 : decode cX6_digest 177 = .ok (.aload_n 0, 1) := by decide +kernel
theorem dX6_digest_178 : decode cX6_digest 178 = .ok (.iload_n 3, 1) := by decide +kernel
theorem dX6_digest_179 : decode cX6_digest 179 = .ok (.invokevirtual 205, 3) := by decide +kernel
theorem dX6_digest_182 : decode cX6_digest 182 = .ok (.i2l, 1) := by decide +kernel
theorem dX6_digest_183 : decode cX6_digest 183 = .ok (.ladd, 1) := by decide +kernel
theorem dX6_digest_184 : decode cX6_digest 184 = .ok (.lstore_n 1, 1) := by decide +kernel
theorem dX6_digest_185 : decode cX6_digest 185 = .ok (.iinc 3 1, 3) := by decide +kernel
theorem dX6_digest_188 : decode cX6_digest 188 = .ok (.goto (-22), 3) := by decide +kernel
theorem dX6_digest_191 : decode cX6_digest 191 = .ok (.lload_n 1, 1) := by decide +kernel
theorem dX6_digest_192 : decode cX6_digest 192 = .ok (.lreturn, 1) := by decide +kernel
theorem dX6_hasYard_0 : decode cX6_hasYard 0 = .ok (.aload_n 0, 1) := by decide +kernel
theorem dX6_hasYard_1 : decode cX6_hasYard 1 = .ok (.getfield 19, 3) := by decide +kernel
theorem dX6_hasYard_4 : decode cX6_hasYard 4 = .ok (.getfield 82, 3) := by decide +kernel
theorem dX6_hasYard_7 : decode cX6_hasYard 7 = .ok (.invokevirtual 85, 3) := by decide +kernel
theorem dX6_hasYard_10 : decode cX6_hasYard 10 = .ok (.ifCond .le 7, 3) := by decide +kernel
theorem dX6_hasYard_13 : decode cX6_hasYard 13 = .ok (.iconst 1, 1) := by decide +kernel
theorem dX6_hasYard_14 : decode cX6_hasYard 14 = .ok (.goto 4, 3) := by decide +kernel
theorem dX6_hasYard_17 : decode cX6_hasYard 17 = .ok (.iconst 0, 1) := by decide +kernel
theorem dX6_hasYard_18 : decode cX6_hasYard 18 = .ok (.ireturn, 1) := by decide +kernel
theorem dX6_refusalOfStep_0 : decode cX6_refusalOfStep 0 = .ok (.iload_n 1, 1) := by decide +kernel
theorem dX6_refusalOfStep_1 : decode cX6_refusalOfStep 1 = .ok (.ifCond .lt 8, 3) := by decide +kernel
theorem dX6_refusalOfStep_4 : decode cX6_refusalOfStep 4 = .ok (.iload_n 1, 1) := by decide +kernel
theorem dX6_refusalOfStep_5 : decode cX6_refusalOfStep 5 = .ok (.iconst 3, 1) := by decide +kernel
theorem dX6_refusalOfStep_6 : decode cX6_refusalOfStep 6 = .ok (.if_icmp .le 6, 3) := by decide +kernel
theorem dX6_refusalOfStep_9 : decode cX6_refusalOfStep 9 = .ok (.bipush (-102), 2) := by decide +kernel
theorem dX6_refusalOfStep_11 : decode cX6_refusalOfStep 11 = .ok (.ireturn, 1) := by decide +kernel
theorem dX6_refusalOfStep_12 : decode cX6_refusalOfStep 12 = .ok (.aload_n 0, 1) := by decide +kernel
theorem dX6_refusalOfStep_13 : decode cX6_refusalOfStep 13 = .ok (.getfield 19, 3) := by decide +kernel
theorem dX6_refusalOfStep_16 : decode cX6_refusalOfStep 16 = .ok (.getfield 82, 3) := by decide +kernel
theorem dX6_refusalOfStep_19 : decode cX6_refusalOfStep 19 = .ok (.aload_n 0, 1) := by decide +kernel
theorem dX6_refusalOfStep_20 : decode cX6_refusalOfStep 20 = .ok (.getfield 19, 3) := by decide +kernel
theorem dX6_refusalOfStep_23 : decode cX6_refusalOfStep 23 = .ok (.getfield 136, 3) := by decide +kernel
theorem dX6_refusalOfStep_26 : decode cX6_refusalOfStep 26 = .ok (.iload_n 1, 1) := by decide +kernel
theorem dX6_refusalOfStep_27 : decode cX6_refusalOfStep 27 = .ok (.iadd, 1) := by decide +kernel
theorem dX6_refusalOfStep_28 : decode cX6_refusalOfStep 28 = .ok (.invokevirtual 88, 3) := by decide +kernel
theorem dX6_refusalOfStep_31 : decode cX6_refusalOfStep 31 = .ok (.ifCond .eq 7, 3) := by decide +kernel
theorem dX6_refusalOfStep_34 : decode cX6_refusalOfStep 34 = .ok (.iconst 0, 1) := by decide +kernel
theorem dX6_refusalOfStep_35 : decode cX6_refusalOfStep 35 = .ok (.goto 5, 3) := by decide +kernel
theorem dX6_refusalOfStep_38 : decode cX6_refusalOfStep 38 = .ok (.bipush (-103), 2) := by decide +kernel
theorem dX6_refusalOfStep_40 : decode cX6_refusalOfStep 40 = .ok (.ireturn, 1) := by decide +kernel
theorem dX6_greatestHeight_0 : decode cX6_greatestHeight 0 = .ok (.bipush 9, 2) := by decide +kernel
theorem dX6_greatestHeight_2 : decode cX6_greatestHeight 2 = .ok (.istore_n 1, 1) := by decide +kernel
theorem dX6_greatestHeight_3 : decode cX6_greatestHeight 3 = .ok (.iload_n 1, 1) := by decide +kernel
theorem dX6_greatestHeight_4 : decode cX6_greatestHeight 4 = .ok (.iconst 1, 1) := by decide +kernel
theorem dX6_greatestHeight_5 : decode cX6_greatestHeight 5 = .ok (.if_icmp .lt 32, 3) := by decide +kernel
theorem dX6_greatestHeight_8 : decode cX6_greatestHeight 8 = .ok (.aload_n 0, 1) := by decide +kernel
theorem dX6_greatestHeight_9 : decode cX6_greatestHeight 9 = .ok (.getfield 39, 3) := by decide +kernel
theorem dX6_greatestHeight_12 : decode cX6_greatestHeight 12 = .ok (.aload_n 0, 1) := by decide +kernel
theorem dX6_greatestHeight_13 : decode cX6_greatestHeight 13 = .ok (.getfield 19, 3) := by decide +kernel
theorem dX6_greatestHeight_16 : decode cX6_greatestHeight 16 = .ok (.getfield 82, 3) := by decide +kernel
theorem dX6_greatestHeight_19 : decode cX6_greatestHeight 19 = .ok (.iload_n 1, 1) := by decide +kernel
theorem dX6_greatestHeight_20 : decode cX6_greatestHeight 20 = .ok (.iconst 0, 1) := by decide +kernel
theorem dX6_greatestHeight_21 : decode cX6_greatestHeight 21 = .ok (.iconst 0, 1) := by decide +kernel
theorem dX6_greatestHeight_22 : decode cX6_greatestHeight 22 = .ok (.invokevirtual 148, 3) := by decide +kernel
theorem dX6_greatestHeight_25 : decode cX6_greatestHeight 25 = .ok (.iconst (-1), 1) := by decide +kernel
theorem dX6_greatestHeight_26 : decode cX6_greatestHeight 26 = .ok (.if_icmp .eq 5, 3) := by decide +kernel
theorem dX6_greatestHeight_29 : decode cX6_greatestHeight 29 = .ok (.iload_n 1, 1) := by decide +kernel
theorem dX6_greatestHeight_30 : decode cX6_greatestHeight 30 = .ok (.ireturn, 1) := by decide +kernel
theorem dX6_greatestHeight_31 : decode cX6_greatestHeight 31 = .ok (.iinc 1 (-1), 3) := by decide +kernel
theorem dX6_greatestHeight_34 : decode cX6_greatestHeight 34 = .ok (.goto (-31), 3) := by decide +kernel
theorem dX6_greatestHeight_37 : decode cX6_greatestHeight 37 = .ok (.iconst (-1), 1) := by decide +kernel
theorem dX6_greatestHeight_38 : decode cX6_greatestHeight 38 = .ok (.ireturn, 1) := by decide +kernel
theorem dX6_findMend_0 : decode cX6_findMend 0 = .ok (.aload_n 0, 1) := by decide +kernel
theorem dX6_findMend_1 : decode cX6_findMend 1 = .ok (.iconst (-1), 1) := by decide +kernel
theorem dX6_findMend_2 : decode cX6_findMend 2 = .ok (.putfield 54, 3) := by decide +kernel
theorem dX6_findMend_5 : decode cX6_findMend 5 = .ok (.aload_n 0, 1) := by decide +kernel
theorem dX6_findMend_6 : decode cX6_findMend 6 = .ok (.iconst (-1), 1) := by decide +kernel
theorem dX6_findMend_7 : decode cX6_findMend 7 = .ok (.putfield 57, 3) := by decide +kernel
theorem dX6_findMend_10 : decode cX6_findMend 10 = .ok (.aload_n 0, 1) := by decide +kernel
theorem dX6_findMend_11 : decode cX6_findMend 11 = .ok (.getfield 39, 3) := by decide +kernel
theorem dX6_findMend_14 : decode cX6_findMend 14 = .ok (.aload_n 0, 1) := by decide +kernel
theorem dX6_findMend_15 : decode cX6_findMend 15 = .ok (.getfield 19, 3) := by decide +kernel
theorem dX6_findMend_18 : decode cX6_findMend 18 = .ok (.getfield 82, 3) := by decide +kernel
theorem dX6_findMend_21 : decode cX6_findMend 21 = .ok (.aload_n 0, 1) := by decide +kernel
theorem dX6_findMend_22 : decode cX6_findMend 22 = .ok (.getfield 19, 3) := by decide +kernel
theorem dX6_findMend_25 : decode cX6_findMend 25 = .ok (.getfield 142, 3) := by decide +kernel
theorem dX6_findMend_28 : decode cX6_findMend 28 = .ok (.iconst 0, 1) := by decide +kernel
theorem dX6_findMend_29 : decode cX6_findMend 29 = .ok (.iconst 0, 1) := by decide +kernel
theorem dX6_findMend_30 : decode cX6_findMend 30 = .ok (.invokevirtual 148, 3) := by decide +kernel
theorem dX6_findMend_33 : decode cX6_findMend 33 = .ok (.istore_n 1, 1) := by decide +kernel
theorem dX6_findMend_34 : decode cX6_findMend 34 = .ok (.aload_n 0, 1) := by decide +kernel
theorem dX6_findMend_35 : decode cX6_findMend 35 = .ok (.getfield 32, 3) := by decide +kernel
theorem dX6_findMend_38 : decode cX6_findMend 38 = .ok (.aload_n 0, 1) := by decide +kernel
theorem dX6_findMend_39 : decode cX6_findMend 39 = .ok (.getfield 19, 3) := by decide +kernel
theorem dX6_findMend_42 : decode cX6_findMend 42 = .ok (.getfield 82, 3) := by decide +kernel
theorem dX6_findMend_45 : decode cX6_findMend 45 = .ok (.invokevirtual 208, 3) := by decide +kernel
theorem dX6_findMend_48 : decode cX6_findMend 48 = .ok (.iconst 0, 1) := by decide +kernel
theorem dX6_findMend_49 : decode cX6_findMend 49 = .ok (.istore_n 2, 1) := by decide +kernel
theorem dX6_findMend_50 : decode cX6_findMend 50 = .ok (.iload_n 2, 1) := by decide +kernel
theorem dX6_findMend_51 : decode cX6_findMend 51 = .ok (.aload_n 0, 1) := by decide +kernel
theorem dX6_findMend_52 : decode cX6_findMend 52 = .ok (.getfield 32, 3) := by decide +kernel
theorem dX6_findMend_55 : decode cX6_findMend 55 = .ok (.invokevirtual 85, 3) := by decide +kernel
theorem dX6_findMend_58 : decode cX6_findMend 58 = .ok (.if_icmp .ge 82, 3) := by decide +kernel
theorem dX6_findMend_61 : decode cX6_findMend 61 = .ok (.aload_n 0, 1) := by decide +kernel
theorem dX6_findMend_62 : decode cX6_findMend 62 = .ok (.getfield 32, 3) := by decide +kernel
theorem dX6_findMend_65 : decode cX6_findMend 65 = .ok (.iload_n 2, 1) := by decide +kernel
theorem dX6_findMend_66 : decode cX6_findMend 66 = .ok (.iconst 0, 1) := by decide +kernel
theorem dX6_findMend_67 : decode cX6_findMend 67 = .ok (.invokevirtual 121, 3) := by decide +kernel
theorem dX6_findMend_70 : decode cX6_findMend 70 = .ok (.istore_n 3, 1) := by decide +kernel
theorem dX6_findMend_71 : decode cX6_findMend 71 = .ok (.aload_n 0, 1) := by decide +kernel
theorem dX6_findMend_72 : decode cX6_findMend 72 = .ok (.getfield 39, 3) := by decide +kernel
theorem dX6_findMend_75 : decode cX6_findMend 75 = .ok (.aload_n 0, 1) := by decide +kernel
theorem dX6_findMend_76 : decode cX6_findMend 76 = .ok (.getfield 32, 3) := by decide +kernel
theorem dX6_findMend_79 : decode cX6_findMend 79 = .ok (.aload_n 0, 1) := by decide +kernel
theorem dX6_findMend_80 : decode cX6_findMend 80 = .ok (.getfield 19, 3) := by decide +kernel
theorem dX6_findMend_83 : decode cX6_findMend 83 = .ok (.getfield 142, 3) := by decide +kernel
theorem dX6_findMend_86 : decode cX6_findMend 86 = .ok (.iconst 0, 1) := by decide +kernel
theorem dX6_findMend_87 : decode cX6_findMend 87 = .ok (.iconst 0, 1) := by decide +kernel
theorem dX6_findMend_88 : decode cX6_findMend 88 = .ok (.invokevirtual 148, 3) := by decide +kernel
theorem dX6_findMend_91 : decode cX6_findMend 91 = .ok (.istore 4, 2) := by decide +kernel
theorem dX6_findMend_93 : decode cX6_findMend 93 = .ok (.aload_n 0, 1) := by decide +kernel
theorem dX6_findMend_94 : decode cX6_findMend 94 = .ok (.getfield 32, 3) := by decide +kernel
theorem dX6_findMend_97 : decode cX6_findMend 97 = .ok (.iload_n 2, 1) := by decide +kernel
theorem dX6_findMend_98 : decode cX6_findMend 98 = .ok (.iload_n 3, 1) := by decide +kernel
theorem dX6_findMend_99 : decode cX6_findMend 99 = .ok (.invokevirtual 121, 3) := by decide +kernel
theorem dX6_findMend_102 : decode cX6_findMend 102 = .ok (.pop, 1) := by decide +kernel
theorem dX6_findMend_103 : decode cX6_findMend 103 = .ok (.iload 4, 2) := by decide +kernel
theorem dX6_findMend_105 : decode cX6_findMend 105 = .ok (.iconst (-1), 1) := by decide +kernel
theorem dX6_findMend_106 : decode cX6_findMend 106 = .ok (.if_icmp .eq 28, 3) := by decide +kernel
theorem dX6_findMend_109 : decode cX6_findMend 109 = .ok (.iload_n 1, 1) := by decide +kernel
theorem dX6_findMend_110 : decode cX6_findMend 110 = .ok (.iconst (-1), 1) := by decide +kernel
theorem dX6_findMend_111 : decode cX6_findMend 111 = .ok (.if_icmp .eq 9, 3) := by decide +kernel
theorem dX6_findMend_114 : decode cX6_findMend 114 = .ok (.iload 4, 2) := by decide +kernel
theorem dX6_findMend_116 : decode cX6_findMend 116 = .ok (.iload_n 1, 1) := by decide +kernel
theorem dX6_findMend_117 : decode cX6_findMend 117 = .ok (.if_icmp .ge 17, 3) := by decide +kernel
theorem dX6_findMend_120 : decode cX6_findMend 120 = .ok (.iload 4, 2) := by decide +kernel
theorem dX6_findMend_122 : decode cX6_findMend 122 = .ok (.istore_n 1, 1) := by decide +kernel
theorem dX6_findMend_123 : decode cX6_findMend 123 = .ok (.aload_n 0, 1) := by decide +kernel
theorem dX6_findMend_124 : decode cX6_findMend 124 = .ok (.iload_n 2, 1) := by decide +kernel
theorem dX6_findMend_125 : decode cX6_findMend 125 = .ok (.putfield 54, 3) := by decide +kernel
theorem dX6_findMend_128 : decode cX6_findMend 128 = .ok (.aload_n 0, 1) := by decide +kernel
theorem dX6_findMend_129 : decode cX6_findMend 129 = .ok (.iload 4, 2) := by decide +kernel
theorem dX6_findMend_131 : decode cX6_findMend 131 = .ok (.putfield 57, 3) := by decide +kernel
theorem dX6_findMend_134 : decode cX6_findMend 134 = .ok (.iinc 2 1, 3) := by decide +kernel
theorem dX6_findMend_137 : decode cX6_findMend 137 = .ok (.goto (-87), 3) := by decide +kernel
theorem dX6_findMend_140 : decode cX6_findMend 140 = .ok (.return_, 1) := by decide +kernel
theorem dX6_bearable_0 : decode cX6_bearable 0 = .ok (.bipush 12, 2) := by decide +kernel
theorem dX6_bearable_2 : decode cX6_bearable 2 = .ok (.iload_n 0, 1) := by decide +kernel
theorem dX6_bearable_3 : decode cX6_bearable 3 = .ok (.isub, 1) := by decide +kernel
theorem dX6_bearable_4 : decode cX6_bearable 4 = .ok (.ireturn, 1) := by decide +kernel
theorem dX7_init_0 : decode cX7_init 0 = .ok (.aload_n 0, 1) := by decide +kernel
theorem dX7_init_1 : decode cX7_init 1 = .ok (.invokespecial 1, 3) := by decide +kernel
theorem dX7_init_4 : decode cX7_init 4 = .ok (.aload_n 0, 1) := by decide +kernel
theorem dX7_init_5 : decode cX7_init 5 = .ok (.bipush 12, 2) := by decide +kernel
theorem dX7_init_7 : decode cX7_init 7 = .ok (.newarray .int, 2) := by decide +kernel
theorem dX7_init_9 : decode cX7_init 9 = .ok (.putfield 7, 3) := by decide +kernel
theorem dX7_init_12 : decode cX7_init 12 = .ok (.aload_n 0, 1) := by decide +kernel
theorem dX7_init_13 : decode cX7_init 13 = .ok (.bipush 6, 2) := by decide +kernel
theorem dX7_init_15 : decode cX7_init 15 = .ok (.newarray .int, 2) := by decide +kernel
theorem dX7_init_17 : decode cX7_init 17 = .ok (.putfield 13, 3) := by decide +kernel
theorem dX7_init_20 : decode cX7_init 20 = .ok (.aload_n 0, 1) := by decide +kernel
theorem dX7_init_21 : decode cX7_init 21 = .ok (.bipush 6, 2) := by decide +kernel
theorem dX7_init_23 : decode cX7_init 23 = .ok (.newarray .int, 2) := by decide +kernel
theorem dX7_init_25 : decode cX7_init 25 = .ok (.putfield 16, 3) := by decide +kernel
theorem dX7_init_28 : decode cX7_init 28 = .ok (.aload_n 0, 1) := by decide +kernel
theorem dX7_init_29 : decode cX7_init 29 = .ok (.bipush 6, 2) := by decide +kernel
theorem dX7_init_31 : decode cX7_init 31 = .ok (.newarray .int, 2) := by decide +kernel
theorem dX7_init_33 : decode cX7_init 33 = .ok (.putfield 19, 3) := by decide +kernel
theorem dX7_init_36 : decode cX7_init 36 = .ok (.aload_n 0, 1) := by decide +kernel
theorem dX7_init_37 : decode cX7_init 37 = .ok (.bipush 6, 2) := by decide +kernel
theorem dX7_init_39 : decode cX7_init 39 = .ok (.newarray .int, 2) := by decide +kernel
theorem dX7_init_41 : decode cX7_init 41 = .ok (.putfield 22, 3) := by decide +kernel
theorem dX7_init_44 : decode cX7_init 44 = .ok (.aload_n 0, 1) := by decide +kernel
theorem dX7_init_45 : decode cX7_init 45 = .ok (.bipush 16, 2) := by decide +kernel
theorem dX7_init_47 : decode cX7_init 47 = .ok (.newarray .byte, 2) := by decide +kernel
theorem dX7_init_49 : decode cX7_init 49 = .ok (.putfield 25, 3) := by decide +kernel
theorem dX7_init_52 : decode cX7_init 52 = .ok (.aload_n 0, 1) := by decide +kernel
theorem dX7_init_53 : decode cX7_init 53 = .ok (.sipush 144, 3) := by decide +kernel
theorem dX7_init_56 : decode cX7_init 56 = .ok (.newarray .int, 2) := by decide +kernel
theorem dX7_init_58 : decode cX7_init 58 = .ok (.putfield 29, 3) := by decide +kernel
theorem dX7_init_61 : decode cX7_init 61 = .ok (.aload_n 0, 1) := by decide +kernel
theorem dX7_init_62 : decode cX7_init 62 = .ok (.bipush 12, 2) := by decide +kernel
theorem dX7_init_64 : decode cX7_init 64 = .ok (.newarray .int, 2) := by decide +kernel
theorem dX7_init_66 : decode cX7_init 66 = .ok (.putfield 32, 3) := by decide +kernel
theorem dX7_init_69 : decode cX7_init 69 = .ok (.aload_n 0, 1) := by decide +kernel
theorem dX7_init_70 : decode cX7_init 70 = .ok (.bipush 6, 2) := by decide +kernel
theorem dX7_init_72 : decode cX7_init 72 = .ok (.newarray .int, 2) := by decide +kernel
theorem dX7_init_74 : decode cX7_init 74 = .ok (.putfield 35, 3) := by decide +kernel
theorem dX7_init_77 : decode cX7_init 77 = .ok (.aload_n 0, 1) := by decide +kernel
theorem dX7_init_78 : decode cX7_init 78 = .ok (.bipush 6, 2) := by decide +kernel
theorem dX7_init_80 : decode cX7_init 80 = .ok (.newarray .int, 2) := by decide +kernel
theorem dX7_init_82 : decode cX7_init 82 = .ok (.putfield 38, 3) := by decide +kernel
theorem dX7_init_85 : decode cX7_init 85 = .ok (.aload_n 0, 1) := by decide +kernel
theorem dX7_init_86 : decode cX7_init 86 = .ok (.bipush 6, 2) := by decide +kernel
theorem dX7_init_88 : decode cX7_init 88 = .ok (.newarray .int, 2) := by decide +kernel
theorem dX7_init_90 : decode cX7_init 90 = .ok (.putfield 41, 3) := by decide +kernel
theorem dX7_init_93 : decode cX7_init 93 = .ok (.aload_n 0, 1) := by decide +kernel
theorem dX7_init_94 : decode cX7_init 94 = .ok (.bipush 6, 2) := by decide +kernel
theorem dX7_init_96 : decode cX7_init 96 = .ok (.newarray .int, 2) := by decide +kernel
theorem dX7_init_98 : decode cX7_init 98 = .ok (.putfield 44, 3) := by decide +kernel
theorem dX7_init_101 : decode cX7_init 101 = .ok (.return_, 1) := by decide +kernel
theorem dX7_within_0 : decode cX7_within 0 = .ok (.iload_n 0, 1) := by decide +kernel
theorem dX7_within_1 : decode cX7_within 1 = .ok (.iload_n 1, 1) := by decide +kernel
theorem dX7_within_2 : decode cX7_within 2 = .ok (.if_icmp .lt 12, 3) := by decide +kernel
theorem dX7_within_5 : decode cX7_within 5 = .ok (.iload_n 0, 1) := by decide +kernel
theorem dX7_within_6 : decode cX7_within 6 = .ok (.iload_n 2, 1) := by decide +kernel
theorem dX7_within_7 : decode cX7_within 7 = .ok (.if_icmp .gt 7, 3) := by decide +kernel
theorem dX7_within_10 : decode cX7_within 10 = .ok (.iconst 1, 1) := by decide +kernel
theorem dX7_within_11 : decode cX7_within 11 = .ok (.goto 4, 3) := by decide +kernel
theorem dX7_within_14 : decode cX7_within 14 = .ok (.iconst 0, 1) := by decide +kernel
theorem dX7_within_15 : decode cX7_within 15 = .ok (.ireturn, 1) := by decide +kernel
theorem dX7_isIn_0 : decode cX7_isIn 0 = .ok (.iload_n 0, 1) := by decide +kernel
theorem dX7_isIn_1 : decode cX7_isIn 1 = .ok (.iload_n 1, 1) := by decide +kernel
theorem dX7_isIn_2 : decode cX7_isIn 2 = .ok (.ishr, 1) := by decide +kernel
theorem dX7_isIn_3 : decode cX7_isIn 3 = .ok (.iconst 1, 1) := by decide +kernel
theorem dX7_isIn_4 : decode cX7_isIn 4 = .ok (.iand, 1) := by decide +kernel
theorem dX7_isIn_5 : decode cX7_isIn 5 = .ok (.iconst 1, 1) := by decide +kernel
theorem dX7_isIn_6 : decode cX7_isIn 6 = .ok (.if_icmp .ne 7, 3) := by decide +kernel
theorem dX7_isIn_9 : decode cX7_isIn 9 = .ok (.iconst 1, 1) := by decide +kernel
theorem dX7_isIn_10 : decode cX7_isIn 10 = .ok (.goto 4, 3) := by decide +kernel
theorem dX7_isIn_13 : decode cX7_isIn 13 = .ok (.iconst 0, 1) := by decide +kernel
theorem dX7_isIn_14 : decode cX7_isIn 14 = .ok (.ireturn, 1) := by decide +kernel
theorem dX7_letter_0 : decode cX7_letter 0 = .ok (.iload_n 1, 1) := by decide +kernel
theorem dX7_letter_1 : decode cX7_letter 1 = .ok (.bipush 32, 2) := by decide +kernel
theorem dX7_letter_3 : decode cX7_letter 3 = .ok (.bipush 126, 2) := by decide +kernel
theorem dX7_letter_5 : decode cX7_letter 5 = .ok (.invokestatic 47, 3) := by decide +kernel
theorem dX7_letter_8 : decode cX7_letter 8 = .ok (.ifCond .ne 6, 3) := by decide +kernel
theorem dX7_letter_11 : decode cX7_letter 11 = .ok (.bipush (-102), 2) := by decide +kernel
theorem dX7_letter_13 : decode cX7_letter 13 = .ok (.ireturn, 1) := by decide +kernel
theorem dX7_letter_14 : decode cX7_letter 14 = .ok (.aload_n 0, 1) := by decide +kernel
theorem dX7_letter_15 : decode cX7_letter 15 = .ok (.getfield 51, 3) := by decide +kernel
theorem dX7_letter_18 : decode cX7_letter 18 = .ok (.bipush 16, 2) := by decide +kernel
theorem dX7_letter_20 : decode cX7_letter 20 = .ok (.if_icmp .ne 6, 3) := by decide +kernel
theorem dX7_letter_23 : decode cX7_letter 23 = .ok (.bipush (-104), 2) := by decide +kernel
theorem dX7_letter_25 : decode cX7_letter 25 = .ok (.ireturn, 1) := by decide +kernel
theorem dX7_letter_26 : decode cX7_letter 26 = .ok (.aload_n 0, 1) := by decide +kernel
theorem dX7_letter_27 : decode cX7_letter 27 = .ok (.getfield 25, 3) := by decide +kernel
theorem dX7_letter_30 : decode cX7_letter 30 = .ok (.aload_n 0, 1) := by decide +kernel
theorem dX7_letter_31 : decode cX7_letter 31 = .ok (.getfield 51, 3) := by decide +kernel
theorem dX7_letter_34 : decode cX7_letter 34 = .ok (.iload_n 1, 1) := by decide +kernel
theorem dX7_letter_35 : decode cX7_letter 35 = .ok (.i2b, 1) := by decide +kernel
theorem dX7_letter_36 : decode cX7_letter 36 = .ok (.bastore, 1) := by decide +kernel
theorem dX7_letter_37 : decode cX7_letter 37 = .ok (.aload_n 0, 1) := by decide +kernel
theorem dX7_letter_38 : decode cX7_letter 38 = .ok (.dup, 1) := by decide +kernel
theorem dX7_letter_39 : decode cX7_letter 39 = .ok (.getfield 51, 3) := by decide +kernel
theorem dX7_letter_42 : decode cX7_letter 42 = .ok (.iconst 1, 1) := by decide +kernel
theorem dX7_letter_43 : decode cX7_letter 43 = .ok (.iadd, 1) := by decide +kernel
theorem dX7_letter_44 : decode cX7_letter 44 = .ok (.putfield 51, 3) := by decide +kernel
theorem dX7_letter_47 : decode cX7_letter 47 = .ok (.aload_n 0, 1) := by decide +kernel
theorem dX7_letter_48 : decode cX7_letter 48 = .ok (.getfield 51, 3) := by decide +kernel
theorem dX7_letter_51 : decode cX7_letter 51 = .ok (.ireturn, 1) := by decide +kernel
theorem dX7_blank_0 : decode cX7_blank 0 = .ok (.aload_n 0, 1) := by decide +kernel
theorem dX7_blank_1 : decode cX7_blank 1 = .ok (.getfield 51, 3) := by decide +kernel
theorem dX7_blank_4 : decode cX7_blank 4 = .ok (.istore_n 1, 1) := by decide +kernel
theorem dX7_blank_5 : decode cX7_blank 5 = .ok (.aload_n 0, 1) := by decide +kernel
theorem dX7_blank_6 : decode cX7_blank 6 = .ok (.iconst 0, 1) := by decide +kernel
theorem dX7_blank_7 : decode cX7_blank 7 = .ok (.putfield 51, 3) := by decide +kernel
theorem dX7_blank_10 : decode cX7_blank 10 = .ok (.iload_n 1, 1) := by decide +kernel
theorem dX7_blank_11 : decode cX7_blank 11 = .ok (.ireturn, 1) := by decide +kernel
theorem dX7_kindBy_0 : decode cX7_kindBy 0 = .ok (.iload_n 0, 1) := by decide +kernel
theorem dX7_kindBy_1 : decode cX7_kindBy 1 = .ok (.tableswitch 85 98 112 #[81, 85, 85, 85, 85, 79, 85, 85, 85, 85, 77, 85, 85, 83, 75], 75) := by decide +kernel
theorem dX7_kindBy_76 : decode cX7_kindBy 76 = .ok (.iconst 0, 1) := by decide +kernel
theorem dX7_kindBy_77 : decode cX7_kindBy 77 = .ok (.ireturn, 1) := by decide +kernel
theorem dX7_kindBy_78 : decode cX7_kindBy 78 = .ok (.iconst 1, 1) := by decide +kernel
theorem dX7_kindBy_79 : decode cX7_kindBy 79 = .ok (.ireturn, 1) := by decide +kernel
theorem dX7_kindBy_80 : decode cX7_kindBy 80 = .ok (.iconst 2, 1) := by decide +kernel
theorem dX7_kindBy_81 : decode cX7_kindBy 81 = .ok (.ireturn, 1) := by decide +kernel
theorem dX7_kindBy_82 : decode cX7_kindBy 82 = .ok (.iconst 3, 1) := by decide +kernel
theorem dX7_kindBy_83 : decode cX7_kindBy 83 = .ok (.ireturn, 1) := by decide +kernel
theorem dX7_kindBy_84 : decode cX7_kindBy 84 = .ok (.iconst 4, 1) := by decide +kernel
theorem dX7_kindBy_85 : decode cX7_kindBy 85 = .ok (.ireturn, 1) := by decide +kernel
theorem dX7_kindBy_86 : decode cX7_kindBy 86 = .ok (.iconst (-1), 1) := by decide +kernel
theorem dX7_kindBy_87 : decode cX7_kindBy 87 = .ok (.ireturn, 1) := by decide +kernel
theorem dX7_at_0 : decode cX7_at 0 = .ok (.iload_n 1, 1) := by decide +kernel
theorem dX7_at_1 : decode cX7_at 1 = .ok (.aload_n 0, 1) := by decide +kernel
theorem dX7_at_2 : decode cX7_at 2 = .ok (.getfield 51, 3) := by decide +kernel
theorem dX7_at_5 : decode cX7_at 5 = .ok (.if_icmp .ge 12, 3) := by decide +kernel
theorem dX7_at_8 : decode cX7_at 8 = .ok (.aload_n 0, 1) := by decide +kernel
theorem dX7_at_9 : decode cX7_at 9 = .ok (.getfield 25, 3) := by decide +kernel
theorem dX7_at_12 : decode cX7_at 12 = .ok (.iload_n 1, 1) := by decide +kernel
theorem dX7_at_13 : decode cX7_at 13 = .ok (.baload, 1) := by decide +kernel
theorem dX7_at_14 : decode cX7_at 14 = .ok (.goto 4, 3) := by decide +kernel
theorem dX7_at_17 : decode cX7_at 17 = .ok (.iconst 0, 1) := by decide +kernel
theorem dX7_at_18 : decode cX7_at 18 = .ok (.ireturn, 1) := by decide +kernel
theorem dX7_read_0 : decode cX7_read 0 = .ok (.aload_n 0, 1) := by decide +kernel
theorem dX7_read_1 : decode cX7_read 1 = .ok (.iconst 0, 1) := by decide +kernel
theorem dX7_read_2 : decode cX7_read 2 = .ok (.putfield 55, 3) := by decide +kernel
theorem dX7_read_5 : decode cX7_read 5 = .ok (.iconst 0, 1) := by decide +kernel
theorem dX7_read_6 : decode cX7_read 6 = .ok (.istore_n 1, 1) := by decide +kernel
theorem dX7_read_7 : decode cX7_read 7 = .ok (.iload_n 1, 1) := by decide +kernel
theorem dX7_read_8 : decode cX7_read 8 = .ok (.bipush 12, 2) := by decide +kernel
theorem dX7_read_10 : decode cX7_read 10 = .ok (.if_icmp .ge 21, 3) := by decide +kernel
theorem dX7_read_13 : decode cX7_read 13 = .ok (.aload_n 0, 1) := by decide +kernel
theorem dX7_read_14 : decode cX7_read 14 = .ok (.iload_n 1, 1) := by decide +kernel
theorem dX7_read_15 : decode cX7_read 15 = .ok (.invokevirtual 59, 3) := by decide +kernel
theorem dX7_read_18 : decode cX7_read 18 = .ok (.invokestatic 63, 3) := by decide +kernel
theorem dX7_read_21 : decode cX7_read 21 = .ok (.iconst (-1), 1) := by decide +kernel
theorem dX7_read_22 : decode cX7_read 22 = .ok (.if_icmp .eq 9, 3) := by decide +kernel
theorem dX7_read_25 : decode cX7_read 25 = .ok (.iinc 1 1, 3) := by decide +kernel
theorem dX7_read_28 : decode cX7_read 28 = .ok (.goto (-21), 3) := by decide +kernel
theorem dX7_read_31 : decode cX7_read 31 = .ok (.aload_n 0, 1) := by decide +kernel
theorem dX7_read_32 : decode cX7_read 32 = .ok (.iload_n 1, 1) := by decide +kernel
theorem dX7_read_33 : decode cX7_read 33 = .ok (.putfield 66, 3) := by decide +kernel
theorem dX7_read_36 : decode cX7_read 36 = .ok (.iload_n 1, 1) := by decide +kernel
theorem dX7_read_37 : decode cX7_read 37 = .ok (.iconst 4, 1) := by decide +kernel
theorem dX7_read_38 : decode cX7_read 38 = .ok (.if_icmp .lt 13, 3) := by decide +kernel
theorem dX7_read_41 : decode cX7_read 41 = .ok (.aload_n 0, 1) := by decide +kernel
theorem dX7_read_42 : decode cX7_read 42 = .ok (.iload_n 1, 1) := by decide +kernel
theorem dX7_read_43 : decode cX7_read 43 = .ok (.invokevirtual 59, 3) := by decide +kernel
theorem dX7_read_46 : decode cX7_read 46 = .ok (.bipush 59, 2) := by decide +kernel
theorem dX7_read_48 : decode cX7_read 48 = .ok (.if_icmp .eq 5, 3) := by decide +kernel
theorem dX7_read_51 : decode cX7_read 51 = .ok (.iload_n 1, 1) := by decide +kernel
theorem dX7_read_52 : decode cX7_read 52 = .ok (.ireturn, 1) := by decide +kernel
theorem dX7_read_53 : decode cX7_read 53 = .ok (.aload_n 0, 1) := by decide +kernel
theorem dX7_read_54 : decode cX7_read 54 = .ok (.iload_n 1, 1) := by decide +kernel
theorem dX7_read_55 : decode cX7_read 55 = .ok (.iconst 1, 1) := by decide +kernel
theorem dX7_read_56 : decode cX7_read 56 = .ok (.iadd, 1) := by decide +kernel
theorem dX7_read_57 : decode cX7_read 57 = .ok (.invokevirtual 59, 3) := by decide +kernel
theorem dX7_read_60 : decode cX7_read 60 = .ok (.bipush 48, 2) := by decide +kernel
theorem dX7_read_62 : decode cX7_read 62 = .ok (.isub, 1) := by decide +kernel
theorem dX7_read_63 : decode cX7_read 63 = .ok (.iconst 1, 1) := by decide +kernel
theorem dX7_read_64 : decode cX7_read 64 = .ok (.bipush 9, 2) := by decide +kernel
theorem dX7_read_66 : decode cX7_read 66 = .ok (.invokestatic 47, 3) := by decide +kernel
theorem dX7_read_69 : decode cX7_read 69 = .ok (.istore_n 2, 1) := by decide +kernel
theorem dX7_read_70 : decode cX7_read 70 = .ok (.aload_n 0, 1) := by decide +kernel
theorem dX7_read_71 : decode cX7_read 71 = .ok (.iload_n 2, 1) := by decide +kernel
theorem dX7_read_72 : decode cX7_read 72 = .ok (.ifCond .eq 17, 3) := by decide +kernel
theorem dX7_read_75 : decode cX7_read 75 = .ok (.iload_n 1, 1) := by decide +kernel
theorem dX7_read_76 : decode cX7_read 76 = .ok (.iconst 2, 1) := by decide +kernel
theorem dX7_read_77 : decode cX7_read 77 = .ok (.iadd, 1) := by decide +kernel
theorem dX7_read_78 : decode cX7_read 78 = .ok (.aload_n 0, 1) := by decide +kernel
theorem dX7_read_79 : decode cX7_read 79 = .ok (.getfield 51, 3) := by decide +kernel
theorem dX7_read_82 : decode cX7_read 82 = .ok (.if_icmp .ne 7, 3) := by decide +kernel
theorem dX7_read_85 : decode cX7_read 85 = .ok (.iconst 1, 1) := by decide +kernel
theorem dX7_read_86 : decode cX7_read 86 = .ok (.goto 4, 3) := by decide +kernel
theorem dX7_read_89 : decode cX7_read 89 = .ok (.iconst 0, 1) := by decide +kernel
theorem dX7_read_90 : decode cX7_read 90 = .ok (.putfield 55, 3) := by decide +kernel
theorem dX7_read_93 : decode cX7_read 93 = .ok (.iload_n 2, 1) := by decide +kernel
theorem dX7_read_94 : decode cX7_read 94 = .ok (.ifCond .eq 9, 3) := by decide +kernel
theorem dX7_read_97 : decode cX7_read 97 = .ok (.iload_n 1, 1) := by decide +kernel
theorem dX7_read_98 : decode cX7_read 98 = .ok (.iconst 2, 1) := by decide +kernel
theorem dX7_read_99 : decode cX7_read 99 = .ok (.iadd, 1) := by decide +kernel
theorem dX7_read_100 : decode cX7_read 100 = .ok (.goto 6, 3) := by decide +kernel
theorem dX7_read_103 : decode cX7_read 103 = .ok (.iload_n 1, 1) := by decide +kernel
theorem dX7_read_104 : decode cX7_read 104 = .ok (.iconst 1, 1) := by decide +kernel
theorem dX7_read_105 : decode cX7_read 105 = .ok (.iadd, 1) := by decide +kernel
theorem dX7_read_106 : decode cX7_read 106 = .ok (.ireturn, 1) := by decide +kernel
theorem dX7_fault_0 : decode cX7_fault 0 = .ok (.aload_n 0, 1) := by decide +kernel
theorem dX7_fault_1 : decode cX7_fault 1 = .ok (.invokevirtual 69, 3) := by decide +kernel
theorem dX7_fault_4 : decode cX7_fault 4 = .ok (.ireturn, 1) := by decide +kernel
theorem dX7_yard_0 : decode cX7_yard 0 = .ok (.aload_n 0, 1) := by decide +kernel
theorem dX7_yard_1 : decode cX7_yard 1 = .ok (.invokevirtual 69, 3) := by decide +kernel
theorem dX7_yard_4 : decode cX7_yard 4 = .ok (.istore_n 1, 1) := by decide +kernel
theorem dX7_yard_5 : decode cX7_yard 5 = .ok (.aload_n 0, 1) := by decide +kernel
theorem dX7_yard_6 : decode cX7_yard 6 = .ok (.getfield 55, 3) := by decide +kernel
theorem dX7_yard_9 : decode cX7_yard 9 = .ok (.ifCond .ne 6, 3) := by decide +kernel
theorem dX7_yard_12 : decode cX7_yard 12 = .ok (.bipush (-103), 2) := by decide +kernel
theorem dX7_yard_14 : decode cX7_yard 14 = .ok (.ireturn, 1) := by decide +kernel
theorem dX7_yard_15 : decode cX7_yard 15 = .ok (.aload_n 0, 1) := by decide +kernel
theorem dX7_yard_16 : decode cX7_yard 16 = .ok (.aload_n 0, 1) := by decide +kernel
theorem dX7_yard_17 : decode cX7_yard 17 = .ok (.getfield 66, 3) := by decide +kernel
theorem dX7_yard_20 : decode cX7_yard 20 = .ok (.putfield 73, 3) := by decide +kernel
theorem dX7_yard_23 : decode cX7_yard 23 = .ok (.iconst 0, 1) := by decide +kernel
theorem dX7_yard_24 : decode cX7_yard 24 = .ok (.istore_n 2, 1) := by decide +kernel
theorem dX7_yard_25 : decode cX7_yard 25 = .ok (.iload_n 2, 1) := by decide +kernel
theorem dX7_yard_26 : decode cX7_yard 26 = .ok (.aload_n 0, 1) := by decide +kernel
theorem dX7_yard_27 : decode cX7_yard 27 = .ok (.getfield 73, 3) := by decide +kernel
theorem dX7_yard_30 : decode cX7_yard 30 = .ok (.if_icmp .ge 24, 3) := by decide +kernel
theorem dX7_yard_33 : decode cX7_yard 33 = .ok (.aload_n 0, 1) := by decide +kernel
theorem dX7_yard_34 : decode cX7_yard 34 = .ok (.getfield 7, 3) := by decide +kernel
theorem dX7_yard_37 : decode cX7_yard 37 = .ok (.iload_n 2, 1) := by decide +kernel
theorem dX7_yard_38 : decode cX7_yard 38 = .ok (.aload_n 0, 1) := by decide +kernel
theorem dX7_yard_39 : decode cX7_yard 39 = .ok (.getfield 25, 3) := by decide +kernel
theorem dX7_yard_42 : decode cX7_yard 42 = .ok (.iload_n 2, 1) := by decide +kernel
theorem dX7_yard_43 : decode cX7_yard 43 = .ok (.baload, 1) := by decide +kernel
theorem dX7_yard_44 : decode cX7_yard 44 = .ok (.invokestatic 63, 3) := by decide +kernel
theorem dX7_yard_47 : decode cX7_yard 47 = .ok (.iastore, 1) := by decide +kernel
theorem dX7_yard_48 : decode cX7_yard 48 = .ok (.iinc 2 1, 3) := by decide +kernel
theorem dX7_yard_51 : decode cX7_yard 51 = .ok (.goto (-26), 3) := by decide +kernel
theorem dX7_yard_54 : decode cX7_yard 54 = .ok (.aload_n 0, 1) := by decide +kernel
theorem dX7_yard_55 : decode cX7_yard 55 = .ok (.aload_n 0, 1) := by decide +kernel
theorem dX7_yard_56 : decode cX7_yard 56 = .ok (.getfield 25, 3) := by decide +kernel
theorem dX7_yard_59 : decode cX7_yard 59 = .ok (.iload_n 1, 1) := by decide +kernel
theorem dX7_yard_60 : decode cX7_yard 60 = .ok (.iconst 1, 1) := by decide +kernel
theorem dX7_yard_61 : decode cX7_yard 61 = .ok (.isub, 1) := by decide +kernel
theorem dX7_yard_62 : decode cX7_yard 62 = .ok (.baload, 1) := by decide +kernel
theorem dX7_yard_63 : decode cX7_yard 63 = .ok (.bipush 48, 2) := by decide +kernel
theorem dX7_yard_65 : decode cX7_yard 65 = .ok (.isub, 1) := by decide +kernel
theorem dX7_yard_66 : decode cX7_yard 66 = .ok (.putfield 76, 3) := by decide +kernel
theorem dX7_yard_69 : decode cX7_yard 69 = .ok (.aload_n 0, 1) := by decide +kernel
theorem dX7_yard_70 : decode cX7_yard 70 = .ok (.dup, 1) := by decide +kernel
theorem dX7_yard_71 : decode cX7_yard 71 = .ok (.getfield 79, 3) := by decide +kernel
theorem dX7_yard_74 : decode cX7_yard 74 = .ok (.iconst 1, 1) := by decide +kernel
theorem dX7_yard_75 : decode cX7_yard 75 = .ok (.iadd, 1) := by decide +kernel
theorem dX7_yard_76 : decode cX7_yard 76 = .ok (.putfield 79, 3) := by decide +kernel
theorem dX7_yard_79 : decode cX7_yard 79 = .ok (.aload_n 0, 1) := by decide +kernel
theorem dX7_yard_80 : decode cX7_yard 80 = .ok (.iconst 0, 1) := by decide +kernel
theorem dX7_yard_81 : decode cX7_yard 81 = .ok (.putfield 82, 3) := by decide +kernel
theorem dX7_yard_84 : decode cX7_yard 84 = .ok (.aload_n 0, 1) := by decide +kernel
theorem dX7_yard_85 : decode cX7_yard 85 = .ok (.iconst 0, 1) := by decide +kernel
theorem dX7_yard_86 : decode cX7_yard 86 = .ok (.putfield 85, 3) := by decide +kernel
theorem dX7_yard_89 : decode cX7_yard 89 = .ok (.aload_n 0, 1) := by decide +kernel
theorem dX7_yard_90 : decode cX7_yard 90 = .ok (.iconst 0, 1) := by decide +kernel
theorem dX7_yard_91 : decode cX7_yard 91 = .ok (.putfield 88, 3) := by decide +kernel
theorem dX7_yard_94 : decode cX7_yard 94 = .ok (.aload_n 0, 1) := by decide +kernel
theorem dX7_yard_95 : decode cX7_yard 95 = .ok (.iconst 0, 1) := by decide +kernel
theorem dX7_yard_96 : decode cX7_yard 96 = .ok (.putfield 91, 3) := by decide +kernel
theorem dX7_yard_99 : decode cX7_yard 99 = .ok (.aload_n 0, 1) := by decide +kernel
theorem dX7_yard_100 : decode cX7_yard 100 = .ok (.iconst 0, 1) := by decide +kernel
theorem dX7_yard_101 : decode cX7_yard 101 = .ok (.putfield 94, 3) := by decide +kernel
theorem dX7_yard_104 : decode cX7_yard 104 = .ok (.aload_n 0, 1) := by decide +kernel
theorem dX7_yard_105 : decode cX7_yard 105 = .ok (.iconst 0, 1) := by decide +kernel
theorem dX7_yard_106 : decode cX7_yard 106 = .ok (.putfield 51, 3) := by decide +kernel
theorem dX7_yard_109 : decode cX7_yard 109 = .ok (.aload_n 0, 1) := by decide +kernel
theorem dX7_yard_110 : decode cX7_yard 110 = .ok (.getfield 73, 3) := by decide +kernel
theorem dX7_yard_113 : decode cX7_yard 113 = .ok (.ireturn, 1) := by decide +kernel
theorem dX7_isPlace_0 : decode cX7_isPlace 0 = .ok (.iload_n 1, 1) := by decide +kernel
theorem dX7_isPlace_1 : decode cX7_isPlace 1 = .ok (.iconst 0, 1) := by decide +kernel
theorem dX7_isPlace_2 : decode cX7_isPlace 2 = .ok (.aload_n 0, 1) := by decide +kernel
theorem dX7_isPlace_3 : decode cX7_isPlace 3 = .ok (.getfield 73, 3) := by decide +kernel
theorem dX7_isPlace_6 : decode cX7_isPlace 6 = .ok (.iconst 1, 1) := by decide +kernel
theorem dX7_isPlace_7 : decode cX7_isPlace 7 = .ok (.isub, 1) := by decide +kernel
theorem dX7_isPlace_8 : decode cX7_isPlace 8 = .ok (.invokestatic 47, 3) := by decide +kernel
theorem dX7_isPlace_11 : decode cX7_isPlace 11 = .ok (.ireturn, 1) := by decide +kernel
theorem dX7_swayBy_0 : decode cX7_swayBy 0 = .ok (.aload_n 0, 1) := by decide +kernel
theorem dX7_swayBy_1 : decode cX7_swayBy 1 = .ok (.getfield 7, 3) := by decide +kernel
theorem dX7_swayBy_4 : decode cX7_swayBy 4 = .ok (.iload_n 1, 1) := by decide +kernel
theorem dX7_swayBy_5 : decode cX7_swayBy 5 = .ok (.iaload, 1) := by decide +kernel
theorem dX7_swayBy_6 : decode cX7_swayBy 6 = .ok (.istore 4, 2) := by decide +kernel
theorem dX7_swayBy_8 : decode cX7_swayBy 8 = .ok (.iload_n 2, 1) := by decide +kernel
theorem dX7_swayBy_9 : decode cX7_swayBy 9 = .ok (.ifCond .le 45, 3) := by decide +kernel
theorem dX7_swayBy_12 : decode cX7_swayBy 12 = .ok (.iload_n 3, 1) := by decide +kernel
theorem dX7_swayBy_13 : decode cX7_swayBy 13 = .ok (.iload_n 2, 1) := by decide +kernel
theorem dX7_swayBy_14 : decode cX7_swayBy 14 = .ok (.iadd, 1) := by decide +kernel
theorem dX7_swayBy_15 : decode cX7_swayBy 15 = .ok (.iload 4, 2) := by decide +kernel
theorem dX7_swayBy_17 : decode cX7_swayBy 17 = .ok (.iconst 1, 1) := by decide +kernel
theorem dX7_swayBy_18 : decode cX7_swayBy 18 = .ok (.if_icmp .ne 7, 3) := by decide +kernel
theorem dX7_swayBy_21 : decode cX7_swayBy 21 = .ok (.iconst 1, 1) := by decide +kernel
theorem dX7_swayBy_22 : decode cX7_swayBy 22 = .ok (.goto 30, 3) := by decide +kernel
theorem dX7_swayBy_25 : decode cX7_swayBy 25 = .ok (.iload 4, 2) := by decide +kernel
theorem dX7_swayBy_27 : decode cX7_swayBy 27 = .ok (.iconst 2, 1) := by decide +kernel
theorem dX7_swayBy_28 : decode cX7_swayBy 28 = .ok (.if_icmp .eq 9, 3) := by decide +kernel
theorem dX7_swayBy_31 : decode cX7_swayBy 31 = .ok (.iload 4, 2) := by decide +kernel
theorem dX7_swayBy_33 : decode cX7_swayBy 33 = .ok (.iconst 4, 1) := by decide +kernel
theorem dX7_swayBy_34 : decode cX7_swayBy 34 = .ok (.if_icmp .ne 7, 3) := by decide +kernel
theorem dX7_swayBy_37 : decode cX7_swayBy 37 = .ok (.iconst 2, 1) := by decide +kernel
theorem dX7_swayBy_38 : decode cX7_swayBy 38 = .ok (.goto 14, 3) := by decide +kernel
theorem dX7_swayBy_41 : decode cX7_swayBy 41 = .ok (.iload 4, 2) := by decide +kernel
theorem dX7_swayBy_43 : decode cX7_swayBy 43 = .ok (.iconst 3, 1) := by decide +kernel
theorem dX7_swayBy_44 : decode cX7_swayBy 44 = .ok (.if_icmp .ne 7, 3) := by decide +kernel
theorem dX7_swayBy_47 : decode cX7_swayBy 47 = .ok (.iload_n 2, 1) := by decide +kernel
theorem dX7_swayBy_48 : decode cX7_swayBy 48 = .ok (.goto 4, 3) := by decide +kernel
theorem dX7_swayBy_51 : decode cX7_swayBy 51 = .ok (.iconst 0, 1) := by decide +kernel
theorem dX7_swayBy_52 : decode cX7_swayBy 52 = .ok (.iadd, 1) := by decide +kernel
theorem dX7_swayBy_53 : decode cX7_swayBy 53 = .ok (.ireturn, 1) := by decide +kernel
theorem dX7_swayBy_54 : decode cX7_swayBy 54 = .ok (.iload 4, 2) := by decide +kernel
theorem dX7_swayBy_56 : decode cX7_swayBy 56 = .ok (.iconst 1, 1) := by decide +kernel
theorem dX7_swayBy_57 : decode cX7_swayBy 57 = .ok (.if_icmp .ne 7, 3) := by decide +kernel
theorem dX7_swayBy_60 : decode cX7_swayBy 60 = .ok (.iconst (-1), 1) := by decide +kernel
theorem dX7_swayBy_61 : decode cX7_swayBy 61 = .ok (.goto 25, 3) := by decide +kernel
theorem dX7_swayBy_64 : decode cX7_swayBy 64 = .ok (.iload 4, 2) := by decide +kernel
theorem dX7_swayBy_66 : decode cX7_swayBy 66 = .ok (.iconst 4, 1) := by decide +kernel
theorem dX7_swayBy_67 : decode cX7_swayBy 67 = .ok (.if_icmp .ne 7, 3) := by decide +kernel
theorem dX7_swayBy_70 : decode cX7_swayBy 70 = .ok (.iconst 0, 1) := by decide +kernel
theorem dX7_swayBy_71 : decode cX7_swayBy 71 = .ok (.goto 15, 3) := by decide +kernel
theorem dX7_swayBy_74 : decode cX7_swayBy 74 = .ok (.iload 4, 2) := by decide +kernel
theorem dX7_swayBy_76 : decode cX7_swayBy 76 = .ok (.iconst 3, 1) := by decide +kernel
theorem dX7_swayBy_77 : decode cX7_swayBy 77 = .ok (.if_icmp .ne 7, 3) := by decide +kernel
theorem dX7_swayBy_80 : decode cX7_swayBy 80 = .ok (.iconst 1, 1) := by decide +kernel
theorem dX7_swayBy_81 : decode cX7_swayBy 81 = .ok (.goto 5, 3) := by decide +kernel
theorem dX7_swayBy_84 : decode cX7_swayBy 84 = .ok (.bipush (-2), 2) := by decide +kernel
theorem dX7_swayBy_86 : decode cX7_swayBy 86 = .ok (.istore 5, 2) := by decide +kernel
