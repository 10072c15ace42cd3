theorem kdX5_init_0 : decode prog_8_method_1_code 0 = .ok (.aload_n 0, 1) := by decide +kernel
theorem kdX5_init_1 : decode prog_8_method_1_code 1 = .ok (.invokespecial 1, 3) := by decide +kernel
theorem kdX5_init_4 : decode prog_8_method_1_code 4 = .ok (.aload_n 0, 1) := by decide +kernel
theorem kdX5_init_5 : decode prog_8_method_1_code 5 = .ok (.sipush 8192, 3) := by decide +kernel
theorem kdX5_init_8 : decode prog_8_method_1_code 8 = .ok (.newarray .byte, 2) := by decide +kernel
theorem kdX5_init_10 : decode prog_8_method_1_code 10 = .ok (.putfield 9, 3) := by decide +kernel
theorem kdX5_init_13 : decode prog_8_method_1_code 13 = .ok (.aload_n 0, 1) := by decide +kernel
theorem kdX5_init_14 : decode prog_8_method_1_code 14 = .ok (.bipush 8, 2) := by decide +kernel
theorem kdX5_init_16 : decode prog_8_method_1_code 16 = .ok (.sipush 8192, 3) := by decide +kernel
theorem kdX5_init_19 : decode prog_8_method_1_code 19 = .ok (.multianewarray 13 2, 4) := by decide +kernel
theorem kdX5_init_23 : decode prog_8_method_1_code 23 = .ok (.putfield 15, 3) := by decide +kernel
theorem kdX5_init_26 : decode prog_8_method_1_code 26 = .ok (.aload_n 0, 1) := by decide +kernel
theorem kdX5_init_27 : decode prog_8_method_1_code 27 = .ok (.bipush 8, 2) := by decide +kernel
theorem kdX5_init_29 : decode prog_8_method_1_code 29 = .ok (.newarray .int, 2) := by decide +kernel
theorem kdX5_init_31 : decode prog_8_method_1_code 31 = .ok (.putfield 18, 3) := by decide +kernel
theorem kdX5_init_34 : decode prog_8_method_1_code 34 = .ok (.aload_n 0, 1) := by decide +kernel
theorem kdX5_init_35 : decode prog_8_method_1_code 35 = .ok (.bipush 16, 2) := by decide +kernel
theorem kdX5_init_37 : decode prog_8_method_1_code 37 = .ok (.newarray .long, 2) := by decide +kernel
theorem kdX5_init_39 : decode prog_8_method_1_code 39 = .ok (.putfield 22, 3) := by decide +kernel
theorem kdX5_init_42 : decode prog_8_method_1_code 42 = .ok (.aload_n 0, 1) := by decide +kernel
theorem kdX5_init_43 : decode prog_8_method_1_code 43 = .ok (.bipush 80, 2) := by decide +kernel
theorem kdX5_init_45 : decode prog_8_method_1_code 45 = .ok (.newarray .long, 2) := by decide +kernel
theorem kdX5_init_47 : decode prog_8_method_1_code 47 = .ok (.putfield 26, 3) := by decide +kernel
theorem kdX5_init_50 : decode prog_8_method_1_code 50 = .ok (.aload_n 0, 1) := by decide +kernel
theorem kdX5_init_51 : decode prog_8_method_1_code 51 = .ok (.bipush 8, 2) := by decide +kernel
theorem kdX5_init_53 : decode prog_8_method_1_code 53 = .ok (.newarray .long, 2) := by decide +kernel
theorem kdX5_init_55 : decode prog_8_method_1_code 55 = .ok (.putfield 29, 3) := by decide +kernel
theorem kdX5_init_58 : decode prog_8_method_1_code 58 = .ok (.aload_n 0, 1) := by decide +kernel
theorem kdX5_init_59 : decode prog_8_method_1_code 59 = .ok (.bipush 8, 2) := by decide +kernel
theorem kdX5_init_61 : decode prog_8_method_1_code 61 = .ok (.newarray .long, 2) := by decide +kernel
theorem kdX5_init_63 : decode prog_8_method_1_code 63 = .ok (.putfield 32, 3) := by decide +kernel
theorem kdX5_init_66 : decode prog_8_method_1_code 66 = .ok (.aload_n 0, 1) := by decide +kernel
theorem kdX5_init_67 : decode prog_8_method_1_code 67 = .ok (.bipush 16, 2) := by decide +kernel
theorem kdX5_init_69 : decode prog_8_method_1_code 69 = .ok (.newarray .long, 2) := by decide +kernel
theorem kdX5_init_71 : decode prog_8_method_1_code 71 = .ok (.putfield 35, 3) := by decide +kernel
theorem kdX5_init_74 : decode prog_8_method_1_code 74 = .ok (.aload_n 0, 1) := by decide +kernel
theorem kdX5_init_75 : decode prog_8_method_1_code 75 = .ok (.bipush 16, 2) := by decide +kernel
theorem kdX5_init_77 : decode prog_8_method_1_code 77 = .ok (.newarray .long, 2) := by decide +kernel
theorem kdX5_init_79 : decode prog_8_method_1_code 79 = .ok (.putfield 38, 3) := by decide +kernel
theorem kdX5_init_82 : decode prog_8_method_1_code 82 = .ok (.aload_n 0, 1) := by decide +kernel
theorem kdX5_init_83 : decode prog_8_method_1_code 83 = .ok (.bipush 25, 2) := by decide +kernel
theorem kdX5_init_85 : decode prog_8_method_1_code 85 = .ok (.newarray .int, 2) := by decide +kernel
theorem kdX5_init_87 : decode prog_8_method_1_code 87 = .ok (.putfield 41, 3) := by decide +kernel
theorem kdX5_init_90 : decode prog_8_method_1_code 90 = .ok (.aload_n 0, 1) := by decide +kernel
theorem kdX5_init_91 : decode prog_8_method_1_code 91 = .ok (.bipush 24, 2) := by decide +kernel
theorem kdX5_init_93 : decode prog_8_method_1_code 93 = .ok (.newarray .long, 2) := by decide +kernel
theorem kdX5_init_95 : decode prog_8_method_1_code 95 = .ok (.putfield 44, 3) := by decide +kernel
theorem kdX5_init_98 : decode prog_8_method_1_code 98 = .ok (.aload_n 0, 1) := by decide +kernel
theorem kdX5_init_99 : decode prog_8_method_1_code 99 = .ok (.bipush 25, 2) := by decide +kernel
theorem kdX5_init_101 : decode prog_8_method_1_code 101 = .ok (.newarray .long, 2) := by decide +kernel
theorem kdX5_init_103 : decode prog_8_method_1_code 103 = .ok (.putfield 47, 3) := by decide +kernel
theorem kdX5_init_106 : decode prog_8_method_1_code 106 = .ok (.aload_n 0, 1) := by decide +kernel
theorem kdX5_init_107 : decode prog_8_method_1_code 107 = .ok (.bipush 25, 2) := by decide +kernel
theorem kdX5_init_109 : decode prog_8_method_1_code 109 = .ok (.newarray .long, 2) := by decide +kernel
theorem kdX5_init_111 : decode prog_8_method_1_code 111 = .ok (.putfield 50, 3) := by decide +kernel
theorem kdX5_init_114 : decode prog_8_method_1_code 114 = .ok (.aload_n 0, 1) := by decide +kernel
theorem kdX5_init_115 : decode prog_8_method_1_code 115 = .ok (.iconst 5, 1) := by decide +kernel
theorem kdX5_init_116 : decode prog_8_method_1_code 116 = .ok (.newarray .long, 2) := by decide +kernel
theorem kdX5_init_118 : decode prog_8_method_1_code 118 = .ok (.putfield 53, 3) := by decide +kernel
theorem kdX5_init_121 : decode prog_8_method_1_code 121 = .ok (.aload_n 0, 1) := by decide +kernel
theorem kdX5_init_122 : decode prog_8_method_1_code 122 = .ok (.bipush 80, 2) := by decide +kernel
theorem kdX5_init_124 : decode prog_8_method_1_code 124 = .ok (.newarray .long, 2) := by decide +kernel
theorem kdX5_init_126 : decode prog_8_method_1_code 126 = .ok (.putfield 56, 3) := by decide +kernel
theorem kdX5_init_129 : decode prog_8_method_1_code 129 = .ok (.aload_n 0, 1) := by decide +kernel
theorem kdX5_init_130 : decode prog_8_method_1_code 130 = .ok (.sipush 128, 3) := by decide +kernel
theorem kdX5_init_133 : decode prog_8_method_1_code 133 = .ok (.newarray .byte, 2) := by decide +kernel
theorem kdX5_init_135 : decode prog_8_method_1_code 135 = .ok (.putfield 59, 3) := by decide +kernel
theorem kdX5_init_138 : decode prog_8_method_1_code 138 = .ok (.aload_n 0, 1) := by decide +kernel
theorem kdX5_init_139 : decode prog_8_method_1_code 139 = .ok (.sipush 256, 3) := by decide +kernel
theorem kdX5_init_142 : decode prog_8_method_1_code 142 = .ok (.newarray .long, 2) := by decide +kernel
theorem kdX5_init_144 : decode prog_8_method_1_code 144 = .ok (.putfield 62, 3) := by decide +kernel
theorem kdX5_init_147 : decode prog_8_method_1_code 147 = .ok (.aload_n 0, 1) := by decide +kernel
theorem kdX5_init_148 : decode prog_8_method_1_code 148 = .ok (.sipush 256, 3) := by decide +kernel
theorem kdX5_init_151 : decode prog_8_method_1_code 151 = .ok (.newarray .int, 2) := by decide +kernel
theorem kdX5_init_153 : decode prog_8_method_1_code 153 = .ok (.putfield 65, 3) := by decide +kernel
theorem kdX5_init_156 : decode prog_8_method_1_code 156 = .ok (.aload_n 0, 1) := by decide +kernel
theorem kdX5_init_157 : decode prog_8_method_1_code 157 = .ok (.bipush 30, 2) := by decide +kernel
theorem kdX5_init_159 : decode prog_8_method_1_code 159 = .ok (.sipush 256, 3) := by decide +kernel
theorem kdX5_init_162 : decode prog_8_method_1_code 162 = .ok (.multianewarray 68 2, 4) := by decide +kernel
theorem kdX5_init_166 : decode prog_8_method_1_code 166 = .ok (.putfield 70, 3) := by decide +kernel
theorem kdX5_init_169 : decode prog_8_method_1_code 169 = .ok (.aload_n 0, 1) := by decide +kernel
theorem kdX5_init_170 : decode prog_8_method_1_code 170 = .ok (.sipush 256, 3) := by decide +kernel
theorem kdX5_init_173 : decode prog_8_method_1_code 173 = .ok (.newarray .byte, 2) := by decide +kernel
theorem kdX5_init_175 : decode prog_8_method_1_code 175 = .ok (.putfield 73, 3) := by decide +kernel
theorem kdX5_init_178 : decode prog_8_method_1_code 178 = .ok (.aload_n 0, 1) := by decide +kernel
theorem kdX5_init_179 : decode prog_8_method_1_code 179 = .ok (.sipush 256, 3) := by decide +kernel
theorem kdX5_init_182 : decode prog_8_method_1_code 182 = .ok (.newarray .byte, 2) := by decide +kernel
theorem kdX5_init_184 : decode prog_8_method_1_code 184 = .ok (.putfield 76, 3) := by decide +kernel
theorem kdX5_init_187 : decode prog_8_method_1_code 187 = .ok (.aload_n 0, 1) := by decide +kernel
theorem kdX5_init_188 : decode prog_8_method_1_code 188 = .ok (.sipush 8192, 3) := by decide +kernel
theorem kdX5_init_191 : decode prog_8_method_1_code 191 = .ok (.newarray .byte, 2) := by decide +kernel
theorem kdX5_init_193 : decode prog_8_method_1_code 193 = .ok (.putfield 79, 3) := by decide +kernel
theorem kdX5_init_196 : decode prog_8_method_1_code 196 = .ok (.aload_n 0, 1) := by decide +kernel
theorem kdX5_init_197 : decode prog_8_method_1_code 197 = .ok (.sipush 8192, 3) := by decide +kernel
theorem kdX5_init_200 : decode prog_8_method_1_code 200 = .ok (.newarray .byte, 2) := by decide +kernel
theorem kdX5_init_202 : decode prog_8_method_1_code 202 = .ok (.putfield 82, 3) := by decide +kernel
theorem kdX5_init_205 : decode prog_8_method_1_code 205 = .ok (.aload_n 0, 1) := by decide +kernel
theorem kdX5_init_206 : decode prog_8_method_1_code 206 = .ok (.bipush 32, 2) := by decide +kernel
theorem kdX5_init_208 : decode prog_8_method_1_code 208 = .ok (.newarray .byte, 2) := by decide +kernel
theorem kdX5_init_210 : decode prog_8_method_1_code 210 = .ok (.putfield 85, 3) := by decide +kernel
theorem kdX5_init_213 : decode prog_8_method_1_code 213 = .ok (.aload_n 0, 1) := by decide +kernel
theorem kdX5_init_214 : decode prog_8_method_1_code 214 = .ok (.invokevirtual 88, 3) := by decide +kernel
theorem kdX5_init_217 : decode prog_8_method_1_code 217 = .ok (.return_, 1) := by decide +kernel
theorem kdX5_thrown_0 : decode prog_8_method_2_code 0 = .ok (.aload_n 0, 1) := by decide +kernel
theorem kdX5_thrown_1 : decode prog_8_method_2_code 1 = .ok (.getfield 91, 3) := by decide +kernel
theorem kdX5_thrown_4 : decode prog_8_method_2_code 4 = .ok (.ireturn, 1) := by decide +kernel
theorem kdX5_in_0 : decode prog_8_method_3_code 0 = .ok (.iload_n 0, 1) := by decide +kernel
theorem kdX5_in_1 : decode prog_8_method_3_code 1 = .ok (.iload_n 1, 1) := by decide +kernel
theorem kdX5_in_2 : decode prog_8_method_3_code 2 = .ok (.if_icmp .lt 12, 3) := by decide +kernel
theorem kdX5_in_5 : decode prog_8_method_3_code 5 = .ok (.iload_n 0, 1) := by decide +kernel
theorem kdX5_in_6 : decode prog_8_method_3_code 6 = .ok (.iload_n 2, 1) := by decide +kernel
theorem kdX5_in_7 : decode prog_8_method_3_code 7 = .ok (.if_icmp .gt 7, 3) := by decide +kernel
theorem kdX5_in_10 : decode prog_8_method_3_code 10 = .ok (.iconst 1, 1) := by decide +kernel
theorem kdX5_in_11 : decode prog_8_method_3_code 11 = .ok (.goto 4, 3) := by decide +kernel
theorem kdX5_in_14 : decode prog_8_method_3_code 14 = .ok (.iconst 0, 1) := by decide +kernel
theorem kdX5_in_15 : decode prog_8_method_3_code 15 = .ok (.ireturn, 1) := by decide +kernel
theorem kdX5_good_0 : decode prog_8_method_4_code 0 = .ok (.aload_n 0, 1) := by decide +kernel
theorem kdX5_good_1 : decode prog_8_method_4_code 1 = .ok (.iload_n 1, 1) := by decide +kernel
theorem kdX5_good_2 : decode prog_8_method_4_code 2 = .ok (.ifCond .eq 7, 3) := by decide +kernel
theorem kdX5_good_5 : decode prog_8_method_4_code 5 = .ok (.iconst 0, 1) := by decide +kernel
theorem kdX5_good_6 : decode prog_8_method_4_code 6 = .ok (.goto 4, 3) := by decide +kernel
theorem kdX5_good_9 : decode prog_8_method_4_code 9 = .ok (.iload_n 2, 1) := by decide +kernel
theorem kdX5_good_10 : decode prog_8_method_4_code 10 = .ok (.putfield 91, 3) := by decide +kernel
theorem kdX5_good_13 : decode prog_8_method_4_code 13 = .ok (.iload_n 1, 1) := by decide +kernel
theorem kdX5_good_14 : decode prog_8_method_4_code 14 = .ok (.ireturn, 1) := by decide +kernel
theorem kdX5_feed_0 : decode prog_8_method_5_code 0 = .ok (.aload_n 0, 1) := by decide +kernel
theorem kdX5_feed_1 : decode prog_8_method_5_code 1 = .ok (.aload_n 0, 1) := by decide +kernel
theorem kdX5_feed_2 : decode prog_8_method_5_code 2 = .ok (.getfield 95, 3) := by decide +kernel
theorem kdX5_feed_5 : decode prog_8_method_5_code 5 = .ok (.bipush 20, 2) := by decide +kernel
theorem kdX5_feed_7 : decode prog_8_method_5_code 7 = .ok (.iadd, 1) := by decide +kernel
theorem kdX5_feed_8 : decode prog_8_method_5_code 8 = .ok (.sipush 8192, 3) := by decide +kernel
theorem kdX5_feed_11 : decode prog_8_method_5_code 11 = .ok (.if_icmp .gt 7, 3) := by decide +kernel
theorem kdX5_feed_14 : decode prog_8_method_5_code 14 = .ok (.iconst 1, 1) := by decide +kernel
theorem kdX5_feed_15 : decode prog_8_method_5_code 15 = .ok (.goto 4, 3) := by decide +kernel
theorem kdX5_feed_18 : decode prog_8_method_5_code 18 = .ok (.iconst 0, 1) := by decide +kernel
theorem kdX5_feed_19 : decode prog_8_method_5_code 19 = .ok (.iconst 1, 1) := by decide +kernel
theorem kdX5_feed_20 : decode prog_8_method_5_code 20 = .ok (.invokevirtual 98, 3) := by decide +kernel
theorem kdX5_feed_23 : decode prog_8_method_5_code 23 = .ok (.ifCond .ne 5, 3) := by decide +kernel
theorem kdX5_feed_26 : decode prog_8_method_5_code 26 = .ok (.iconst 0, 1) := by decide +kernel
theorem kdX5_feed_27 : decode prog_8_method_5_code 27 = .ok (.ireturn, 1) := by decide +kernel
theorem kdX5_feed_28 : decode prog_8_method_5_code 28 = .ok (.aload_n 0, 1) := by decide +kernel
theorem kdX5_feed_29 : decode prog_8_method_5_code 29 = .ok (.iload_n 1, 1) := by decide +kernel
theorem kdX5_feed_30 : decode prog_8_method_5_code 30 = .ok (.invokevirtual 102, 3) := by decide +kernel
theorem kdX5_feed_33 : decode prog_8_method_5_code 33 = .ok (.aload_n 0, 1) := by decide +kernel
theorem kdX5_feed_34 : decode prog_8_method_5_code 34 = .ok (.iload_n 2, 1) := by decide +kernel
theorem kdX5_feed_35 : decode prog_8_method_5_code 35 = .ok (.invokevirtual 102, 3) := by decide +kernel
theorem kdX5_feed_38 : decode prog_8_method_5_code 38 = .ok (.aload_n 0, 1) := by decide +kernel
theorem kdX5_feed_39 : decode prog_8_method_5_code 39 = .ok (.iload_n 3, 1) := by decide +kernel
theorem kdX5_feed_40 : decode prog_8_method_5_code 40 = .ok (.invokevirtual 102, 3) := by decide +kernel
theorem kdX5_feed_43 : decode prog_8_method_5_code 43 = .ok (.aload_n 0, 1) := by decide +kernel
theorem kdX5_feed_44 : decode prog_8_method_5_code 44 = .ok (.iload 4, 2) := by decide +kernel
theorem kdX5_feed_46 : decode prog_8_method_5_code 46 = .ok (.invokevirtual 102, 3) := by decide +kernel
theorem kdX5_feed_49 : decode prog_8_method_5_code 49 = .ok (.aload_n 0, 1) := by decide +kernel
theorem kdX5_feed_50 : decode prog_8_method_5_code 50 = .ok (.iload 5, 2) := by decide +kernel
theorem kdX5_feed_52 : decode prog_8_method_5_code 52 = .ok (.invokevirtual 102, 3) := by decide +kernel
theorem kdX5_feed_55 : decode prog_8_method_5_code 55 = .ok (.aload_n 0, 1) := by decide +kernel
theorem kdX5_feed_56 : decode prog_8_method_5_code 56 = .ok (.getfield 95, 3) := by decide +kernel
theorem kdX5_feed_59 : decode prog_8_method_5_code 59 = .ok (.ireturn, 1) := by decide +kernel
theorem kdX5_word_0 : decode prog_8_method_6_code 0 = .ok (.iconst 0, 1) := by decide +kernel
theorem kdX5_word_1 : decode prog_8_method_6_code 1 = .ok (.istore_n 2, 1) := by decide +kernel
theorem kdX5_word_2 : decode prog_8_method_6_code 2 = .ok (.iload_n 2, 1) := by decide +kernel
theorem kdX5_word_3 : decode prog_8_method_6_code 3 = .ok (.iconst 4, 1) := by decide +kernel
theorem kdX5_word_4 : decode prog_8_method_6_code 4 = .ok (.if_icmp .ge 30, 3) := by decide +kernel
theorem kdX5_word_7 : decode prog_8_method_6_code 7 = .ok (.aload_n 0, 1) := by decide +kernel
theorem kdX5_word_8 : decode prog_8_method_6_code 8 = .ok (.getfield 9, 3) := by decide +kernel
theorem kdX5_word_11 : decode prog_8_method_6_code 11 = .ok (.aload_n 0, 1) := by decide +kernel
theorem kdX5_word_12 : decode prog_8_method_6_code 12 = .ok (.getfield 95, 3) := by decide +kernel
theorem kdX5_word_15 : decode prog_8_method_6_code 15 = .ok (.iload_n 2, 1) := by decide +kernel
theorem kdX5_word_16 : decode prog_8_method_6_code 16 = .ok (.iadd, 1) := by decide +kernel
theorem kdX5_word_17 : decode prog_8_method_6_code 17 = .ok (.iload_n 1, 1) := by decide +kernel
theorem kdX5_word_18 : decode prog_8_method_6_code 18 = .ok (.bipush 24, 2) := by decide +kernel
theorem kdX5_word_20 : decode prog_8_method_6_code 20 = .ok (.bipush 8, 2) := by decide +kernel
theorem kdX5_word_22 : decode prog_8_method_6_code 22 = .ok (.iload_n 2, 1) := by decide +kernel
theorem kdX5_word_23 : decode prog_8_method_6_code 23 = .ok (.imul, 1) := by decide +kernel
theorem kdX5_word_24 : decode prog_8_method_6_code 24 = .ok (.isub, 1) := by decide +kernel
theorem kdX5_word_25 : decode prog_8_method_6_code 25 = .ok (.ishr, 1) := by decide +kernel
theorem kdX5_word_26 : decode prog_8_method_6_code 26 = .ok (.i2b, 1) := by decide +kernel
theorem kdX5_word_27 : decode prog_8_method_6_code 27 = .ok (.bastore, 1) := by decide +kernel
theorem kdX5_word_28 : decode prog_8_method_6_code 28 = .ok (.iinc 2 1, 3) := by decide +kernel
theorem kdX5_word_31 : decode prog_8_method_6_code 31 = .ok (.goto (-29), 3) := by decide +kernel
theorem kdX5_word_34 : decode prog_8_method_6_code 34 = .ok (.aload_n 0, 1) := by decide +kernel
theorem kdX5_word_35 : decode prog_8_method_6_code 35 = .ok (.dup, 1) := by decide +kernel
theorem kdX5_word_36 : decode prog_8_method_6_code 36 = .ok (.getfield 95, 3) := by decide +kernel
theorem kdX5_word_39 : decode prog_8_method_6_code 39 = .ok (.iconst 4, 1) := by decide +kernel
theorem kdX5_word_40 : decode prog_8_method_6_code 40 = .ok (.iadd, 1) := by decide +kernel
theorem kdX5_word_41 : decode prog_8_method_6_code 41 = .ok (.putfield 95, 3) := by decide +kernel
theorem kdX5_word_44 : decode prog_8_method_6_code 44 = .ok (.return_, 1) := by decide +kernel
theorem kdX5_end_0 : decode prog_8_method_7_code 0 = .ok (.aload_n 0, 1) := by decide +kernel
theorem kdX5_end_1 : decode prog_8_method_7_code 1 = .ok (.iload_n 1, 1) := by decide +kernel
theorem kdX5_end_2 : decode prog_8_method_7_code 2 = .ok (.iconst 0, 1) := by decide +kernel
theorem kdX5_end_3 : decode prog_8_method_7_code 3 = .ok (.bipush 7, 2) := by decide +kernel
theorem kdX5_end_5 : decode prog_8_method_7_code 5 = .ok (.invokestatic 106, 3) := by decide +kernel
theorem kdX5_end_8 : decode prog_8_method_7_code 8 = .ok (.ifCond .eq 18, 3) := by decide +kernel
theorem kdX5_end_11 : decode prog_8_method_7_code 11 = .ok (.iload_n 2, 1) := by decide +kernel
theorem kdX5_end_12 : decode prog_8_method_7_code 12 = .ok (.iconst 0, 1) := by decide +kernel
theorem kdX5_end_13 : decode prog_8_method_7_code 13 = .ok (.sipush 8192, 3) := by decide +kernel
theorem kdX5_end_16 : decode prog_8_method_7_code 16 = .ok (.invokestatic 106, 3) := by decide +kernel
theorem kdX5_end_19 : decode prog_8_method_7_code 19 = .ok (.ifCond .eq 7, 3) := by decide +kernel
theorem kdX5_end_22 : decode prog_8_method_7_code 22 = .ok (.iconst 1, 1) := by decide +kernel
theorem kdX5_end_23 : decode prog_8_method_7_code 23 = .ok (.goto 4, 3) := by decide +kernel
theorem kdX5_end_26 : decode prog_8_method_7_code 26 = .ok (.iconst 0, 1) := by decide +kernel
theorem kdX5_end_27 : decode prog_8_method_7_code 27 = .ok (.iconst 1, 1) := by decide +kernel
theorem kdX5_end_28 : decode prog_8_method_7_code 28 = .ok (.invokevirtual 98, 3) := by decide +kernel
theorem kdX5_end_31 : decode prog_8_method_7_code 31 = .ok (.ifCond .eq 24, 3) := by decide +kernel
theorem kdX5_end_34 : decode prog_8_method_7_code 34 = .ok (.aload_n 0, 1) := by decide +kernel
theorem kdX5_end_35 : decode prog_8_method_7_code 35 = .ok (.iload_n 2, 1) := by decide +kernel
theorem kdX5_end_36 : decode prog_8_method_7_code 36 = .ok (.aload_n 0, 1) := by decide +kernel
theorem kdX5_end_37 : decode prog_8_method_7_code 37 = .ok (.getfield 95, 3) := by decide +kernel
theorem kdX5_end_40 : decode prog_8_method_7_code 40 = .ok (.if_icmp .gt 7, 3) := by decide +kernel
theorem kdX5_end_43 : decode prog_8_method_7_code 43 = .ok (.iconst 1, 1) := by decide +kernel
theorem kdX5_end_44 : decode prog_8_method_7_code 44 = .ok (.goto 4, 3) := by decide +kernel
theorem kdX5_end_47 : decode prog_8_method_7_code 47 = .ok (.iconst 0, 1) := by decide +kernel
theorem kdX5_end_48 : decode prog_8_method_7_code 48 = .ok (.iconst 2, 1) := by decide +kernel
theorem kdX5_end_49 : decode prog_8_method_7_code 49 = .ok (.invokevirtual 98, 3) := by decide +kernel
theorem kdX5_end_52 : decode prog_8_method_7_code 52 = .ok (.ifCond .ne 5, 3) := by decide +kernel
theorem kdX5_end_55 : decode prog_8_method_7_code 55 = .ok (.iconst 0, 1) := by decide +kernel
theorem kdX5_end_56 : decode prog_8_method_7_code 56 = .ok (.ireturn, 1) := by decide +kernel
theorem kdX5_end_57 : decode prog_8_method_7_code 57 = .ok (.iconst 0, 1) := by decide +kernel
theorem kdX5_end_58 : decode prog_8_method_7_code 58 = .ok (.istore_n 3, 1) := by decide +kernel
theorem kdX5_end_59 : decode prog_8_method_7_code 59 = .ok (.iload_n 3, 1) := by decide +kernel
theorem kdX5_end_60 : decode prog_8_method_7_code 60 = .ok (.iload_n 2, 1) := by decide +kernel
theorem kdX5_end_61 : decode prog_8_method_7_code 61 = .ok (.if_icmp .ge 23, 3) := by decide +kernel
theorem kdX5_end_64 : decode prog_8_method_7_code 64 = .ok (.aload_n 0, 1) := by decide +kernel
theorem kdX5_end_65 : decode prog_8_method_7_code 65 = .ok (.getfield 15, 3) := by decide +kernel
theorem kdX5_end_68 : decode prog_8_method_7_code 68 = .ok (.iload_n 1, 1) := by decide +kernel
theorem kdX5_end_69 : decode prog_8_method_7_code 69 = .ok (.aaload, 1) := by decide +kernel
theorem kdX5_end_70 : decode prog_8_method_7_code 70 = .ok (.iload_n 3, 1) := by decide +kernel
theorem kdX5_end_71 : decode prog_8_method_7_code 71 = .ok (.aload_n 0, 1) := by decide +kernel
theorem kdX5_end_72 : decode prog_8_method_7_code 72 = .ok (.getfield 9, 3) := by decide +kernel
theorem kdX5_end_75 : decode prog_8_method_7_code 75 = .ok (.iload_n 3, 1) := by decide +kernel
theorem kdX5_end_76 : decode prog_8_method_7_code 76 = .ok (.baload, 1) := by decide +kernel
theorem kdX5_end_77 : decode prog_8_method_7_code 77 = .ok (.bastore, 1) := by decide +kernel
theorem kdX5_end_78 : decode prog_8_method_7_code 78 = .ok (.iinc 3 1, 3) := by decide +kernel
theorem kdX5_end_81 : decode prog_8_method_7_code 81 = .ok (.goto (-22), 3) := by decide +kernel
theorem kdX5_end_84 : decode prog_8_method_7_code 84 = .ok (.aload_n 0, 1) := by decide +kernel
theorem kdX5_end_85 : decode prog_8_method_7_code 85 = .ok (.getfield 18, 3) := by decide +kernel
theorem kdX5_end_88 : decode prog_8_method_7_code 88 = .ok (.iload_n 1, 1) := by decide +kernel
theorem kdX5_end_89 : decode prog_8_method_7_code 89 = .ok (.iload_n 2, 1) := by decide +kernel
theorem kdX5_end_90 : decode prog_8_method_7_code 90 = .ok (.iastore, 1) := by decide +kernel
theorem kdX5_end_91 : decode prog_8_method_7_code 91 = .ok (.aload_n 0, 1) := by decide +kernel
theorem kdX5_end_92 : decode prog_8_method_7_code 92 = .ok (.iconst 0, 1) := by decide +kernel
theorem kdX5_end_93 : decode prog_8_method_7_code 93 = .ok (.putfield 95, 3) := by decide +kernel
theorem kdX5_end_96 : decode prog_8_method_7_code 96 = .ok (.iload_n 2, 1) := by decide +kernel
theorem kdX5_end_97 : decode prog_8_method_7_code 97 = .ok (.ireturn, 1) := by decide +kernel
theorem kdX5_copy_0 : decode prog_8_method_8_code 0 = .ok (.aload_n 0, 1) := by decide +kernel
theorem kdX5_copy_1 : decode prog_8_method_8_code 1 = .ok (.iload_n 1, 1) := by decide +kernel
theorem kdX5_copy_2 : decode prog_8_method_8_code 2 = .ok (.iconst 0, 1) := by decide +kernel
theorem kdX5_copy_3 : decode prog_8_method_8_code 3 = .ok (.bipush 7, 2) := by decide +kernel
theorem kdX5_copy_5 : decode prog_8_method_8_code 5 = .ok (.invokestatic 106, 3) := by decide +kernel
theorem kdX5_copy_8 : decode prog_8_method_8_code 8 = .ok (.ifCond .eq 17, 3) := by decide +kernel
theorem kdX5_copy_11 : decode prog_8_method_8_code 11 = .ok (.iload_n 2, 1) := by decide +kernel
theorem kdX5_copy_12 : decode prog_8_method_8_code 12 = .ok (.iconst 0, 1) := by decide +kernel
theorem kdX5_copy_13 : decode prog_8_method_8_code 13 = .ok (.bipush 7, 2) := by decide +kernel
theorem kdX5_copy_15 : decode prog_8_method_8_code 15 = .ok (.invokestatic 106, 3) := by decide +kernel
theorem kdX5_copy_18 : decode prog_8_method_8_code 18 = .ok (.ifCond .eq 7, 3) := by decide +kernel
theorem kdX5_copy_21 : decode prog_8_method_8_code 21 = .ok (.iconst 1, 1) := by decide +kernel
theorem kdX5_copy_22 : decode prog_8_method_8_code 22 = .ok (.goto 4, 3) := by decide +kernel
theorem kdX5_copy_25 : decode prog_8_method_8_code 25 = .ok (.iconst 0, 1) := by decide +kernel
theorem kdX5_copy_26 : decode prog_8_method_8_code 26 = .ok (.iconst 1, 1) := by decide +kernel
theorem kdX5_copy_27 : decode prog_8_method_8_code 27 = .ok (.invokevirtual 98, 3) := by decide +kernel
theorem kdX5_copy_30 : decode prog_8_method_8_code 30 = .ok (.ifCond .ne 5, 3) := by decide +kernel
theorem kdX5_copy_33 : decode prog_8_method_8_code 33 = .ok (.iconst 0, 1) := by decide +kernel
theorem kdX5_copy_34 : decode prog_8_method_8_code 34 = .ok (.ireturn, 1) := by decide +kernel
theorem kdX5_copy_35 : decode prog_8_method_8_code 35 = .ok (.iconst 0, 1) := by decide +kernel
theorem kdX5_copy_36 : decode prog_8_method_8_code 36 = .ok (.istore_n 3, 1) := by decide +kernel
theorem kdX5_copy_37 : decode prog_8_method_8_code 37 = .ok (.iload_n 3, 1) := by decide +kernel
theorem kdX5_copy_38 : decode prog_8_method_8_code 38 = .ok (.aload_n 0, 1) := by decide +kernel
theorem kdX5_copy_39 : decode prog_8_method_8_code 39 = .ok (.getfield 18, 3) := by decide +kernel
theorem kdX5_copy_42 : decode prog_8_method_8_code 42 = .ok (.iload_n 1, 1) := by decide +kernel
theorem kdX5_copy_43 : decode prog_8_method_8_code 43 = .ok (.iaload, 1) := by decide +kernel
theorem kdX5_copy_44 : decode prog_8_method_8_code 44 = .ok (.if_icmp .ge 25, 3) := by decide +kernel
theorem kdX5_copy_47 : decode prog_8_method_8_code 47 = .ok (.aload_n 0, 1) := by decide +kernel
theorem kdX5_copy_48 : decode prog_8_method_8_code 48 = .ok (.getfield 15, 3) := by decide +kernel
theorem kdX5_copy_51 : decode prog_8_method_8_code 51 = .ok (.iload_n 2, 1) := by decide +kernel
theorem kdX5_copy_52 : decode prog_8_method_8_code 52 = .ok (.aaload, 1) := by decide +kernel
theorem kdX5_copy_53 : decode prog_8_method_8_code 53 = .ok (.iload_n 3, 1) := by decide +kernel
theorem kdX5_copy_54 : decode prog_8_method_8_code 54 = .ok (.aload_n 0, 1) := by decide +kernel
theorem kdX5_copy_55 : decode prog_8_method_8_code 55 = .ok (.getfield 15, 3) := by decide +kernel
theorem kdX5_copy_58 : decode prog_8_method_8_code 58 = .ok (.iload_n 1, 1) := by decide +kernel
theorem kdX5_copy_59 : decode prog_8_method_8_code 59 = .ok (.aaload, 1) := by decide +kernel
theorem kdX5_copy_60 : decode prog_8_method_8_code 60 = .ok (.iload_n 3, 1) := by decide +kernel
theorem kdX5_copy_61 : decode prog_8_method_8_code 61 = .ok (.baload, 1) := by decide +kernel
theorem kdX5_copy_62 : decode prog_8_method_8_code 62 = .ok (.bastore, 1) := by decide +kernel
theorem kdX5_copy_63 : decode prog_8_method_8_code 63 = .ok (.iinc 3 1, 3) := by decide +kernel
theorem kdX5_copy_66 : decode prog_8_method_8_code 66 = .ok (.goto (-29), 3) := by decide +kernel
theorem kdX5_copy_69 : decode prog_8_method_8_code 69 = .ok (.aload_n 0, 1) := by decide +kernel
theorem kdX5_copy_70 : decode prog_8_method_8_code 70 = .ok (.getfield 18, 3) := by decide +kernel
theorem kdX5_copy_73 : decode prog_8_method_8_code 73 = .ok (.iload_n 2, 1) := by decide +kernel
theorem kdX5_copy_74 : decode prog_8_method_8_code 74 = .ok (.aload_n 0, 1) := by decide +kernel
theorem kdX5_copy_75 : decode prog_8_method_8_code 75 = .ok (.getfield 18, 3) := by decide +kernel
theorem kdX5_copy_78 : decode prog_8_method_8_code 78 = .ok (.iload_n 1, 1) := by decide +kernel
theorem kdX5_copy_79 : decode prog_8_method_8_code 79 = .ok (.iaload, 1) := by decide +kernel
theorem kdX5_copy_80 : decode prog_8_method_8_code 80 = .ok (.iastore, 1) := by decide +kernel
theorem kdX5_copy_81 : decode prog_8_method_8_code 81 = .ok (.aload_n 0, 1) := by decide +kernel
theorem kdX5_copy_82 : decode prog_8_method_8_code 82 = .ok (.getfield 18, 3) := by decide +kernel
theorem kdX5_copy_85 : decode prog_8_method_8_code 85 = .ok (.iload_n 2, 1) := by decide +kernel
theorem kdX5_copy_86 : decode prog_8_method_8_code 86 = .ok (.iaload, 1) := by decide +kernel
theorem kdX5_copy_87 : decode prog_8_method_8_code 87 = .ok (.ireturn, 1) := by decide +kernel
theorem kdX5_resize_0 : decode prog_8_method_9_code 0 = .ok (.aload_n 0, 1) := by decide +kernel
theorem kdX5_resize_1 : decode prog_8_method_9_code 1 = .ok (.iload_n 1, 1) := by decide +kernel
theorem kdX5_resize_2 : decode prog_8_method_9_code 2 = .ok (.iconst 0, 1) := by decide +kernel
theorem kdX5_resize_3 : decode prog_8_method_9_code 3 = .ok (.bipush 7, 2) := by decide +kernel
theorem kdX5_resize_5 : decode prog_8_method_9_code 5 = .ok (.invokestatic 106, 3) := by decide +kernel
theorem kdX5_resize_8 : decode prog_8_method_9_code 8 = .ok (.ifCond .eq 18, 3) := by decide +kernel
theorem kdX5_resize_11 : decode prog_8_method_9_code 11 = .ok (.iload_n 2, 1) := by decide +kernel
theorem kdX5_resize_12 : decode prog_8_method_9_code 12 = .ok (.iconst 0, 1) := by decide +kernel
theorem kdX5_resize_13 : decode prog_8_method_9_code 13 = .ok (.sipush 8192, 3) := by decide +kernel
theorem kdX5_resize_16 : decode prog_8_method_9_code 16 = .ok (.invokestatic 106, 3) := by decide +kernel
theorem kdX5_resize_19 : decode prog_8_method_9_code 19 = .ok (.ifCond .eq 7, 3) := by decide +kernel
theorem kdX5_resize_22 : decode prog_8_method_9_code 22 = .ok (.iconst 1, 1) := by decide +kernel
theorem kdX5_resize_23 : decode prog_8_method_9_code 23 = .ok (.goto 4, 3) := by decide +kernel
theorem kdX5_resize_26 : decode prog_8_method_9_code 26 = .ok (.iconst 0, 1) := by decide +kernel
theorem kdX5_resize_27 : decode prog_8_method_9_code 27 = .ok (.iconst 1, 1) := by decide +kernel
theorem kdX5_resize_28 : decode prog_8_method_9_code 28 = .ok (.invokevirtual 98, 3) := by decide +kernel
theorem kdX5_resize_31 : decode prog_8_method_9_code 31 = .ok (.ifCond .ne 5, 3) := by decide +kernel
theorem kdX5_resize_34 : decode prog_8_method_9_code 34 = .ok (.iconst 0, 1) := by decide +kernel
theorem kdX5_resize_35 : decode prog_8_method_9_code 35 = .ok (.ireturn, 1) := by decide +kernel
theorem kdX5_resize_36 : decode prog_8_method_9_code 36 = .ok (.aload_n 0, 1) := by decide +kernel
theorem kdX5_resize_37 : decode prog_8_method_9_code 37 = .ok (.getfield 18, 3) := by decide +kernel
theorem kdX5_resize_40 : decode prog_8_method_9_code 40 = .ok (.iload_n 1, 1) := by decide +kernel
theorem kdX5_resize_41 : decode prog_8_method_9_code 41 = .ok (.iaload, 1) := by decide +kernel
theorem kdX5_resize_42 : decode prog_8_method_9_code 42 = .ok (.istore_n 3, 1) := by decide +kernel
theorem kdX5_resize_43 : decode prog_8_method_9_code 43 = .ok (.iload_n 3, 1) := by decide +kernel
theorem kdX5_resize_44 : decode prog_8_method_9_code 44 = .ok (.istore 4, 2) := by decide +kernel
theorem kdX5_resize_46 : decode prog_8_method_9_code 46 = .ok (.iload 4, 2) := by decide +kernel
theorem kdX5_resize_48 : decode prog_8_method_9_code 48 = .ok (.iload_n 2, 1) := by decide +kernel
theorem kdX5_resize_49 : decode prog_8_method_9_code 49 = .ok (.if_icmp .ge 19, 3) := by decide +kernel
theorem kdX5_resize_52 : decode prog_8_method_9_code 52 = .ok (.aload_n 0, 1) := by decide +kernel
theorem kdX5_resize_53 : decode prog_8_method_9_code 53 = .ok (.getfield 15, 3) := by decide +kernel
theorem kdX5_resize_56 : decode prog_8_method_9_code 56 = .ok (.iload_n 1, 1) := by decide +kernel
theorem kdX5_resize_57 : decode prog_8_method_9_code 57 = .ok (.aaload, 1) := by decide +kernel
theorem kdX5_resize_58 : decode prog_8_method_9_code 58 = .ok (.iload 4, 2) := by decide +kernel
theorem kdX5_resize_60 : decode prog_8_method_9_code 60 = .ok (.iconst 0, 1) := by decide +kernel
theorem kdX5_resize_61 : decode prog_8_method_9_code 61 = .ok (.bastore, 1) := by decide +kernel
theorem kdX5_resize_62 : decode prog_8_method_9_code 62 = .ok (.iinc 4 1, 3) := by decide +kernel
theorem kdX5_resize_65 : decode prog_8_method_9_code 65 = .ok (.goto (-19), 3) := by decide +kernel
theorem kdX5_resize_68 : decode prog_8_method_9_code 68 = .ok (.aload_n 0, 1) := by decide +kernel
theorem kdX5_resize_69 : decode prog_8_method_9_code 69 = .ok (.getfield 18, 3) := by decide +kernel
theorem kdX5_resize_72 : decode prog_8_method_9_code 72 = .ok (.iload_n 1, 1) := by decide +kernel
theorem kdX5_resize_73 : decode prog_8_method_9_code 73 = .ok (.iload_n 2, 1) := by decide +kernel
theorem kdX5_resize_74 : decode prog_8_method_9_code 74 = .ok (.iastore, 1) := by decide +kernel
theorem kdX5_resize_75 : decode prog_8_method_9_code 75 = .ok (.iload_n 3, 1) := by decide +kernel
theorem kdX5_resize_76 : decode prog_8_method_9_code 76 = .ok (.ireturn, 1) := by decide +kernel
theorem kdX5_alter_0 : decode prog_8_method_10_code 0 = .ok (.aload_n 0, 1) := by decide +kernel
theorem kdX5_alter_1 : decode prog_8_method_10_code 1 = .ok (.iload_n 1, 1) := by decide +kernel
theorem kdX5_alter_2 : decode prog_8_method_10_code 2 = .ok (.iconst 0, 1) := by decide +kernel
theorem kdX5_alter_3 : decode prog_8_method_10_code 3 = .ok (.bipush 7, 2) := by decide +kernel
theorem kdX5_alter_5 : decode prog_8_method_10_code 5 = .ok (.invokestatic 106, 3) := by decide +kernel
theorem kdX5_alter_8 : decode prog_8_method_10_code 8 = .ok (.ifCond .eq 18, 3) := by decide +kernel
theorem kdX5_alter_11 : decode prog_8_method_10_code 11 = .ok (.iload_n 3, 1) := by decide +kernel
theorem kdX5_alter_12 : decode prog_8_method_10_code 12 = .ok (.iconst 0, 1) := by decide +kernel
theorem kdX5_alter_13 : decode prog_8_method_10_code 13 = .ok (.sipush 255, 3) := by decide +kernel
theorem kdX5_alter_16 : decode prog_8_method_10_code 16 = .ok (.invokestatic 106, 3) := by decide +kernel
theorem kdX5_alter_19 : decode prog_8_method_10_code 19 = .ok (.ifCond .eq 7, 3) := by decide +kernel
theorem kdX5_alter_22 : decode prog_8_method_10_code 22 = .ok (.iconst 1, 1) := by decide +kernel
theorem kdX5_alter_23 : decode prog_8_method_10_code 23 = .ok (.goto 4, 3) := by decide +kernel
theorem kdX5_alter_26 : decode prog_8_method_10_code 26 = .ok (.iconst 0, 1) := by decide +kernel
theorem kdX5_alter_27 : decode prog_8_method_10_code 27 = .ok (.iconst 1, 1) := by decide +kernel
theorem kdX5_alter_28 : decode prog_8_method_10_code 28 = .ok (.invokevirtual 98, 3) := by decide +kernel
theorem kdX5_alter_31 : decode prog_8_method_10_code 31 = .ok (.ifCond .eq 24, 3) := by decide +kernel
theorem kdX5_alter_34 : decode prog_8_method_10_code 34 = .ok (.aload_n 0, 1) := by decide +kernel
theorem kdX5_alter_35 : decode prog_8_method_10_code 35 = .ok (.iload_n 2, 1) := by decide +kernel
theorem kdX5_alter_36 : decode prog_8_method_10_code 36 = .ok (.iconst 0, 1) := by decide +kernel
theorem kdX5_alter_37 : decode prog_8_method_10_code 37 = .ok (.aload_n 0, 1) := by decide +kernel
theorem kdX5_alter_38 : decode prog_8_method_10_code 38 = .ok (.getfield 18, 3) := by decide +kernel
theorem kdX5_alter_41 : decode prog_8_method_10_code 41 = .ok (.iload_n 1, 1) := by decide +kernel
theorem kdX5_alter_42 : decode prog_8_method_10_code 42 = .ok (.iaload, 1) := by decide +kernel
theorem kdX5_alter_43 : decode prog_8_method_10_code 43 = .ok (.iconst 1, 1) := by decide +kernel
theorem kdX5_alter_44 : decode prog_8_method_10_code 44 = .ok (.isub, 1) := by decide +kernel
theorem kdX5_alter_45 : decode prog_8_method_10_code 45 = .ok (.invokestatic 106, 3) := by decide +kernel
theorem kdX5_alter_48 : decode prog_8_method_10_code 48 = .ok (.iconst 2, 1) := by decide +kernel
theorem kdX5_alter_49 : decode prog_8_method_10_code 49 = .ok (.invokevirtual 98, 3) := by decide +kernel
theorem kdX5_alter_52 : decode prog_8_method_10_code 52 = .ok (.ifCond .ne 5, 3) := by decide +kernel
theorem kdX5_alter_55 : decode prog_8_method_10_code 55 = .ok (.iconst 0, 1) := by decide +kernel
theorem kdX5_alter_56 : decode prog_8_method_10_code 56 = .ok (.ireturn, 1) := by decide +kernel
theorem kdX5_alter_57 : decode prog_8_method_10_code 57 = .ok (.aload_n 0, 1) := by decide +kernel
theorem kdX5_alter_58 : decode prog_8_method_10_code 58 = .ok (.getfield 15, 3) := by decide +kernel
theorem kdX5_alter_61 : decode prog_8_method_10_code 61 = .ok (.iload_n 1, 1) := by decide +kernel
theorem kdX5_alter_62 : decode prog_8_method_10_code 62 = .ok (.aaload, 1) := by decide +kernel
theorem kdX5_alter_63 : decode prog_8_method_10_code 63 = .ok (.iload_n 2, 1) := by decide +kernel
theorem kdX5_alter_64 : decode prog_8_method_10_code 64 = .ok (.dup2, 1) := by decide +kernel
theorem kdX5_alter_65 : decode prog_8_method_10_code 65 = .ok (.baload, 1) := by decide +kernel
theorem kdX5_alter_66 : decode prog_8_method_10_code 66 = .ok (.iload_n 3, 1) := by decide +kernel
theorem kdX5_alter_67 : decode prog_8_method_10_code 67 = .ok (.i2b, 1) := by decide +kernel
theorem kdX5_alter_68 : decode prog_8_method_10_code 68 = .ok (.ixor, 1) := by decide +kernel
theorem kdX5_alter_69 : decode prog_8_method_10_code 69 = .ok (.i2b, 1) := by decide +kernel
theorem kdX5_alter_70 : decode prog_8_method_10_code 70 = .ok (.bastore, 1) := by decide +kernel
theorem kdX5_alter_71 : decode prog_8_method_10_code 71 = .ok (.aload_n 0, 1) := by decide +kernel
theorem kdX5_alter_72 : decode prog_8_method_10_code 72 = .ok (.getfield 15, 3) := by decide +kernel
theorem kdX5_alter_75 : decode prog_8_method_10_code 75 = .ok (.iload_n 1, 1) := by decide +kernel
theorem kdX5_alter_76 : decode prog_8_method_10_code 76 = .ok (.aaload, 1) := by decide +kernel
theorem kdX5_alter_77 : decode prog_8_method_10_code 77 = .ok (.iload_n 2, 1) := by decide +kernel
theorem kdX5_alter_78 : decode prog_8_method_10_code 78 = .ok (.baload, 1) := by decide +kernel
theorem kdX5_alter_79 : decode prog_8_method_10_code 79 = .ok (.sipush 255, 3) := by decide +kernel
theorem kdX5_alter_82 : decode prog_8_method_10_code 82 = .ok (.iand, 1) := by decide +kernel
theorem kdX5_alter_83 : decode prog_8_method_10_code 83 = .ok (.ireturn, 1) := by decide +kernel
theorem kdX5_length_0 : decode prog_8_method_11_code 0 = .ok (.aload_n 0, 1) := by decide +kernel
theorem kdX5_length_1 : decode prog_8_method_11_code 1 = .ok (.iload_n 1, 1) := by decide +kernel
theorem kdX5_length_2 : decode prog_8_method_11_code 2 = .ok (.iconst 0, 1) := by decide +kernel
theorem kdX5_length_3 : decode prog_8_method_11_code 3 = .ok (.bipush 7, 2) := by decide +kernel
theorem kdX5_length_5 : decode prog_8_method_11_code 5 = .ok (.invokestatic 106, 3) := by decide +kernel
theorem kdX5_length_8 : decode prog_8_method_11_code 8 = .ok (.iconst 1, 1) := by decide +kernel
theorem kdX5_length_9 : decode prog_8_method_11_code 9 = .ok (.invokevirtual 98, 3) := by decide +kernel
theorem kdX5_length_12 : decode prog_8_method_11_code 12 = .ok (.ifCond .ne 5, 3) := by decide +kernel
theorem kdX5_length_15 : decode prog_8_method_11_code 15 = .ok (.iconst 0, 1) := by decide +kernel
theorem kdX5_length_16 : decode prog_8_method_11_code 16 = .ok (.ireturn, 1) := by decide +kernel
theorem kdX5_length_17 : decode prog_8_method_11_code 17 = .ok (.aload_n 0, 1) := by decide +kernel
theorem kdX5_length_18 : decode prog_8_method_11_code 18 = .ok (.getfield 18, 3) := by decide +kernel
theorem kdX5_length_21 : decode prog_8_method_11_code 21 = .ok (.iload_n 1, 1) := by decide +kernel
theorem kdX5_length_22 : decode prog_8_method_11_code 22 = .ok (.iaload, 1) := by decide +kernel
theorem kdX5_length_23 : decode prog_8_method_11_code 23 = .ok (.ireturn, 1) := by decide +kernel
theorem kdX5_word2_0 : decode prog_8_method_12_code 0 = .ok (.aload_n 0, 1) := by decide +kernel
theorem kdX5_word2_1 : decode prog_8_method_12_code 1 = .ok (.iload_n 1, 1) := by decide +kernel
theorem kdX5_word2_2 : decode prog_8_method_12_code 2 = .ok (.iconst 0, 1) := by decide +kernel
theorem kdX5_word2_3 : decode prog_8_method_12_code 3 = .ok (.bipush 7, 2) := by decide +kernel
theorem kdX5_word2_5 : decode prog_8_method_12_code 5 = .ok (.invokestatic 106, 3) := by decide +kernel
theorem kdX5_word2_8 : decode prog_8_method_12_code 8 = .ok (.iconst 1, 1) := by decide +kernel
theorem kdX5_word2_9 : decode prog_8_method_12_code 9 = .ok (.invokevirtual 98, 3) := by decide +kernel
theorem kdX5_word2_12 : decode prog_8_method_12_code 12 = .ok (.ifCond .eq 24, 3) := by decide +kernel
theorem kdX5_word2_15 : decode prog_8_method_12_code 15 = .ok (.aload_n 0, 1) := by decide +kernel
theorem kdX5_word2_16 : decode prog_8_method_12_code 16 = .ok (.iload_n 2, 1) := by decide +kernel
theorem kdX5_word2_17 : decode prog_8_method_12_code 17 = .ok (.iconst 0, 1) := by decide +kernel
theorem kdX5_word2_18 : decode prog_8_method_12_code 18 = .ok (.aload_n 0, 1) := by decide +kernel
theorem kdX5_word2_19 : decode prog_8_method_12_code 19 = .ok (.getfield 18, 3) := by decide +kernel
theorem kdX5_word2_22 : decode prog_8_method_12_code 22 = .ok (.iload_n 1, 1) := by decide +kernel
theorem kdX5_word2_23 : decode prog_8_method_12_code 23 = .ok (.iaload, 1) := by decide +kernel
theorem kdX5_word2_24 : decode prog_8_method_12_code 24 = .ok (.iconst 1, 1) := by decide +kernel
theorem kdX5_word2_25 : decode prog_8_method_12_code 25 = .ok (.isub, 1) := by decide +kernel
theorem kdX5_word2_26 : decode prog_8_method_12_code 26 = .ok (.invokestatic 106, 3) := by decide +kernel
theorem kdX5_word2_29 : decode prog_8_method_12_code 29 = .ok (.iconst 2, 1) := by decide +kernel
theorem kdX5_word2_30 : decode prog_8_method_12_code 30 = .ok (.invokevirtual 98, 3) := by decide +kernel
theorem kdX5_word2_33 : decode prog_8_method_12_code 33 = .ok (.ifCond .ne 5, 3) := by decide +kernel
theorem kdX5_word2_36 : decode prog_8_method_12_code 36 = .ok (.lconst 0, 1) := by decide +kernel
theorem kdX5_word2_37 : decode prog_8_method_12_code 37 = .ok (.lreturn, 1) := by decide +kernel
theorem kdX5_word2_38 : decode prog_8_method_12_code 38 = .ok (.lconst 0, 1) := by decide +kernel
theorem kdX5_word2_39 : decode prog_8_method_12_code 39 = .ok (.lstore_n 3, 1) := by decide +kernel
theorem kdX5_word2_40 : decode prog_8_method_12_code 40 = .ok (.iload_n 2, 1) := by decide +kernel
theorem kdX5_word2_41 : decode prog_8_method_12_code 41 = .ok (.istore 5, 2) := by decide +kernel
theorem kdX5_word2_43 : decode prog_8_method_12_code 43 = .ok (.iload 5, 2) := by decide +kernel
theorem kdX5_word2_45 : decode prog_8_method_12_code 45 = .ok (.iload_n 2, 1) := by decide +kernel
theorem kdX5_word2_46 : decode prog_8_method_12_code 46 = .ok (.bipush 8, 2) := by decide +kernel
theorem kdX5_word2_48 : decode prog_8_method_12_code 48 = .ok (.iadd, 1) := by decide +kernel
theorem kdX5_word2_49 : decode prog_8_method_12_code 49 = .ok (.if_icmp .ge 44, 3) := by decide +kernel
theorem kdX5_word2_52 : decode prog_8_method_12_code 52 = .ok (.lload_n 3, 1) := by decide +kernel
theorem kdX5_word2_53 : decode prog_8_method_12_code 53 = .ok (.bipush 8, 2) := by decide +kernel
theorem kdX5_word2_55 : decode prog_8_method_12_code 55 = .ok (.lshl, 1) := by decide +kernel
theorem kdX5_word2_56 : decode prog_8_method_12_code 56 = .ok (.iload 5, 2) := by decide +kernel
theorem kdX5_word2_58 : decode prog_8_method_12_code 58 = .ok (.aload_n 0, 1) := by decide +kernel
theorem kdX5_word2_59 : decode prog_8_method_12_code 59 = .ok (.getfield 18, 3) := by decide +kernel
theorem kdX5_word2_62 : decode prog_8_method_12_code 62 = .ok (.iload_n 1, 1) := by decide +kernel
theorem kdX5_word2_63 : decode prog_8_method_12_code 63 = .ok (.iaload, 1) := by decide +kernel
theorem kdX5_word2_64 : decode prog_8_method_12_code 64 = .ok (.if_icmp .ge 20, 3) := by decide +kernel
theorem kdX5_word2_67 : decode prog_8_method_12_code 67 = .ok (.aload_n 0, 1) := by decide +kernel
theorem kdX5_word2_68 : decode prog_8_method_12_code 68 = .ok (.getfield 15, 3) := by decide +kernel
theorem kdX5_word2_71 : decode prog_8_method_12_code 71 = .ok (.iload_n 1, 1) := by decide +kernel
theorem kdX5_word2_72 : decode prog_8_method_12_code 72 = .ok (.aaload, 1) := by decide +kernel
theorem kdX5_word2_73 : decode prog_8_method_12_code 73 = .ok (.iload 5, 2) := by decide +kernel
theorem kdX5_word2_75 : decode prog_8_method_12_code 75 = .ok (.baload, 1) := by decide +kernel
theorem kdX5_word2_76 : decode prog_8_method_12_code 76 = .ok (.i2l, 1) := by decide +kernel
theorem kdX5_word2_77 : decode prog_8_method_12_code 77 = .ok (.ldc2_w 110, 3) := by decide +kernel
theorem kdX5_word2_80 : decode prog_8_method_12_code 80 = .ok (.land, 1) := by decide +kernel
theorem kdX5_word2_81 : decode prog_8_method_12_code 81 = .ok (.goto 4, 3) := by decide +kernel
theorem kdX5_word2_84 : decode prog_8_method_12_code 84 = .ok (.lconst 0, 1) := by decide +kernel
theorem kdX5_word2_85 : decode prog_8_method_12_code 85 = .ok (.lor, 1) := by decide +kernel
theorem kdX5_word2_86 : decode prog_8_method_12_code 86 = .ok (.lstore_n 3, 1) := by decide +kernel
theorem kdX5_word2_87 : decode prog_8_method_12_code 87 = .ok (.iinc 5 1, 3) := by decide +kernel
theorem kdX5_word2_90 : decode prog_8_method_12_code 90 = .ok (.goto (-47), 3) := by decide +kernel
theorem kdX5_word2_93 : decode prog_8_method_12_code 93 = .ok (.lload_n 3, 1) := by decide +kernel
theorem kdX5_word2_94 : decode prog_8_method_12_code 94 = .ok (.lreturn, 1) := by decide +kernel
theorem kdX5_same_0 : decode prog_8_method_13_code 0 = .ok (.aload_n 0, 1) := by decide +kernel
theorem kdX5_same_1 : decode prog_8_method_13_code 1 = .ok (.iload_n 1, 1) := by decide +kernel
theorem kdX5_same_2 : decode prog_8_method_13_code 2 = .ok (.iconst 0, 1) := by decide +kernel
theorem kdX5_same_3 : decode prog_8_method_13_code 3 = .ok (.bipush 7, 2) := by decide +kernel
theorem kdX5_same_5 : decode prog_8_method_13_code 5 = .ok (.invokestatic 106, 3) := by decide +kernel
theorem kdX5_same_8 : decode prog_8_method_13_code 8 = .ok (.ifCond .eq 17, 3) := by decide +kernel
theorem kdX5_same_11 : decode prog_8_method_13_code 11 = .ok (.iload_n 2, 1) := by decide +kernel
theorem kdX5_same_12 : decode prog_8_method_13_code 12 = .ok (.iconst 0, 1) := by decide +kernel
theorem kdX5_same_13 : decode prog_8_method_13_code 13 = .ok (.bipush 7, 2) := by decide +kernel
theorem kdX5_same_15 : decode prog_8_method_13_code 15 = .ok (.invokestatic 106, 3) := by decide +kernel
theorem kdX5_same_18 : decode prog_8_method_13_code 18 = .ok (.ifCond .eq 7, 3) := by decide +kernel
theorem kdX5_same_21 : decode prog_8_method_13_code 21 = .ok (.iconst 1, 1) := by decide +kernel
theorem kdX5_same_22 : decode prog_8_method_13_code 22 = .ok (.goto 4, 3) := by decide +kernel
theorem kdX5_same_25 : decode prog_8_method_13_code 25 = .ok (.iconst 0, 1) := by decide +kernel
theorem kdX5_same_26 : decode prog_8_method_13_code 26 = .ok (.iconst 1, 1) := by decide +kernel
theorem kdX5_same_27 : decode prog_8_method_13_code 27 = .ok (.invokevirtual 98, 3) := by decide +kernel
theorem kdX5_same_30 : decode prog_8_method_13_code 30 = .ok (.ifCond .ne 5, 3) := by decide +kernel
theorem kdX5_same_33 : decode prog_8_method_13_code 33 = .ok (.iconst 0, 1) := by decide +kernel
theorem kdX5_same_34 : decode prog_8_method_13_code 34 = .ok (.ireturn, 1) := by decide +kernel
theorem kdX5_same_35 : decode prog_8_method_13_code 35 = .ok (.aload_n 0, 1) := by decide +kernel
theorem kdX5_same_36 : decode prog_8_method_13_code 36 = .ok (.getfield 18, 3) := by decide +kernel
theorem kdX5_same_39 : decode prog_8_method_13_code 39 = .ok (.iload_n 1, 1) := by decide +kernel
theorem kdX5_same_40 : decode prog_8_method_13_code 40 = .ok (.iaload, 1) := by decide +kernel
theorem kdX5_same_41 : decode prog_8_method_13_code 41 = .ok (.aload_n 0, 1) := by decide +kernel
theorem kdX5_same_42 : decode prog_8_method_13_code 42 = .ok (.getfield 18, 3) := by decide +kernel
theorem kdX5_same_45 : decode prog_8_method_13_code 45 = .ok (.iload_n 2, 1) := by decide +kernel
theorem kdX5_same_46 : decode prog_8_method_13_code 46 = .ok (.iaload, 1) := by decide +kernel
theorem kdX5_same_47 : decode prog_8_method_13_code 47 = .ok (.if_icmp .eq 5, 3) := by decide +kernel
theorem kdX5_same_50 : decode prog_8_method_13_code 50 = .ok (.iconst 0, 1) := by decide +kernel
theorem kdX5_same_51 : decode prog_8_method_13_code 51 = .ok (.ireturn, 1) := by decide +kernel
theorem kdX5_same_52 : decode prog_8_method_13_code 52 = .ok (.iconst 1, 1) := by decide +kernel
theorem kdX5_same_53 : decode prog_8_method_13_code 53 = .ok (.istore_n 3, 1) := by decide +kernel
theorem kdX5_same_54 : decode prog_8_method_13_code 54 = .ok (.iconst 0, 1) := by decide +kernel
theorem kdX5_same_55 : decode prog_8_method_13_code 55 = .ok (.istore 4, 2) := by decide +kernel
theorem kdX5_same_57 : decode prog_8_method_13_code 57 = .ok (.iload 4, 2) := by decide +kernel
theorem kdX5_same_59 : decode prog_8_method_13_code 59 = .ok (.aload_n 0, 1) := by decide +kernel
theorem kdX5_same_60 : decode prog_8_method_13_code 60 = .ok (.getfield 18, 3) := by decide +kernel
theorem kdX5_same_63 : decode prog_8_method_13_code 63 = .ok (.iload_n 1, 1) := by decide +kernel
theorem kdX5_same_64 : decode prog_8_method_13_code 64 = .ok (.iaload, 1) := by decide +kernel
theorem kdX5_same_65 : decode prog_8_method_13_code 65 = .ok (.if_icmp .ge 32, 3) := by decide +kernel
theorem kdX5_same_68 : decode prog_8_method_13_code 68 = .ok (.aload_n 0, 1) := by decide +kernel
theorem kdX5_same_69 : decode prog_8_method_13_code 69 = .ok (.getfield 15, 3) := by decide +kernel
theorem kdX5_same_72 : decode prog_8_method_13_code 72 = .ok (.iload_n 1, 1) := by decide +kernel
theorem kdX5_same_73 : decode prog_8_method_13_code 73 = .ok (.aaload, 1) := by decide +kernel
theorem kdX5_same_74 : decode prog_8_method_13_code 74 = .ok (.iload 4, 2) := by decide +kernel
theorem kdX5_same_76 : decode prog_8_method_13_code 76 = .ok (.baload, 1) := by decide +kernel
theorem kdX5_same_77 : decode prog_8_method_13_code 77 = .ok (.aload_n 0, 1) := by decide +kernel
theorem kdX5_same_78 : decode prog_8_method_13_code 78 = .ok (.getfield 15, 3) := by decide +kernel
theorem kdX5_same_81 : decode prog_8_method_13_code 81 = .ok (.iload_n 2, 1) := by decide +kernel
theorem kdX5_same_82 : decode prog_8_method_13_code 82 = .ok (.aaload, 1) := by decide +kernel
theorem kdX5_same_83 : decode prog_8_method_13_code 83 = .ok (.iload 4, 2) := by decide +kernel
theorem kdX5_same_85 : decode prog_8_method_13_code 85 = .ok (.baload, 1) := by decide +kernel
theorem kdX5_same_86 : decode prog_8_method_13_code 86 = .ok (.if_icmp .eq 5, 3) := by decide +kernel
theorem kdX5_same_89 : decode prog_8_method_13_code 89 = .ok (.iconst 0, 1) := by decide +kernel
theorem kdX5_same_90 : decode prog_8_method_13_code 90 = .ok (.istore_n 3, 1) := by decide +kernel
theorem kdX5_same_91 : decode prog_8_method_13_code 91 = .ok (.iinc 4 1, 3) := by decide +kernel
theorem kdX5_same_94 : decode prog_8_method_13_code 94 = .ok (.goto (-37), 3) := by decide +kernel
theorem kdX5_same_97 : decode prog_8_method_13_code 97 = .ok (.iload_n 3, 1) := by decide +kernel
theorem kdX5_same_98 : decode prog_8_method_13_code 98 = .ok (.ireturn, 1) := by decide +kernel
theorem kdX5_move_0 : decode prog_8_method_14_code 0 = .ok (.iconst 0, 1) := by decide +kernel
theorem kdX5_move_1 : decode prog_8_method_14_code 1 = .ok (.istore 5, 2) := by decide +kernel
theorem kdX5_move_3 : decode prog_8_method_14_code 3 = .ok (.iload 5, 2) := by decide +kernel
theorem kdX5_move_5 : decode prog_8_method_14_code 5 = .ok (.iload 4, 2) := by decide +kernel
theorem kdX5_move_7 : decode prog_8_method_14_code 7 = .ok (.if_icmp .ge 21, 3) := by decide +kernel
theorem kdX5_move_10 : decode prog_8_method_14_code 10 = .ok (.aload_n 2, 1) := by decide +kernel
theorem kdX5_move_11 : decode prog_8_method_14_code 11 = .ok (.iload_n 3, 1) := by decide +kernel
theorem kdX5_move_12 : decode prog_8_method_14_code 12 = .ok (.iload 5, 2) := by decide +kernel
theorem kdX5_move_14 : decode prog_8_method_14_code 14 = .ok (.iadd, 1) := by decide +kernel
theorem kdX5_move_15 : decode prog_8_method_14_code 15 = .ok (.aload_n 0, 1) := by decide +kernel
theorem kdX5_move_16 : decode prog_8_method_14_code 16 = .ok (.iload_n 1, 1) := by decide +kernel
theorem kdX5_move_17 : decode prog_8_method_14_code 17 = .ok (.iload 5, 2) := by decide +kernel
theorem kdX5_move_19 : decode prog_8_method_14_code 19 = .ok (.iadd, 1) := by decide +kernel
theorem kdX5_move_20 : decode prog_8_method_14_code 20 = .ok (.baload, 1) := by decide +kernel
theorem kdX5_move_21 : decode prog_8_method_14_code 21 = .ok (.bastore, 1) := by decide +kernel
theorem kdX5_move_22 : decode prog_8_method_14_code 22 = .ok (.iinc 5 1, 3) := by decide +kernel
theorem kdX5_move_25 : decode prog_8_method_14_code 25 = .ok (.goto (-22), 3) := by decide +kernel
theorem kdX5_move_28 : decode prog_8_method_14_code 28 = .ok (.return_, 1) := by decide +kernel
theorem kdX5_alike_0 : decode prog_8_method_15_code 0 = .ok (.iconst 1, 1) := by decide +kernel
theorem kdX5_alike_1 : decode prog_8_method_15_code 1 = .ok (.istore 5, 2) := by decide +kernel
theorem kdX5_alike_3 : decode prog_8_method_15_code 3 = .ok (.iconst 0, 1) := by decide +kernel
theorem kdX5_alike_4 : decode prog_8_method_15_code 4 = .ok (.istore 6, 2) := by decide +kernel
theorem kdX5_alike_6 : decode prog_8_method_15_code 6 = .ok (.iload 6, 2) := by decide +kernel
theorem kdX5_alike_8 : decode prog_8_method_15_code 8 = .ok (.iload 4, 2) := by decide +kernel
theorem kdX5_alike_10 : decode prog_8_method_15_code 10 = .ok (.if_icmp .ge 27, 3) := by decide +kernel
theorem kdX5_alike_13 : decode prog_8_method_15_code 13 = .ok (.aload_n 0, 1) := by decide +kernel
theorem kdX5_alike_14 : decode prog_8_method_15_code 14 = .ok (.iload_n 1, 1) := by decide +kernel
theorem kdX5_alike_15 : decode prog_8_method_15_code 15 = .ok (.iload 6, 2) := by decide +kernel
theorem kdX5_alike_17 : decode prog_8_method_15_code 17 = .ok (.iadd, 1) := by decide +kernel
theorem kdX5_alike_18 : decode prog_8_method_15_code 18 = .ok (.baload, 1) := by decide +kernel
theorem kdX5_alike_19 : decode prog_8_method_15_code 19 = .ok (.aload_n 2, 1) := by decide +kernel
theorem kdX5_alike_20 : decode prog_8_method_15_code 20 = .ok (.iload_n 3, 1) := by decide +kernel
theorem kdX5_alike_21 : decode prog_8_method_15_code 21 = .ok (.iload 6, 2) := by decide +kernel
theorem kdX5_alike_23 : decode prog_8_method_15_code 23 = .ok (.iadd, 1) := by decide +kernel
theorem kdX5_alike_24 : decode prog_8_method_15_code 24 = .ok (.baload, 1) := by decide +kernel
theorem kdX5_alike_25 : decode prog_8_method_15_code 25 = .ok (.if_icmp .eq 6, 3) := by decide +kernel
theorem kdX5_alike_28 : decode prog_8_method_15_code 28 = .ok (.iconst 0, 1) := by decide +kernel
theorem kdX5_alike_29 : decode prog_8_method_15_code 29 = .ok (.istore 5, 2) := by decide +kernel
theorem kdX5_alike_31 : decode prog_8_method_15_code 31 = .ok (.iinc 6 1, 3) := by decide +kernel
theorem kdX5_alike_34 : decode prog_8_method_15_code 34 = .ok (.goto (-28), 3) := by decide +kernel
theorem kdX5_alike_37 : decode prog_8_method_15_code 37 = .ok (.iload 5, 2) := by decide +kernel
theorem kdX5_alike_39 : decode prog_8_method_15_code 39 = .ok (.ireturn, 1) := by decide +kernel
theorem kdX5_prime_0 : decode prog_8_method_16_code 0 = .ok (.iconst 2, 1) := by decide +kernel
theorem kdX5_prime_1 : decode prog_8_method_16_code 1 = .ok (.istore_n 1, 1) := by decide +kernel
theorem kdX5_prime_2 : decode prog_8_method_16_code 2 = .ok (.iload_n 1, 1) := by decide +kernel
theorem kdX5_prime_3 : decode prog_8_method_16_code 3 = .ok (.iload_n 1, 1) := by decide +kernel
theorem kdX5_prime_4 : decode prog_8_method_16_code 4 = .ok (.imul, 1) := by decide +kernel
theorem kdX5_prime_5 : decode prog_8_method_16_code 5 = .ok (.iload_n 0, 1) := by decide +kernel
theorem kdX5_prime_6 : decode prog_8_method_16_code 6 = .ok (.if_icmp .gt 17, 3) := by decide +kernel
theorem kdX5_prime_9 : decode prog_8_method_16_code 9 = .ok (.iload_n 0, 1) := by decide +kernel
theorem kdX5_prime_10 : decode prog_8_method_16_code 10 = .ok (.iload_n 1, 1) := by decide +kernel
theorem kdX5_prime_11 : decode prog_8_method_16_code 11 = .ok (.irem, 1) := by decide +kernel
theorem kdX5_prime_12 : decode prog_8_method_16_code 12 = .ok (.ifCond .ne 5, 3) := by decide +kernel
theorem kdX5_prime_15 : decode prog_8_method_16_code 15 = .ok (.iconst 0, 1) := by decide +kernel
theorem kdX5_prime_16 : decode prog_8_method_16_code 16 = .ok (.ireturn, 1) := by decide +kernel
theorem kdX5_prime_17 : decode prog_8_method_16_code 17 = .ok (.iinc 1 1, 3) := by decide +kernel
theorem kdX5_prime_20 : decode prog_8_method_16_code 20 = .ok (.goto (-18), 3) := by decide +kernel
theorem kdX5_prime_23 : decode prog_8_method_16_code 23 = .ok (.iconst 1, 1) := by decide +kernel
theorem kdX5_prime_24 : decode prog_8_method_16_code 24 = .ok (.ireturn, 1) := by decide +kernel
theorem kdX5_above_0 : decode prog_8_method_17_code 0 = .ok (.iconst 0, 1) := by decide +kernel
theorem kdX5_above_1 : decode prog_8_method_17_code 1 = .ok (.istore 6, 2) := by decide +kernel
theorem kdX5_above_3 : decode prog_8_method_17_code 3 = .ok (.iload 6, 2) := by decide +kernel
theorem kdX5_above_5 : decode prog_8_method_17_code 5 = .ok (.bipush 16, 2) := by decide +kernel
theorem kdX5_above_7 : decode prog_8_method_17_code 7 = .ok (.if_icmp .ge 26, 3) := by decide +kernel
theorem kdX5_above_10 : decode prog_8_method_17_code 10 = .ok (.aload_n 0, 1) := by decide +kernel
theorem kdX5_above_11 : decode prog_8_method_17_code 11 = .ok (.getfield 38, 3) := by decide +kernel
theorem kdX5_above_14 : decode prog_8_method_17_code 14 = .ok (.iload 6, 2) := by decide +kernel
theorem kdX5_above_16 : decode prog_8_method_17_code 16 = .ok (.iload 6, 2) := by decide +kernel
theorem kdX5_above_18 : decode prog_8_method_17_code 18 = .ok (.ifCond .ne 7, 3) := by decide +kernel
theorem kdX5_above_21 : decode prog_8_method_17_code 21 = .ok (.lconst 1, 1) := by decide +kernel
theorem kdX5_above_22 : decode prog_8_method_17_code 22 = .ok (.goto 4, 3) := by decide +kernel
theorem kdX5_above_25 : decode prog_8_method_17_code 25 = .ok (.lconst 0, 1) := by decide +kernel
theorem kdX5_above_26 : decode prog_8_method_17_code 26 = .ok (.lastore, 1) := by decide +kernel
theorem kdX5_above_27 : decode prog_8_method_17_code 27 = .ok (.iinc 6 1, 3) := by decide +kernel
theorem kdX5_above_30 : decode prog_8_method_17_code 30 = .ok (.goto (-27), 3) := by decide +kernel
theorem kdX5_above_33 : decode prog_8_method_17_code 33 = .ok (.iconst 0, 1) := by decide +kernel
theorem kdX5_above_34 : decode prog_8_method_17_code 34 = .ok (.istore 6, 2) := by decide +kernel
theorem kdX5_above_36 : decode prog_8_method_17_code 36 = .ok (.iload 6, 2) := by decide +kernel
theorem kdX5_above_38 : decode prog_8_method_17_code 38 = .ok (.iload 4, 2) := by decide +kernel
theorem kdX5_above_40 : decode prog_8_method_17_code 40 = .ok (.if_icmp .ge 168, 3) := by decide +kernel
theorem kdX5_above_43 : decode prog_8_method_17_code 43 = .ok (.iconst 0, 1) := by decide +kernel
theorem kdX5_above_44 : decode prog_8_method_17_code 44 = .ok (.istore 7, 2) := by decide +kernel
theorem kdX5_above_46 : decode prog_8_method_17_code 46 = .ok (.iload 7, 2) := by decide +kernel
theorem kdX5_above_48 : decode prog_8_method_17_code 48 = .ok (.bipush 16, 2) := by decide +kernel
theorem kdX5_above_50 : decode prog_8_method_17_code 50 = .ok (.if_icmp .ge 17, 3) := by decide +kernel
theorem kdX5_above_53 : decode prog_8_method_17_code 53 = .ok (.aload_n 0, 1) := by decide +kernel
theorem kdX5_above_54 : decode prog_8_method_17_code 54 = .ok (.getfield 35, 3) := by decide +kernel
theorem kdX5_above_57 : decode prog_8_method_17_code 57 = .ok (.iload 7, 2) := by decide +kernel
theorem kdX5_above_59 : decode prog_8_method_17_code 59 = .ok (.lconst 0, 1) := by decide +kernel
theorem kdX5_above_60 : decode prog_8_method_17_code 60 = .ok (.lastore, 1) := by decide +kernel
theorem kdX5_above_61 : decode prog_8_method_17_code 61 = .ok (.iinc 7 1, 3) := by decide +kernel
theorem kdX5_above_64 : decode prog_8_method_17_code 64 = .ok (.goto (-18), 3) := by decide +kernel
theorem kdX5_above_67 : decode prog_8_method_17_code 67 = .ok (.iconst 0, 1) := by decide +kernel
theorem kdX5_above_68 : decode prog_8_method_17_code 68 = .ok (.istore 7, 2) := by decide +kernel
theorem kdX5_above_70 : decode prog_8_method_17_code 70 = .ok (.iload 7, 2) := by decide +kernel
theorem kdX5_above_72 : decode prog_8_method_17_code 72 = .ok (.bipush 16, 2) := by decide +kernel
theorem kdX5_above_74 : decode prog_8_method_17_code 74 = .ok (.if_icmp .ge 77, 3) := by decide +kernel
theorem kdX5_above_77 : decode prog_8_method_17_code 77 = .ok (.iconst 0, 1) := by decide +kernel
theorem kdX5_above_78 : decode prog_8_method_17_code 78 = .ok (.istore 8, 2) := by decide +kernel
theorem kdX5_above_80 : decode prog_8_method_17_code 80 = .ok (.iload 8, 2) := by decide +kernel
theorem kdX5_above_82 : decode prog_8_method_17_code 82 = .ok (.iconst 5, 1) := by decide +kernel
theorem kdX5_above_83 : decode prog_8_method_17_code 83 = .ok (.if_icmp .ge 62, 3) := by decide +kernel
theorem kdX5_above_86 : decode prog_8_method_17_code 86 = .ok (.iload 7, 2) := by decide +kernel
theorem kdX5_above_88 : decode prog_8_method_17_code 88 = .ok (.iload 8, 2) := by decide +kernel
theorem kdX5_above_90 : decode prog_8_method_17_code 90 = .ok (.iadd, 1) := by decide +kernel
theorem kdX5_above_91 : decode prog_8_method_17_code 91 = .ok (.bipush 16, 2) := by decide +kernel
theorem kdX5_above_93 : decode prog_8_method_17_code 93 = .ok (.if_icmp .ge 52, 3) := by decide +kernel
theorem kdX5_above_96 : decode prog_8_method_17_code 96 = .ok (.aload_n 0, 1) := by decide +kernel
theorem kdX5_above_97 : decode prog_8_method_17_code 97 = .ok (.getfield 35, 3) := by decide +kernel
theorem kdX5_above_100 : decode prog_8_method_17_code 100 = .ok (.iload 7, 2) := by decide +kernel
theorem kdX5_above_102 : decode prog_8_method_17_code 102 = .ok (.iload 8, 2) := by decide +kernel
theorem kdX5_above_104 : decode prog_8_method_17_code 104 = .ok (.iadd, 1) := by decide +kernel
theorem kdX5_above_105 : decode prog_8_method_17_code 105 = .ok (.dup2, 1) := by decide +kernel
theorem kdX5_above_106 : decode prog_8_method_17_code 106 = .ok (.laload, 1) := by decide +kernel
theorem kdX5_above_107 : decode prog_8_method_17_code 107 = .ok (.aload_n 0, 1) := by decide +kernel
theorem kdX5_above_108 : decode prog_8_method_17_code 108 = .ok (.getfield 38, 3) := by decide +kernel
theorem kdX5_above_111 : decode prog_8_method_17_code 111 = .ok (.iload 7, 2) := by decide +kernel
theorem kdX5_above_113 : decode prog_8_method_17_code 113 = .ok (.laload, 1) := by decide +kernel
theorem kdX5_above_114 : decode prog_8_method_17_code 114 = .ok (.iload 8, 2) := by decide +kernel
theorem kdX5_above_116 : decode prog_8_method_17_code 116 = .ok (.iconst 4, 1) := by decide +kernel
theorem kdX5_above_117 : decode prog_8_method_17_code 117 = .ok (.if_icmp .ge 17, 3) := by decide +kernel
theorem kdX5_above_120 : decode prog_8_method_17_code 120 = .ok (.lload_n 2, 1) := by decide +kernel
theorem kdX5_above_121 : decode prog_8_method_17_code 121 = .ok (.bipush 16, 2) := by decide +kernel
theorem kdX5_above_123 : decode prog_8_method_17_code 123 = .ok (.iload 8, 2) := by decide +kernel
theorem kdX5_above_125 : decode prog_8_method_17_code 125 = .ok (.imul, 1) := by decide +kernel
theorem kdX5_above_126 : decode prog_8_method_17_code 126 = .ok (.lushr, 1) := by decide +kernel
theorem kdX5_above_127 : decode prog_8_method_17_code 127 = .ok (.ldc2_w 112, 3) := by decide +kernel
theorem kdX5_above_130 : decode prog_8_method_17_code 130 = .ok (.land, 1) := by decide +kernel
theorem kdX5_above_131 : decode prog_8_method_17_code 131 = .ok (.goto 5, 3) := by decide +kernel
theorem kdX5_above_134 : decode prog_8_method_17_code 134 = .ok (.iload_n 1, 1) := by decide +kernel
theorem kdX5_above_135 : decode prog_8_method_17_code 135 = .ok (.i2l, 1) := by decide +kernel
theorem kdX5_above_136 : decode prog_8_method_17_code 136 = .ok (.lmul, 1) := by decide +kernel
theorem kdX5_above_137 : decode prog_8_method_17_code 137 = .ok (.ladd, 1) := by decide +kernel
theorem kdX5_above_138 : decode prog_8_method_17_code 138 = .ok (.lastore, 1) := by decide +kernel
theorem kdX5_above_139 : decode prog_8_method_17_code 139 = .ok (.iinc 8 1, 3) := by decide +kernel
theorem kdX5_above_142 : decode prog_8_method_17_code 142 = .ok (.goto (-62), 3) := by decide +kernel
theorem kdX5_above_145 : decode prog_8_method_17_code 145 = .ok (.iinc 7 1, 3) := by decide +kernel
theorem kdX5_above_148 : decode prog_8_method_17_code 148 = .ok (.goto (-78), 3) := by decide +kernel
theorem kdX5_above_151 : decode prog_8_method_17_code 151 = .ok (.lconst 0, 1) := by decide +kernel
theorem kdX5_above_152 : decode prog_8_method_17_code 152 = .ok (.lstore 7, 2) := by decide +kernel
theorem kdX5_above_154 : decode prog_8_method_17_code 154 = .ok (.iconst 0, 1) := by decide +kernel
theorem kdX5_above_155 : decode prog_8_method_17_code 155 = .ok (.istore 9, 2) := by decide +kernel
theorem kdX5_above_157 : decode prog_8_method_17_code 157 = .ok (.iload 9, 2) := by decide +kernel
theorem kdX5_above_159 : decode prog_8_method_17_code 159 = .ok (.bipush 16, 2) := by decide +kernel
theorem kdX5_above_161 : decode prog_8_method_17_code 161 = .ok (.if_icmp .ge 41, 3) := by decide +kernel
theorem kdX5_above_164 : decode prog_8_method_17_code 164 = .ok (.lload 7, 2) := by decide +kernel
theorem kdX5_above_166 : decode prog_8_method_17_code 166 = .ok (.aload_n 0, 1) := by decide +kernel
theorem kdX5_above_167 : decode prog_8_method_17_code 167 = .ok (.getfield 35, 3) := by decide +kernel
theorem kdX5_above_170 : decode prog_8_method_17_code 170 = .ok (.iload 9, 2) := by decide +kernel
theorem kdX5_above_172 : decode prog_8_method_17_code 172 = .ok (.laload, 1) := by decide +kernel
theorem kdX5_above_173 : decode prog_8_method_17_code 173 = .ok (.ladd, 1) := by decide +kernel
theorem kdX5_above_174 : decode prog_8_method_17_code 174 = .ok (.lstore 7, 2) := by decide +kernel
theorem kdX5_above_176 : decode prog_8_method_17_code 176 = .ok (.aload_n 0, 1) := by decide +kernel
theorem kdX5_above_177 : decode prog_8_method_17_code 177 = .ok (.getfield 38, 3) := by decide +kernel
theorem kdX5_above_180 : decode prog_8_method_17_code 180 = .ok (.iload 9, 2) := by decide +kernel
theorem kdX5_above_182 : decode prog_8_method_17_code 182 = .ok (.lload 7, 2) := by decide +kernel
theorem kdX5_above_184 : decode prog_8_method_17_code 184 = .ok (.ldc2_w 112, 3) := by decide +kernel
theorem kdX5_above_187 : decode prog_8_method_17_code 187 = .ok (.land, 1) := by decide +kernel
theorem kdX5_above_188 : decode prog_8_method_17_code 188 = .ok (.lastore, 1) := by decide +kernel
theorem kdX5_above_189 : decode prog_8_method_17_code 189 = .ok (.lload 7, 2) := by decide +kernel
theorem kdX5_above_191 : decode prog_8_method_17_code 191 = .ok (.bipush 16, 2) := by decide +kernel
theorem kdX5_above_193 : decode prog_8_method_17_code 193 = .ok (.lushr, 1) := by decide +kernel
theorem kdX5_above_194 : decode prog_8_method_17_code 194 = .ok (.lstore 7, 2) := by decide +kernel
theorem kdX5_above_196 : decode prog_8_method_17_code 196 = .ok (.iinc 9 1, 3) := by decide +kernel
theorem kdX5_above_199 : decode prog_8_method_17_code 199 = .ok (.goto (-42), 3) := by decide +kernel
theorem kdX5_above_202 : decode prog_8_method_17_code 202 = .ok (.iinc 6 1, 3) := by decide +kernel
theorem kdX5_above_205 : decode prog_8_method_17_code 205 = .ok (.goto (-169), 3) := by decide +kernel
theorem kdX5_above_208 : decode prog_8_method_17_code 208 = .ok (.aload_n 0, 1) := by decide +kernel
theorem kdX5_above_209 : decode prog_8_method_17_code 209 = .ok (.getfield 38, 3) := by decide +kernel
theorem kdX5_above_212 : decode prog_8_method_17_code 212 = .ok (.iconst 4, 1) := by decide +kernel
theorem kdX5_above_213 : decode prog_8_method_17_code 213 = .ok (.iload 4, 2) := by decide +kernel
theorem kdX5_above_215 : decode prog_8_method_17_code 215 = .ok (.imul, 1) := by decide +kernel
theorem kdX5_above_216 : decode prog_8_method_17_code 216 = .ok (.laload, 1) := by decide +kernel
theorem kdX5_above_217 : decode prog_8_method_17_code 217 = .ok (.aload_n 0, 1) := by decide +kernel
theorem kdX5_above_218 : decode prog_8_method_17_code 218 = .ok (.getfield 38, 3) := by decide +kernel
theorem kdX5_above_221 : decode prog_8_method_17_code 221 = .ok (.iconst 4, 1) := by decide +kernel
theorem kdX5_above_222 : decode prog_8_method_17_code 222 = .ok (.iload 4, 2) := by decide +kernel
theorem kdX5_above_224 : decode prog_8_method_17_code 224 = .ok (.imul, 1) := by decide +kernel
theorem kdX5_above_225 : decode prog_8_method_17_code 225 = .ok (.iconst 1, 1) := by decide +kernel
theorem kdX5_above_226 : decode prog_8_method_17_code 226 = .ok (.iadd, 1) := by decide +kernel
theorem kdX5_above_227 : decode prog_8_method_17_code 227 = .ok (.laload, 1) := by decide +kernel
theorem kdX5_above_228 : decode prog_8_method_17_code 228 = .ok (.bipush 16, 2) := by decide +kernel
theorem kdX5_above_230 : decode prog_8_method_17_code 230 = .ok (.lshl, 1) := by decide +kernel
theorem kdX5_above_231 : decode prog_8_method_17_code 231 = .ok (.ladd, 1) := by decide +kernel
theorem kdX5_above_232 : decode prog_8_method_17_code 232 = .ok (.lstore 6, 2) := by decide +kernel
theorem kdX5_above_234 : decode prog_8_method_17_code 234 = .ok (.iconst 0, 1) := by decide +kernel
theorem kdX5_above_235 : decode prog_8_method_17_code 235 = .ok (.istore 8, 2) := by decide +kernel
theorem kdX5_above_237 : decode prog_8_method_17_code 237 = .ok (.iconst 0, 1) := by decide +kernel
theorem kdX5_above_238 : decode prog_8_method_17_code 238 = .ok (.istore 9, 2) := by decide +kernel
theorem kdX5_above_240 : decode prog_8_method_17_code 240 = .ok (.iload 9, 2) := by decide +kernel
theorem kdX5_above_242 : decode prog_8_method_17_code 242 = .ok (.iconst 4, 1) := by decide +kernel
theorem kdX5_above_243 : decode prog_8_method_17_code 243 = .ok (.iload 4, 2) := by decide +kernel
theorem kdX5_above_245 : decode prog_8_method_17_code 245 = .ok (.imul, 1) := by decide +kernel
theorem kdX5_above_246 : decode prog_8_method_17_code 246 = .ok (.if_icmp .ge 24, 3) := by decide +kernel
theorem kdX5_above_249 : decode prog_8_method_17_code 249 = .ok (.aload_n 0, 1) := by decide +kernel
theorem kdX5_above_250 : decode prog_8_method_17_code 250 = .ok (.getfield 38, 3) := by decide +kernel
theorem kdX5_above_253 : decode prog_8_method_17_code 253 = .ok (.iload 9, 2) := by decide +kernel
theorem kdX5_above_255 : decode prog_8_method_17_code 255 = .ok (.laload, 1) := by decide +kernel
theorem kdX5_above_256 : decode prog_8_method_17_code 256 = .ok (.lconst 0, 1) := by decide +kernel
theorem kdX5_above_257 : decode prog_8_method_17_code 257 = .ok (.lcmp, 1) := by decide +kernel
theorem kdX5_above_258 : decode prog_8_method_17_code 258 = .ok (.ifCond .eq 6, 3) := by decide +kernel
theorem kdX5_above_261 : decode prog_8_method_17_code 261 = .ok (.iconst 1, 1) := by decide +kernel
theorem kdX5_above_262 : decode prog_8_method_17_code 262 = .ok (.istore 8, 2) := by decide +kernel
theorem kdX5_above_264 : decode prog_8_method_17_code 264 = .ok (.iinc 9 1, 3) := by decide +kernel
theorem kdX5_above_267 : decode prog_8_method_17_code 267 = .ok (.goto (-27), 3) := by decide +kernel
theorem kdX5_above_270 : decode prog_8_method_17_code 270 = .ok (.lload 6, 2) := by decide +kernel
theorem kdX5_above_272 : decode prog_8_method_17_code 272 = .ok (.iload 5, 2) := by decide +kernel
theorem kdX5_above_274 : decode prog_8_method_17_code 274 = .ok (.i2l, 1) := by decide +kernel
theorem kdX5_above_275 : decode prog_8_method_17_code 275 = .ok (.lcmp, 1) := by decide +kernel
theorem kdX5_above_276 : decode prog_8_method_17_code 276 = .ok (.ifCond .gt 17, 3) := by decide +kernel
theorem kdX5_above_279 : decode prog_8_method_17_code 279 = .ok (.lload 6, 2) := by decide +kernel
theorem kdX5_above_281 : decode prog_8_method_17_code 281 = .ok (.iload 5, 2) := by decide +kernel
theorem kdX5_above_283 : decode prog_8_method_17_code 283 = .ok (.i2l, 1) := by decide +kernel
theorem kdX5_above_284 : decode prog_8_method_17_code 284 = .ok (.lcmp, 1) := by decide +kernel
theorem kdX5_above_285 : decode prog_8_method_17_code 285 = .ok (.ifCond .ne 12, 3) := by decide +kernel
theorem kdX5_above_288 : decode prog_8_method_17_code 288 = .ok (.iload 8, 2) := by decide +kernel
theorem kdX5_above_290 : decode prog_8_method_17_code 290 = .ok (.ifCond .eq 7, 3) := by decide +kernel
theorem kdX5_above_293 : decode prog_8_method_17_code 293 = .ok (.iconst 1, 1) := by decide +kernel
theorem kdX5_above_294 : decode prog_8_method_17_code 294 = .ok (.goto 4, 3) := by decide +kernel
theorem kdX5_above_297 : decode prog_8_method_17_code 297 = .ok (.iconst 0, 1) := by decide +kernel
theorem kdX5_above_298 : decode prog_8_method_17_code 298 = .ok (.ireturn, 1) := by decide +kernel
theorem kdX5_root_0 : decode prog_8_method_18_code 0 = .ok (.iconst 1, 1) := by decide +kernel
theorem kdX5_root_1 : decode prog_8_method_18_code 1 = .ok (.istore_n 3, 1) := by decide +kernel
theorem kdX5_root_2 : decode prog_8_method_18_code 2 = .ok (.aload_n 0, 1) := by decide +kernel
theorem kdX5_root_3 : decode prog_8_method_18_code 3 = .ok (.iload_n 3, 1) := by decide +kernel
theorem kdX5_root_4 : decode prog_8_method_18_code 4 = .ok (.iconst 1, 1) := by decide +kernel
theorem kdX5_root_5 : decode prog_8_method_18_code 5 = .ok (.iadd, 1) := by decide +kernel
theorem kdX5_root_6 : decode prog_8_method_18_code 6 = .ok (.lconst 0, 1) := by decide +kernel
theorem kdX5_root_7 : decode prog_8_method_18_code 7 = .ok (.iload_n 2, 1) := by decide +kernel
theorem kdX5_root_8 : decode prog_8_method_18_code 8 = .ok (.iload_n 1, 1) := by decide +kernel
theorem kdX5_root_9 : decode prog_8_method_18_code 9 = .ok (.invokevirtual 114, 3) := by decide +kernel
theorem kdX5_root_12 : decode prog_8_method_18_code 12 = .ok (.ifCond .ne 9, 3) := by decide +kernel
theorem kdX5_root_15 : decode prog_8_method_18_code 15 = .ok (.iinc 3 1, 3) := by decide +kernel
theorem kdX5_root_18 : decode prog_8_method_18_code 18 = .ok (.goto (-16), 3) := by decide +kernel
theorem kdX5_root_21 : decode prog_8_method_18_code 21 = .ok (.lconst 0, 1) := by decide +kernel
theorem kdX5_root_22 : decode prog_8_method_18_code 22 = .ok (.lstore 4, 2) := by decide +kernel
theorem kdX5_root_24 : decode prog_8_method_18_code 24 = .ok (.bipush 63, 2) := by decide +kernel
theorem kdX5_root_26 : decode prog_8_method_18_code 26 = .ok (.istore 6, 2) := by decide +kernel
theorem kdX5_root_28 : decode prog_8_method_18_code 28 = .ok (.iload 6, 2) := by decide +kernel
theorem kdX5_root_30 : decode prog_8_method_18_code 30 = .ok (.ifCond .lt 35, 3) := by decide +kernel
theorem kdX5_root_33 : decode prog_8_method_18_code 33 = .ok (.aload_n 0, 1) := by decide +kernel
theorem kdX5_root_34 : decode prog_8_method_18_code 34 = .ok (.iload_n 3, 1) := by decide +kernel
theorem kdX5_root_35 : decode prog_8_method_18_code 35 = .ok (.lload 4, 2) := by decide +kernel
theorem kdX5_root_37 : decode prog_8_method_18_code 37 = .ok (.lconst 1, 1) := by decide +kernel
theorem kdX5_root_38 : decode prog_8_method_18_code 38 = .ok (.iload 6, 2) := by decide +kernel
theorem kdX5_root_40 : decode prog_8_method_18_code 40 = .ok (.lshl, 1) := by decide +kernel
theorem kdX5_root_41 : decode prog_8_method_18_code 41 = .ok (.lor, 1) := by decide +kernel
theorem kdX5_root_42 : decode prog_8_method_18_code 42 = .ok (.iload_n 2, 1) := by decide +kernel
theorem kdX5_root_43 : decode prog_8_method_18_code 43 = .ok (.iload_n 1, 1) := by decide +kernel
theorem kdX5_root_44 : decode prog_8_method_18_code 44 = .ok (.invokevirtual 114, 3) := by decide +kernel
theorem kdX5_root_47 : decode prog_8_method_18_code 47 = .ok (.ifCond .ne 12, 3) := by decide +kernel
theorem kdX5_root_50 : decode prog_8_method_18_code 50 = .ok (.lload 4, 2) := by decide +kernel
theorem kdX5_root_52 : decode prog_8_method_18_code 52 = .ok (.lconst 1, 1) := by decide +kernel
theorem kdX5_root_53 : decode prog_8_method_18_code 53 = .ok (.iload 6, 2) := by decide +kernel
theorem kdX5_root_55 : decode prog_8_method_18_code 55 = .ok (.lshl, 1) := by decide +kernel
theorem kdX5_root_56 : decode prog_8_method_18_code 56 = .ok (.lor, 1) := by decide +kernel
theorem kdX5_root_57 : decode prog_8_method_18_code 57 = .ok (.lstore 4, 2) := by decide +kernel
theorem kdX5_root_59 : decode prog_8_method_18_code 59 = .ok (.iinc 6 (-1), 3) := by decide +kernel
theorem kdX5_root_62 : decode prog_8_method_18_code 62 = .ok (.goto (-34), 3) := by decide +kernel
theorem kdX5_root_65 : decode prog_8_method_18_code 65 = .ok (.lload 4, 2) := by decide +kernel
theorem kdX5_root_67 : decode prog_8_method_18_code 67 = .ok (.lreturn, 1) := by decide +kernel
theorem kdX5_constants_0 : decode prog_8_method_19_code 0 = .ok (.iconst 0, 1) := by decide +kernel
theorem kdX5_constants_1 : decode prog_8_method_19_code 1 = .ok (.istore_n 1, 1) := by decide +kernel
theorem kdX5_constants_2 : decode prog_8_method_19_code 2 = .ok (.iconst 2, 1) := by decide +kernel
theorem kdX5_constants_3 : decode prog_8_method_19_code 3 = .ok (.istore_n 2, 1) := by decide +kernel
theorem kdX5_constants_4 : decode prog_8_method_19_code 4 = .ok (.iload_n 1, 1) := by decide +kernel
theorem kdX5_constants_5 : decode prog_8_method_19_code 5 = .ok (.bipush 80, 2) := by decide +kernel
theorem kdX5_constants_7 : decode prog_8_method_19_code 7 = .ok (.if_icmp .ge 52, 3) := by decide +kernel
theorem kdX5_constants_10 : decode prog_8_method_19_code 10 = .ok (.iload_n 2, 1) := by decide +kernel
theorem kdX5_constants_11 : decode prog_8_method_19_code 11 = .ok (.invokestatic 118, 3) := by decide +kernel
theorem kdX5_constants_14 : decode prog_8_method_19_code 14 = .ok (.ifCond .ne 6, 3) := by decide +kernel
theorem kdX5_constants_17 : decode prog_8_method_19_code 17 = .ok (.goto 36, 3) := by decide +kernel
theorem kdX5_constants_20 : decode prog_8_method_19_code 20 = .ok (.iload_n 1, 1) := by decide +kernel
theorem kdX5_constants_21 : decode prog_8_method_19_code 21 = .ok (.bipush 16, 2) := by decide +kernel
theorem kdX5_constants_23 : decode prog_8_method_19_code 23 = .ok (.if_icmp .ge 15, 3) := by decide +kernel
theorem kdX5_constants_26 : decode prog_8_method_19_code 26 = .ok (.aload_n 0, 1) := by decide +kernel
theorem kdX5_constants_27 : decode prog_8_method_19_code 27 = .ok (.getfield 22, 3) := by decide +kernel
theorem kdX5_constants_30 : decode prog_8_method_19_code 30 = .ok (.iload_n 1, 1) := by decide +kernel
theorem kdX5_constants_31 : decode prog_8_method_19_code 31 = .ok (.aload_n 0, 1) := by decide +kernel
theorem kdX5_constants_32 : decode prog_8_method_19_code 32 = .ok (.iload_n 2, 1) := by decide +kernel
theorem kdX5_constants_33 : decode prog_8_method_19_code 33 = .ok (.iconst 2, 1) := by decide +kernel
theorem kdX5_constants_34 : decode prog_8_method_19_code 34 = .ok (.invokevirtual 122, 3) := by decide +kernel
theorem kdX5_constants_37 : decode prog_8_method_19_code 37 = .ok (.lastore, 1) := by decide +kernel
theorem kdX5_constants_38 : decode prog_8_method_19_code 38 = .ok (.aload_n 0, 1) := by decide +kernel
theorem kdX5_constants_39 : decode prog_8_method_19_code 39 = .ok (.getfield 26, 3) := by decide +kernel
theorem kdX5_constants_42 : decode prog_8_method_19_code 42 = .ok (.iload_n 1, 1) := by decide +kernel
theorem kdX5_constants_43 : decode prog_8_method_19_code 43 = .ok (.aload_n 0, 1) := by decide +kernel
theorem kdX5_constants_44 : decode prog_8_method_19_code 44 = .ok (.iload_n 2, 1) := by decide +kernel
theorem kdX5_constants_45 : decode prog_8_method_19_code 45 = .ok (.iconst 3, 1) := by decide +kernel
theorem kdX5_constants_46 : decode prog_8_method_19_code 46 = .ok (.invokevirtual 122, 3) := by decide +kernel
theorem kdX5_constants_49 : decode prog_8_method_19_code 49 = .ok (.lastore, 1) := by decide +kernel
theorem kdX5_constants_50 : decode prog_8_method_19_code 50 = .ok (.iinc 1 1, 3) := by decide +kernel
theorem kdX5_constants_53 : decode prog_8_method_19_code 53 = .ok (.iinc 2 1, 3) := by decide +kernel
theorem kdX5_constants_56 : decode prog_8_method_19_code 56 = .ok (.goto (-52), 3) := by decide +kernel
theorem kdX5_constants_59 : decode prog_8_method_19_code 59 = .ok (.iconst 1, 1) := by decide +kernel
theorem kdX5_constants_60 : decode prog_8_method_19_code 60 = .ok (.istore_n 2, 1) := by decide +kernel
theorem kdX5_constants_61 : decode prog_8_method_19_code 61 = .ok (.iconst 0, 1) := by decide +kernel
theorem kdX5_constants_62 : decode prog_8_method_19_code 62 = .ok (.istore_n 3, 1) := by decide +kernel
theorem kdX5_constants_63 : decode prog_8_method_19_code 63 = .ok (.iconst 0, 1) := by decide +kernel
theorem kdX5_constants_64 : decode prog_8_method_19_code 64 = .ok (.istore 4, 2) := by decide +kernel
theorem kdX5_constants_66 : decode prog_8_method_19_code 66 = .ok (.iload 4, 2) := by decide +kernel
theorem kdX5_constants_68 : decode prog_8_method_19_code 68 = .ok (.bipush 24, 2) := by decide +kernel
theorem kdX5_constants_70 : decode prog_8_method_19_code 70 = .ok (.if_icmp .ge 49, 3) := by decide +kernel
theorem kdX5_constants_73 : decode prog_8_method_19_code 73 = .ok (.aload_n 0, 1) := by decide +kernel
theorem kdX5_constants_74 : decode prog_8_method_19_code 74 = .ok (.getfield 41, 3) := by decide +kernel
theorem kdX5_constants_77 : decode prog_8_method_19_code 77 = .ok (.iload_n 2, 1) := by decide +kernel
theorem kdX5_constants_78 : decode prog_8_method_19_code 78 = .ok (.iconst 5, 1) := by decide +kernel
theorem kdX5_constants_79 : decode prog_8_method_19_code 79 = .ok (.iload_n 3, 1) := by decide +kernel
theorem kdX5_constants_80 : decode prog_8_method_19_code 80 = .ok (.imul, 1) := by decide +kernel
theorem kdX5_constants_81 : decode prog_8_method_19_code 81 = .ok (.iadd, 1) := by decide +kernel
theorem kdX5_constants_82 : decode prog_8_method_19_code 82 = .ok (.iload 4, 2) := by decide +kernel
theorem kdX5_constants_84 : decode prog_8_method_19_code 84 = .ok (.iconst 1, 1) := by decide +kernel
theorem kdX5_constants_85 : decode prog_8_method_19_code 85 = .ok (.iadd, 1) := by decide +kernel
theorem kdX5_constants_86 : decode prog_8_method_19_code 86 = .ok (.iload 4, 2) := by decide +kernel
theorem kdX5_constants_88 : decode prog_8_method_19_code 88 = .ok (.iconst 2, 1) := by decide +kernel
theorem kdX5_constants_89 : decode prog_8_method_19_code 89 = .ok (.iadd, 1) := by decide +kernel
theorem kdX5_constants_90 : decode prog_8_method_19_code 90 = .ok (.imul, 1) := by decide +kernel
theorem kdX5_constants_91 : decode prog_8_method_19_code 91 = .ok (.iconst 2, 1) := by decide +kernel
theorem kdX5_constants_92 : decode prog_8_method_19_code 92 = .ok (.idiv, 1) := by decide +kernel
theorem kdX5_constants_93 : decode prog_8_method_19_code 93 = .ok (.bipush 64, 2) := by decide +kernel
theorem kdX5_constants_95 : decode prog_8_method_19_code 95 = .ok (.irem, 1) := by decide +kernel
theorem kdX5_constants_96 : decode prog_8_method_19_code 96 = .ok (.iastore, 1) := by decide +kernel
theorem kdX5_constants_97 : decode prog_8_method_19_code 97 = .ok (.iconst 2, 1) := by decide +kernel
theorem kdX5_constants_98 : decode prog_8_method_19_code 98 = .ok (.iload_n 2, 1) := by decide +kernel
theorem kdX5_constants_99 : decode prog_8_method_19_code 99 = .ok (.imul, 1) := by decide +kernel
theorem kdX5_constants_100 : decode prog_8_method_19_code 100 = .ok (.iconst 3, 1) := by decide +kernel
theorem kdX5_constants_101 : decode prog_8_method_19_code 101 = .ok (.iload_n 3, 1) := by decide +kernel
theorem kdX5_constants_102 : decode prog_8_method_19_code 102 = .ok (.imul, 1) := by decide +kernel
theorem kdX5_constants_103 : decode prog_8_method_19_code 103 = .ok (.iadd, 1) := by decide +kernel
theorem kdX5_constants_104 : decode prog_8_method_19_code 104 = .ok (.iconst 5, 1) := by decide +kernel
theorem kdX5_constants_105 : decode prog_8_method_19_code 105 = .ok (.irem, 1) := by decide +kernel
theorem kdX5_constants_106 : decode prog_8_method_19_code 106 = .ok (.istore 5, 2) := by decide +kernel
theorem kdX5_constants_108 : decode prog_8_method_19_code 108 = .ok (.iload_n 3, 1) := by decide +kernel
theorem kdX5_constants_109 : decode prog_8_method_19_code 109 = .ok (.istore_n 2, 1) := by decide +kernel
theorem kdX5_constants_110 : decode prog_8_method_19_code 110 = .ok (.iload 5, 2) := by decide +kernel
theorem kdX5_constants_112 : decode prog_8_method_19_code 112 = .ok (.istore_n 3, 1) := by decide +kernel
theorem kdX5_constants_113 : decode prog_8_method_19_code 113 = .ok (.iinc 4 1, 3) := by decide +kernel
theorem kdX5_constants_116 : decode prog_8_method_19_code 116 = .ok (.goto (-50), 3) := by decide +kernel
theorem kdX5_constants_119 : decode prog_8_method_19_code 119 = .ok (.iconst 0, 1) := by decide +kernel
theorem kdX5_constants_120 : decode prog_8_method_19_code 120 = .ok (.istore 4, 2) := by decide +kernel
theorem kdX5_constants_122 : decode prog_8_method_19_code 122 = .ok (.iload 4, 2) := by decide +kernel
theorem kdX5_constants_124 : decode prog_8_method_19_code 124 = .ok (.bipush 24, 2) := by decide +kernel
theorem kdX5_constants_126 : decode prog_8_method_19_code 126 = .ok (.if_icmp .ge 58, 3) := by decide +kernel
theorem kdX5_constants_129 : decode prog_8_method_19_code 129 = .ok (.iconst 0, 1) := by decide +kernel
theorem kdX5_constants_130 : decode prog_8_method_19_code 130 = .ok (.istore 5, 2) := by decide +kernel
theorem kdX5_constants_132 : decode prog_8_method_19_code 132 = .ok (.iload 5, 2) := by decide +kernel
theorem kdX5_constants_134 : decode prog_8_method_19_code 134 = .ok (.bipush 6, 2) := by decide +kernel
theorem kdX5_constants_136 : decode prog_8_method_19_code 136 = .ok (.if_icmp .gt 42, 3) := by decide +kernel
theorem kdX5_constants_139 : decode prog_8_method_19_code 139 = .ok (.iload 5, 2) := by decide +kernel
theorem kdX5_constants_141 : decode prog_8_method_19_code 141 = .ok (.bipush 7, 2) := by decide +kernel
theorem kdX5_constants_143 : decode prog_8_method_19_code 143 = .ok (.iload 4, 2) := by decide +kernel
theorem kdX5_constants_145 : decode prog_8_method_19_code 145 = .ok (.imul, 1) := by decide +kernel
theorem kdX5_constants_146 : decode prog_8_method_19_code 146 = .ok (.iadd, 1) := by decide +kernel
theorem kdX5_constants_147 : decode prog_8_method_19_code 147 = .ok (.invokestatic 126, 3) := by decide +kernel
theorem kdX5_constants_150 : decode prog_8_method_19_code 150 = .ok (.iconst 1, 1) := by decide +kernel
theorem kdX5_constants_151 : decode prog_8_method_19_code 151 = .ok (.if_icmp .ne 21, 3) := by decide +kernel
theorem kdX5_constants_154 : decode prog_8_method_19_code 154 = .ok (.aload_n 0, 1) := by decide +kernel
theorem kdX5_constants_155 : decode prog_8_method_19_code 155 = .ok (.getfield 44, 3) := by decide +kernel
theorem kdX5_constants_158 : decode prog_8_method_19_code 158 = .ok (.iload 4, 2) := by decide +kernel
theorem kdX5_constants_160 : decode prog_8_method_19_code 160 = .ok (.dup2, 1) := by decide +kernel
theorem kdX5_constants_161 : decode prog_8_method_19_code 161 = .ok (.laload, 1) := by decide +kernel
theorem kdX5_constants_162 : decode prog_8_method_19_code 162 = .ok (.lconst 1, 1) := by decide +kernel
theorem kdX5_constants_163 : decode prog_8_method_19_code 163 = .ok (.iconst 1, 1) := by decide +kernel
theorem kdX5_constants_164 : decode prog_8_method_19_code 164 = .ok (.iload 5, 2) := by decide +kernel
theorem kdX5_constants_166 : decode prog_8_method_19_code 166 = .ok (.ishl, 1) := by decide +kernel
theorem kdX5_constants_167 : decode prog_8_method_19_code 167 = .ok (.iconst 1, 1) := by decide +kernel
theorem kdX5_constants_168 : decode prog_8_method_19_code 168 = .ok (.isub, 1) := by decide +kernel
theorem kdX5_constants_169 : decode prog_8_method_19_code 169 = .ok (.lshl, 1) := by decide +kernel
theorem kdX5_constants_170 : decode prog_8_method_19_code 170 = .ok (.lor, 1) := by decide +kernel
theorem kdX5_constants_171 : decode prog_8_method_19_code 171 = .ok (.lastore, 1) := by decide +kernel
theorem kdX5_constants_172 : decode prog_8_method_19_code 172 = .ok (.iinc 5 1, 3) := by decide +kernel
theorem kdX5_constants_175 : decode prog_8_method_19_code 175 = .ok (.goto (-43), 3) := by decide +kernel
theorem kdX5_constants_178 : decode prog_8_method_19_code 178 = .ok (.iinc 4 1, 3) := by decide +kernel
theorem kdX5_constants_181 : decode prog_8_method_19_code 181 = .ok (.goto (-59), 3) := by decide +kernel
theorem kdX5_constants_184 : decode prog_8_method_19_code 184 = .ok (.aload_n 0, 1) := by decide +kernel
theorem kdX5_constants_185 : decode prog_8_method_19_code 185 = .ok (.aload_n 0, 1) := by decide +kernel
theorem kdX5_constants_186 : decode prog_8_method_19_code 186 = .ok (.getfield 29, 3) := by decide +kernel
theorem kdX5_constants_189 : decode prog_8_method_19_code 189 = .ok (.bipush 50, 2) := by decide +kernel
theorem kdX5_constants_191 : decode prog_8_method_19_code 191 = .ok (.bipush 52, 2) := by decide +kernel
theorem kdX5_constants_193 : decode prog_8_method_19_code 193 = .ok (.invokevirtual 130, 3) := by decide +kernel
theorem kdX5_constants_196 : decode prog_8_method_19_code 196 = .ok (.aload_n 0, 1) := by decide +kernel
theorem kdX5_constants_197 : decode prog_8_method_19_code 197 = .ok (.aload_n 0, 1) := by decide +kernel
theorem kdX5_constants_198 : decode prog_8_method_19_code 198 = .ok (.getfield 32, 3) := by decide +kernel
theorem kdX5_constants_201 : decode prog_8_method_19_code 201 = .ok (.bipush 53, 2) := by decide +kernel
theorem kdX5_constants_203 : decode prog_8_method_19_code 203 = .ok (.bipush 54, 2) := by decide +kernel
theorem kdX5_constants_205 : decode prog_8_method_19_code 205 = .ok (.invokevirtual 130, 3) := by decide +kernel
theorem kdX5_constants_208 : decode prog_8_method_19_code 208 = .ok (.return_, 1) := by decide +kernel
theorem kdX5_bit_0 : decode prog_8_method_20_code 0 = .ok (.iconst 1, 1) := by decide +kernel
theorem kdX5_bit_1 : decode prog_8_method_20_code 1 = .ok (.istore_n 1, 1) := by decide +kernel
theorem kdX5_bit_2 : decode prog_8_method_20_code 2 = .ok (.iconst 0, 1) := by decide +kernel
theorem kdX5_bit_3 : decode prog_8_method_20_code 3 = .ok (.istore_n 2, 1) := by decide +kernel
theorem kdX5_bit_4 : decode prog_8_method_20_code 4 = .ok (.iload_n 2, 1) := by decide +kernel
theorem kdX5_bit_5 : decode prog_8_method_20_code 5 = .ok (.iload_n 0, 1) := by decide +kernel
theorem kdX5_bit_6 : decode prog_8_method_20_code 6 = .ok (.sipush 255, 3) := by decide +kernel
theorem kdX5_bit_9 : decode prog_8_method_20_code 9 = .ok (.irem, 1) := by decide +kernel
theorem kdX5_bit_10 : decode prog_8_method_20_code 10 = .ok (.if_icmp .ge 33, 3) := by decide +kernel
theorem kdX5_bit_13 : decode prog_8_method_20_code 13 = .ok (.iload_n 1, 1) := by decide +kernel
theorem kdX5_bit_14 : decode prog_8_method_20_code 14 = .ok (.sipush 128, 3) := by decide +kernel
theorem kdX5_bit_17 : decode prog_8_method_20_code 17 = .ok (.if_icmp .ge 9, 3) := by decide +kernel
theorem kdX5_bit_20 : decode prog_8_method_20_code 20 = .ok (.iconst 2, 1) := by decide +kernel
theorem kdX5_bit_21 : decode prog_8_method_20_code 21 = .ok (.iload_n 1, 1) := by decide +kernel
theorem kdX5_bit_22 : decode prog_8_method_20_code 22 = .ok (.imul, 1) := by decide +kernel
theorem kdX5_bit_23 : decode prog_8_method_20_code 23 = .ok (.goto 13, 3) := by decide +kernel
theorem kdX5_bit_26 : decode prog_8_method_20_code 26 = .ok (.iconst 2, 1) := by decide +kernel
theorem kdX5_bit_27 : decode prog_8_method_20_code 27 = .ok (.iload_n 1, 1) := by decide +kernel
theorem kdX5_bit_28 : decode prog_8_method_20_code 28 = .ok (.imul, 1) := by decide +kernel
theorem kdX5_bit_29 : decode prog_8_method_20_code 29 = .ok (.sipush 255, 3) := by decide +kernel
theorem kdX5_bit_32 : decode prog_8_method_20_code 32 = .ok (.iand, 1) := by decide +kernel
theorem kdX5_bit_33 : decode prog_8_method_20_code 33 = .ok (.bipush 113, 2) := by decide +kernel
theorem kdX5_bit_35 : decode prog_8_method_20_code 35 = .ok (.ixor, 1) := by decide +kernel
theorem kdX5_bit_36 : decode prog_8_method_20_code 36 = .ok (.istore_n 1, 1) := by decide +kernel
theorem kdX5_bit_37 : decode prog_8_method_20_code 37 = .ok (.iinc 2 1, 3) := by decide +kernel
theorem kdX5_bit_40 : decode prog_8_method_20_code 40 = .ok (.goto (-36), 3) := by decide +kernel
theorem kdX5_bit_43 : decode prog_8_method_20_code 43 = .ok (.iload_n 1, 1) := by decide +kernel
theorem kdX5_bit_44 : decode prog_8_method_20_code 44 = .ok (.iconst 1, 1) := by decide +kernel
theorem kdX5_bit_45 : decode prog_8_method_20_code 45 = .ok (.iand, 1) := by decide +kernel
theorem kdX5_bit_46 : decode prog_8_method_20_code 46 = .ok (.ireturn, 1) := by decide +kernel
theorem kdX5_named_0 : decode prog_8_method_21_code 0 = .ok (.aload_n 0, 1) := by decide +kernel
theorem kdX5_named_1 : decode prog_8_method_21_code 1 = .ok (.iconst 3, 1) := by decide +kernel
theorem kdX5_named_2 : decode prog_8_method_21_code 2 = .ok (.invokevirtual 134, 3) := by decide +kernel
theorem kdX5_named_5 : decode prog_8_method_21_code 5 = .ok (.iconst 0, 1) := by decide +kernel
theorem kdX5_named_6 : decode prog_8_method_21_code 6 = .ok (.istore 4, 2) := by decide +kernel
theorem kdX5_named_8 : decode prog_8_method_21_code 8 = .ok (.iload 4, 2) := by decide +kernel
theorem kdX5_named_10 : decode prog_8_method_21_code 10 = .ok (.bipush 8, 2) := by decide +kernel
theorem kdX5_named_12 : decode prog_8_method_21_code 12 = .ok (.if_icmp .ge 22, 3) := by decide +kernel
theorem kdX5_named_15 : decode prog_8_method_21_code 15 = .ok (.aload_n 0, 1) := by decide +kernel
theorem kdX5_named_16 : decode prog_8_method_21_code 16 = .ok (.getfield 47, 3) := by decide +kernel
theorem kdX5_named_19 : decode prog_8_method_21_code 19 = .ok (.iload 4, 2) := by decide +kernel
theorem kdX5_named_21 : decode prog_8_method_21_code 21 = .ok (.dup2, 1) := by decide +kernel
theorem kdX5_named_22 : decode prog_8_method_21_code 22 = .ok (.laload, 1) := by decide +kernel
theorem kdX5_named_23 : decode prog_8_method_21_code 23 = .ok (.ldc2_w 137, 3) := by decide +kernel
theorem kdX5_named_26 : decode prog_8_method_21_code 26 = .ok (.lxor, 1) := by decide +kernel
theorem kdX5_named_27 : decode prog_8_method_21_code 27 = .ok (.lastore, 1) := by decide +kernel
theorem kdX5_named_28 : decode prog_8_method_21_code 28 = .ok (.iinc 4 1, 3) := by decide +kernel
theorem kdX5_named_31 : decode prog_8_method_21_code 31 = .ok (.goto (-23), 3) := by decide +kernel
theorem kdX5_named_34 : decode prog_8_method_21_code 34 = .ok (.aload_n 0, 1) := by decide +kernel
theorem kdX5_named_35 : decode prog_8_method_21_code 35 = .ok (.bipush 83, 2) := by decide +kernel
theorem kdX5_named_37 : decode prog_8_method_21_code 37 = .ok (.invokevirtual 139, 3) := by decide +kernel
theorem kdX5_named_40 : decode prog_8_method_21_code 40 = .ok (.aload_n 0, 1) := by decide +kernel
theorem kdX5_named_41 : decode prog_8_method_21_code 41 = .ok (.bipush 72, 2) := by decide +kernel
theorem kdX5_named_43 : decode prog_8_method_21_code 43 = .ok (.invokevirtual 139, 3) := by decide +kernel
theorem kdX5_named_46 : decode prog_8_method_21_code 46 = .ok (.aload_n 0, 1) := by decide +kernel
theorem kdX5_named_47 : decode prog_8_method_21_code 47 = .ok (.bipush 65, 2) := by decide +kernel
theorem kdX5_named_49 : decode prog_8_method_21_code 49 = .ok (.invokevirtual 139, 3) := by decide +kernel
theorem kdX5_named_52 : decode prog_8_method_21_code 52 = .ok (.aload_n 0, 1) := by decide +kernel
theorem kdX5_named_53 : decode prog_8_method_21_code 53 = .ok (.bipush 45, 2) := by decide +kernel
theorem kdX5_named_55 : decode prog_8_method_21_code 55 = .ok (.invokevirtual 139, 3) := by decide +kernel
theorem kdX5_named_58 : decode prog_8_method_21_code 58 = .ok (.aload_n 0, 1) := by decide +kernel
theorem kdX5_named_59 : decode prog_8_method_21_code 59 = .ok (.bipush 53, 2) := by decide +kernel
theorem kdX5_named_61 : decode prog_8_method_21_code 61 = .ok (.invokevirtual 139, 3) := by decide +kernel
theorem kdX5_named_64 : decode prog_8_method_21_code 64 = .ok (.aload_n 0, 1) := by decide +kernel
theorem kdX5_named_65 : decode prog_8_method_21_code 65 = .ok (.bipush 49, 2) := by decide +kernel
theorem kdX5_named_67 : decode prog_8_method_21_code 67 = .ok (.invokevirtual 139, 3) := by decide +kernel
theorem kdX5_named_70 : decode prog_8_method_21_code 70 = .ok (.aload_n 0, 1) := by decide +kernel
theorem kdX5_named_71 : decode prog_8_method_21_code 71 = .ok (.bipush 50, 2) := by decide +kernel
theorem kdX5_named_73 : decode prog_8_method_21_code 73 = .ok (.invokevirtual 139, 3) := by decide +kernel
theorem kdX5_named_76 : decode prog_8_method_21_code 76 = .ok (.aload_n 0, 1) := by decide +kernel
theorem kdX5_named_77 : decode prog_8_method_21_code 77 = .ok (.bipush 47, 2) := by decide +kernel
theorem kdX5_named_79 : decode prog_8_method_21_code 79 = .ok (.invokevirtual 139, 3) := by decide +kernel
theorem kdX5_named_82 : decode prog_8_method_21_code 82 = .ok (.aload_n 0, 1) := by decide +kernel
theorem kdX5_named_83 : decode prog_8_method_21_code 83 = .ok (.bipush 50, 2) := by decide +kernel
theorem kdX5_named_85 : decode prog_8_method_21_code 85 = .ok (.invokevirtual 139, 3) := by decide +kernel
theorem kdX5_named_88 : decode prog_8_method_21_code 88 = .ok (.aload_n 0, 1) := by decide +kernel
theorem kdX5_named_89 : decode prog_8_method_21_code 89 = .ok (.iload_n 2, 1) := by decide +kernel
theorem kdX5_named_90 : decode prog_8_method_21_code 90 = .ok (.invokevirtual 139, 3) := by decide +kernel
theorem kdX5_named_93 : decode prog_8_method_21_code 93 = .ok (.aload_n 0, 1) := by decide +kernel
theorem kdX5_named_94 : decode prog_8_method_21_code 94 = .ok (.iload_n 3, 1) := by decide +kernel
theorem kdX5_named_95 : decode prog_8_method_21_code 95 = .ok (.invokevirtual 139, 3) := by decide +kernel
theorem kdX5_named_98 : decode prog_8_method_21_code 98 = .ok (.aload_n 0, 1) := by decide +kernel
theorem kdX5_named_99 : decode prog_8_method_21_code 99 = .ok (.invokevirtual 142, 3) := by decide +kernel
theorem kdX5_named_102 : decode prog_8_method_21_code 102 = .ok (.iconst 0, 1) := by decide +kernel
theorem kdX5_named_103 : decode prog_8_method_21_code 103 = .ok (.istore 4, 2) := by decide +kernel
theorem kdX5_named_105 : decode prog_8_method_21_code 105 = .ok (.iload 4, 2) := by decide +kernel
theorem kdX5_named_107 : decode prog_8_method_21_code 107 = .ok (.bipush 8, 2) := by decide +kernel
theorem kdX5_named_109 : decode prog_8_method_21_code 109 = .ok (.if_icmp .ge 20, 3) := by decide +kernel
theorem kdX5_named_112 : decode prog_8_method_21_code 112 = .ok (.aload_n 1, 1) := by decide +kernel
theorem kdX5_named_113 : decode prog_8_method_21_code 113 = .ok (.iload 4, 2) := by decide +kernel
theorem kdX5_named_115 : decode prog_8_method_21_code 115 = .ok (.aload_n 0, 1) := by decide +kernel
theorem kdX5_named_116 : decode prog_8_method_21_code 116 = .ok (.getfield 47, 3) := by decide +kernel
theorem kdX5_named_119 : decode prog_8_method_21_code 119 = .ok (.iload 4, 2) := by decide +kernel
theorem kdX5_named_121 : decode prog_8_method_21_code 121 = .ok (.laload, 1) := by decide +kernel
theorem kdX5_named_122 : decode prog_8_method_21_code 122 = .ok (.lastore, 1) := by decide +kernel
theorem kdX5_named_123 : decode prog_8_method_21_code 123 = .ok (.iinc 4 1, 3) := by decide +kernel
theorem kdX5_named_126 : decode prog_8_method_21_code 126 = .ok (.goto (-21), 3) := by decide +kernel
theorem kdX5_named_129 : decode prog_8_method_21_code 129 = .ok (.return_, 1) := by decide +kernel
theorem kdX5_sponge_0 : decode prog_8_method_22_code 0 = .ok (.aload_n 0, 1) := by decide +kernel
theorem kdX5_sponge_1 : decode prog_8_method_22_code 1 = .ok (.getfield 145, 3) := by decide +kernel
theorem kdX5_sponge_4 : decode prog_8_method_22_code 4 = .ok (.bipush 6, 2) := by decide +kernel
theorem kdX5_sponge_6 : decode prog_8_method_22_code 6 = .ok (.if_icmp .le 7, 3) := by decide +kernel
theorem kdX5_sponge_9 : decode prog_8_method_22_code 9 = .ok (.iconst 1, 1) := by decide +kernel
theorem kdX5_sponge_10 : decode prog_8_method_22_code 10 = .ok (.goto 4, 3) := by decide +kernel
theorem kdX5_sponge_13 : decode prog_8_method_22_code 13 = .ok (.iconst 0, 1) := by decide +kernel
theorem kdX5_sponge_14 : decode prog_8_method_22_code 14 = .ok (.ireturn, 1) := by decide +kernel
theorem kdX5_blockOf_0 : decode prog_8_method_23_code 0 = .ok (.iload_n 0, 1) := by decide +kernel
theorem kdX5_blockOf_1 : decode prog_8_method_23_code 1 = .ok (.iconst 1, 1) := by decide +kernel
theorem kdX5_blockOf_2 : decode prog_8_method_23_code 2 = .ok (.if_icmp .eq 8, 3) := by decide +kernel
theorem kdX5_blockOf_5 : decode prog_8_method_23_code 5 = .ok (.iload_n 0, 1) := by decide +kernel
theorem kdX5_blockOf_6 : decode prog_8_method_23_code 6 = .ok (.iconst 4, 1) := by decide +kernel
theorem kdX5_blockOf_7 : decode prog_8_method_23_code 7 = .ok (.if_icmp .ne 8, 3) := by decide +kernel
theorem kdX5_blockOf_10 : decode prog_8_method_23_code 10 = .ok (.bipush 64, 2) := by decide +kernel
theorem kdX5_blockOf_12 : decode prog_8_method_23_code 12 = .ok (.goto 6, 3) := by decide +kernel
theorem kdX5_blockOf_15 : decode prog_8_method_23_code 15 = .ok (.sipush 128, 3) := by decide +kernel
theorem kdX5_blockOf_18 : decode prog_8_method_23_code 18 = .ok (.ireturn, 1) := by decide +kernel
theorem kdX5_digestOf_0 : decode prog_8_method_24_code 0 = .ok (.iload_n 0, 1) := by decide +kernel
theorem kdX5_digestOf_1 : decode prog_8_method_24_code 1 = .ok (.tableswitch 72 1 12 #[63, 66, 69, 72, 72, 63, 72, 63, 66, 69, 63, 69], 63) := by decide +kernel
theorem kdX5_digestOf_64 : decode prog_8_method_24_code 64 = .ok (.bipush 32, 2) := by decide +kernel
theorem kdX5_digestOf_66 : decode prog_8_method_24_code 66 = .ok (.ireturn, 1) := by decide +kernel
theorem kdX5_digestOf_67 : decode prog_8_method_24_code 67 = .ok (.bipush 48, 2) := by decide +kernel
theorem kdX5_digestOf_69 : decode prog_8_method_24_code 69 = .ok (.ireturn, 1) := by decide +kernel
theorem kdX5_digestOf_70 : decode prog_8_method_24_code 70 = .ok (.bipush 64, 2) := by decide +kernel
theorem kdX5_digestOf_72 : decode prog_8_method_24_code 72 = .ok (.ireturn, 1) := by decide +kernel
theorem kdX5_digestOf_73 : decode prog_8_method_24_code 73 = .ok (.bipush 28, 2) := by decide +kernel
theorem kdX5_digestOf_75 : decode prog_8_method_24_code 75 = .ok (.ireturn, 1) := by decide +kernel
theorem kdX5_begin_0 : decode prog_8_method_25_code 0 = .ok (.aload_n 0, 1) := by decide +kernel
theorem kdX5_begin_1 : decode prog_8_method_25_code 1 = .ok (.iload_n 1, 1) := by decide +kernel
theorem kdX5_begin_2 : decode prog_8_method_25_code 2 = .ok (.putfield 145, 3) := by decide +kernel
theorem kdX5_begin_5 : decode prog_8_method_25_code 5 = .ok (.aload_n 0, 1) := by decide +kernel
theorem kdX5_begin_6 : decode prog_8_method_25_code 6 = .ok (.iconst 0, 1) := by decide +kernel
theorem kdX5_begin_7 : decode prog_8_method_25_code 7 = .ok (.putfield 148, 3) := by decide +kernel
theorem kdX5_begin_10 : decode prog_8_method_25_code 10 = .ok (.aload_n 0, 1) := by decide +kernel
theorem kdX5_begin_11 : decode prog_8_method_25_code 11 = .ok (.lconst 0, 1) := by decide +kernel
theorem kdX5_begin_12 : decode prog_8_method_25_code 12 = .ok (.putfield 151, 3) := by decide +kernel
theorem kdX5_begin_15 : decode prog_8_method_25_code 15 = .ok (.iconst 0, 1) := by decide +kernel
theorem kdX5_begin_16 : decode prog_8_method_25_code 16 = .ok (.istore_n 2, 1) := by decide +kernel
theorem kdX5_begin_17 : decode prog_8_method_25_code 17 = .ok (.iload_n 2, 1) := by decide +kernel
theorem kdX5_begin_18 : decode prog_8_method_25_code 18 = .ok (.bipush 25, 2) := by decide +kernel
theorem kdX5_begin_20 : decode prog_8_method_25_code 20 = .ok (.if_icmp .ge 16, 3) := by decide +kernel
theorem kdX5_begin_23 : decode prog_8_method_25_code 23 = .ok (.aload_n 0, 1) := by decide +kernel
theorem kdX5_begin_24 : decode prog_8_method_25_code 24 = .ok (.getfield 47, 3) := by decide +kernel
theorem kdX5_begin_27 : decode prog_8_method_25_code 27 = .ok (.iload_n 2, 1) := by decide +kernel
theorem kdX5_begin_28 : decode prog_8_method_25_code 28 = .ok (.lconst 0, 1) := by decide +kernel
theorem kdX5_begin_29 : decode prog_8_method_25_code 29 = .ok (.lastore, 1) := by decide +kernel
theorem kdX5_begin_30 : decode prog_8_method_25_code 30 = .ok (.iinc 2 1, 3) := by decide +kernel
theorem kdX5_begin_33 : decode prog_8_method_25_code 33 = .ok (.goto (-16), 3) := by decide +kernel
theorem kdX5_begin_36 : decode prog_8_method_25_code 36 = .ok (.aload_n 0, 1) := by decide +kernel
theorem kdX5_begin_37 : decode prog_8_method_25_code 37 = .ok (.iload_n 1, 1) := by decide +kernel
theorem kdX5_begin_38 : decode prog_8_method_25_code 38 = .ok (.bipush 11, 2) := by decide +kernel
theorem kdX5_begin_40 : decode prog_8_method_25_code 40 = .ok (.if_icmp .ne 9, 3) := by decide +kernel
theorem kdX5_begin_43 : decode prog_8_method_25_code 43 = .ok (.sipush 168, 3) := by decide +kernel
theorem kdX5_begin_46 : decode prog_8_method_25_code 46 = .ok (.goto 38, 3) := by decide +kernel
theorem kdX5_begin_49 : decode prog_8_method_25_code 49 = .ok (.iload_n 1, 1) := by decide +kernel
theorem kdX5_begin_50 : decode prog_8_method_25_code 50 = .ok (.bipush 12, 2) := by decide +kernel
theorem kdX5_begin_52 : decode prog_8_method_25_code 52 = .ok (.if_icmp .ne 9, 3) := by decide +kernel
theorem kdX5_begin_55 : decode prog_8_method_25_code 55 = .ok (.sipush 136, 3) := by decide +kernel
theorem kdX5_begin_58 : decode prog_8_method_25_code 58 = .ok (.goto 26, 3) := by decide +kernel
theorem kdX5_begin_61 : decode prog_8_method_25_code 61 = .ok (.iload_n 1, 1) := by decide +kernel
theorem kdX5_begin_62 : decode prog_8_method_25_code 62 = .ok (.bipush 6, 2) := by decide +kernel
theorem kdX5_begin_64 : decode prog_8_method_25_code 64 = .ok (.if_icmp .le 16, 3) := by decide +kernel
theorem kdX5_begin_67 : decode prog_8_method_25_code 67 = .ok (.sipush 200, 3) := by decide +kernel
theorem kdX5_begin_70 : decode prog_8_method_25_code 70 = .ok (.iconst 2, 1) := by decide +kernel
theorem kdX5_begin_71 : decode prog_8_method_25_code 71 = .ok (.iload_n 1, 1) := by decide +kernel
theorem kdX5_begin_72 : decode prog_8_method_25_code 72 = .ok (.invokestatic 155, 3) := by decide +kernel
theorem kdX5_begin_75 : decode prog_8_method_25_code 75 = .ok (.imul, 1) := by decide +kernel
theorem kdX5_begin_76 : decode prog_8_method_25_code 76 = .ok (.isub, 1) := by decide +kernel
theorem kdX5_begin_77 : decode prog_8_method_25_code 77 = .ok (.goto 7, 3) := by decide +kernel
theorem kdX5_begin_80 : decode prog_8_method_25_code 80 = .ok (.iload_n 1, 1) := by decide +kernel
theorem kdX5_begin_81 : decode prog_8_method_25_code 81 = .ok (.invokestatic 158, 3) := by decide +kernel
theorem kdX5_begin_84 : decode prog_8_method_25_code 84 = .ok (.putfield 161, 3) := by decide +kernel
theorem kdX5_begin_87 : decode prog_8_method_25_code 87 = .ok (.iconst 0, 1) := by decide +kernel
theorem kdX5_begin_88 : decode prog_8_method_25_code 88 = .ok (.istore_n 2, 1) := by decide +kernel
theorem kdX5_begin_89 : decode prog_8_method_25_code 89 = .ok (.iload_n 2, 1) := by decide +kernel
theorem kdX5_begin_90 : decode prog_8_method_25_code 90 = .ok (.bipush 8, 2) := by decide +kernel
theorem kdX5_begin_92 : decode prog_8_method_25_code 92 = .ok (.if_icmp .ge 111, 3) := by decide +kernel
theorem kdX5_begin_95 : decode prog_8_method_25_code 95 = .ok (.iload_n 1, 1) := by decide +kernel
theorem kdX5_begin_96 : decode prog_8_method_25_code 96 = .ok (.bipush 7, 2) := by decide +kernel
theorem kdX5_begin_98 : decode prog_8_method_25_code 98 = .ok (.if_icmp .ge 105, 3) := by decide +kernel
theorem kdX5_begin_101 : decode prog_8_method_25_code 101 = .ok (.aload_n 0, 1) := by decide +kernel
theorem kdX5_begin_102 : decode prog_8_method_25_code 102 = .ok (.getfield 47, 3) := by decide +kernel
theorem kdX5_begin_105 : decode prog_8_method_25_code 105 = .ok (.iload_n 2, 1) := by decide +kernel
theorem kdX5_begin_106 : decode prog_8_method_25_code 106 = .ok (.iload_n 1, 1) := by decide +kernel
theorem kdX5_begin_107 : decode prog_8_method_25_code 107 = .ok (.iconst 1, 1) := by decide +kernel
theorem kdX5_begin_108 : decode prog_8_method_25_code 108 = .ok (.if_icmp .ne 15, 3) := by decide +kernel
theorem kdX5_begin_111 : decode prog_8_method_25_code 111 = .ok (.aload_n 0, 1) := by decide +kernel
theorem kdX5_begin_112 : decode prog_8_method_25_code 112 = .ok (.getfield 22, 3) := by decide +kernel
theorem kdX5_begin_115 : decode prog_8_method_25_code 115 = .ok (.iload_n 2, 1) := by decide +kernel
theorem kdX5_begin_116 : decode prog_8_method_25_code 116 = .ok (.laload, 1) := by decide +kernel
theorem kdX5_begin_117 : decode prog_8_method_25_code 117 = .ok (.bipush 32, 2) := by decide +kernel
theorem kdX5_begin_119 : decode prog_8_method_25_code 119 = .ok (.lushr, 1) := by decide +kernel
theorem kdX5_begin_120 : decode prog_8_method_25_code 120 = .ok (.goto 76, 3) := by decide +kernel
theorem kdX5_begin_123 : decode prog_8_method_25_code 123 = .ok (.iload_n 1, 1) := by decide +kernel
theorem kdX5_begin_124 : decode prog_8_method_25_code 124 = .ok (.iconst 4, 1) := by decide +kernel
theorem kdX5_begin_125 : decode prog_8_method_25_code 125 = .ok (.if_icmp .ne 19, 3) := by decide +kernel
theorem kdX5_begin_128 : decode prog_8_method_25_code 128 = .ok (.aload_n 0, 1) := by decide +kernel
theorem kdX5_begin_129 : decode prog_8_method_25_code 129 = .ok (.getfield 22, 3) := by decide +kernel
theorem kdX5_begin_132 : decode prog_8_method_25_code 132 = .ok (.bipush 8, 2) := by decide +kernel
theorem kdX5_begin_134 : decode prog_8_method_25_code 134 = .ok (.iload_n 2, 1) := by decide +kernel
theorem kdX5_begin_135 : decode prog_8_method_25_code 135 = .ok (.iadd, 1) := by decide +kernel
theorem kdX5_begin_136 : decode prog_8_method_25_code 136 = .ok (.laload, 1) := by decide +kernel
theorem kdX5_begin_137 : decode prog_8_method_25_code 137 = .ok (.ldc2_w 164, 3) := by decide +kernel
theorem kdX5_begin_140 : decode prog_8_method_25_code 140 = .ok (.land, 1) := by decide +kernel
theorem kdX5_begin_141 : decode prog_8_method_25_code 141 = .ok (.goto 55, 3) := by decide +kernel
theorem kdX5_begin_144 : decode prog_8_method_25_code 144 = .ok (.iload_n 1, 1) := by decide +kernel
theorem kdX5_begin_145 : decode prog_8_method_25_code 145 = .ok (.iconst 2, 1) := by decide +kernel
theorem kdX5_begin_146 : decode prog_8_method_25_code 146 = .ok (.if_icmp .ne 15, 3) := by decide +kernel
theorem kdX5_begin_149 : decode prog_8_method_25_code 149 = .ok (.aload_n 0, 1) := by decide +kernel
theorem kdX5_begin_150 : decode prog_8_method_25_code 150 = .ok (.getfield 22, 3) := by decide +kernel
theorem kdX5_begin_153 : decode prog_8_method_25_code 153 = .ok (.bipush 8, 2) := by decide +kernel
theorem kdX5_begin_155 : decode prog_8_method_25_code 155 = .ok (.iload_n 2, 1) := by decide +kernel
theorem kdX5_begin_156 : decode prog_8_method_25_code 156 = .ok (.iadd, 1) := by decide +kernel
theorem kdX5_begin_157 : decode prog_8_method_25_code 157 = .ok (.laload, 1) := by decide +kernel
theorem kdX5_begin_158 : decode prog_8_method_25_code 158 = .ok (.goto 38, 3) := by decide +kernel
theorem kdX5_begin_161 : decode prog_8_method_25_code 161 = .ok (.iload_n 1, 1) := by decide +kernel
theorem kdX5_begin_162 : decode prog_8_method_25_code 162 = .ok (.iconst 5, 1) := by decide +kernel
theorem kdX5_begin_163 : decode prog_8_method_25_code 163 = .ok (.if_icmp .ne 12, 3) := by decide +kernel
theorem kdX5_begin_166 : decode prog_8_method_25_code 166 = .ok (.aload_n 0, 1) := by decide +kernel
theorem kdX5_begin_167 : decode prog_8_method_25_code 167 = .ok (.getfield 29, 3) := by decide +kernel
theorem kdX5_begin_170 : decode prog_8_method_25_code 170 = .ok (.iload_n 2, 1) := by decide +kernel
theorem kdX5_begin_171 : decode prog_8_method_25_code 171 = .ok (.laload, 1) := by decide +kernel
theorem kdX5_begin_172 : decode prog_8_method_25_code 172 = .ok (.goto 24, 3) := by decide +kernel
theorem kdX5_begin_175 : decode prog_8_method_25_code 175 = .ok (.iload_n 1, 1) := by decide +kernel
theorem kdX5_begin_176 : decode prog_8_method_25_code 176 = .ok (.bipush 6, 2) := by decide +kernel
theorem kdX5_begin_178 : decode prog_8_method_25_code 178 = .ok (.if_icmp .ne 12, 3) := by decide +kernel
theorem kdX5_begin_181 : decode prog_8_method_25_code 181 = .ok (.aload_n 0, 1) := by decide +kernel
theorem kdX5_begin_182 : decode prog_8_method_25_code 182 = .ok (.getfield 32, 3) := by decide +kernel
theorem kdX5_begin_185 : decode prog_8_method_25_code 185 = .ok (.iload_n 2, 1) := by decide +kernel
theorem kdX5_begin_186 : decode prog_8_method_25_code 186 = .ok (.laload, 1) := by decide +kernel
theorem kdX5_begin_187 : decode prog_8_method_25_code 187 = .ok (.goto 9, 3) := by decide +kernel
theorem kdX5_begin_190 : decode prog_8_method_25_code 190 = .ok (.aload_n 0, 1) := by decide +kernel
theorem kdX5_begin_191 : decode prog_8_method_25_code 191 = .ok (.getfield 22, 3) := by decide +kernel
theorem kdX5_begin_194 : decode prog_8_method_25_code 194 = .ok (.iload_n 2, 1) := by decide +kernel
theorem kdX5_begin_195 : decode prog_8_method_25_code 195 = .ok (.laload, 1) := by decide +kernel
theorem kdX5_begin_196 : decode prog_8_method_25_code 196 = .ok (.lastore, 1) := by decide +kernel
theorem kdX5_begin_197 : decode prog_8_method_25_code 197 = .ok (.iinc 2 1, 3) := by decide +kernel
theorem kdX5_begin_200 : decode prog_8_method_25_code 200 = .ok (.goto (-111), 3) := by decide +kernel
theorem kdX5_begin_203 : decode prog_8_method_25_code 203 = .ok (.return_, 1) := by decide +kernel
theorem kdX5_flip_0 : decode prog_8_method_26_code 0 = .ok (.aload_n 0, 1) := by decide +kernel
theorem kdX5_flip_1 : decode prog_8_method_26_code 1 = .ok (.getfield 47, 3) := by decide +kernel
theorem kdX5_flip_4 : decode prog_8_method_26_code 4 = .ok (.iload_n 1, 1) := by decide +kernel
theorem kdX5_flip_5 : decode prog_8_method_26_code 5 = .ok (.bipush 8, 2) := by decide +kernel
theorem kdX5_flip_7 : decode prog_8_method_26_code 7 = .ok (.idiv, 1) := by decide +kernel
theorem kdX5_flip_8 : decode prog_8_method_26_code 8 = .ok (.dup2, 1) := by decide +kernel
theorem kdX5_flip_9 : decode prog_8_method_26_code 9 = .ok (.laload, 1) := by decide +kernel
theorem kdX5_flip_10 : decode prog_8_method_26_code 10 = .ok (.iload_n 2, 1) := by decide +kernel
theorem kdX5_flip_11 : decode prog_8_method_26_code 11 = .ok (.i2l, 1) := by decide +kernel
theorem kdX5_flip_12 : decode prog_8_method_26_code 12 = .ok (.ldc2_w 110, 3) := by decide +kernel
theorem kdX5_flip_15 : decode prog_8_method_26_code 15 = .ok (.land, 1) := by decide +kernel
theorem kdX5_flip_16 : decode prog_8_method_26_code 16 = .ok (.bipush 8, 2) := by decide +kernel
theorem kdX5_flip_18 : decode prog_8_method_26_code 18 = .ok (.iload_n 1, 1) := by decide +kernel
theorem kdX5_flip_19 : decode prog_8_method_26_code 19 = .ok (.bipush 8, 2) := by decide +kernel
theorem kdX5_flip_21 : decode prog_8_method_26_code 21 = .ok (.irem, 1) := by decide +kernel
theorem kdX5_flip_22 : decode prog_8_method_26_code 22 = .ok (.imul, 1) := by decide +kernel
theorem kdX5_flip_23 : decode prog_8_method_26_code 23 = .ok (.lshl, 1) := by decide +kernel
theorem kdX5_flip_24 : decode prog_8_method_26_code 24 = .ok (.lxor, 1) := by decide +kernel
theorem kdX5_flip_25 : decode prog_8_method_26_code 25 = .ok (.lastore, 1) := by decide +kernel
theorem kdX5_flip_26 : decode prog_8_method_26_code 26 = .ok (.return_, 1) := by decide +kernel
theorem kdX5_put_0 : decode prog_8_method_27_code 0 = .ok (.aload_n 0, 1) := by decide +kernel
theorem kdX5_put_1 : decode prog_8_method_27_code 1 = .ok (.invokevirtual 166, 3) := by decide +kernel
theorem kdX5_put_4 : decode prog_8_method_27_code 4 = .ok (.ifCond .eq 15, 3) := by decide +kernel
theorem kdX5_put_7 : decode prog_8_method_27_code 7 = .ok (.aload_n 0, 1) := by decide +kernel
theorem kdX5_put_8 : decode prog_8_method_27_code 8 = .ok (.aload_n 0, 1) := by decide +kernel
theorem kdX5_put_9 : decode prog_8_method_27_code 9 = .ok (.getfield 148, 3) := by decide +kernel
theorem kdX5_put_12 : decode prog_8_method_27_code 12 = .ok (.iload_n 1, 1) := by decide +kernel
theorem kdX5_put_13 : decode prog_8_method_27_code 13 = .ok (.invokevirtual 170, 3) := by decide +kernel
theorem kdX5_put_16 : decode prog_8_method_27_code 16 = .ok (.goto 14, 3) := by decide +kernel
theorem kdX5_put_19 : decode prog_8_method_27_code 19 = .ok (.aload_n 0, 1) := by decide +kernel
theorem kdX5_put_20 : decode prog_8_method_27_code 20 = .ok (.getfield 59, 3) := by decide +kernel
theorem kdX5_put_23 : decode prog_8_method_27_code 23 = .ok (.aload_n 0, 1) := by decide +kernel
theorem kdX5_put_24 : decode prog_8_method_27_code 24 = .ok (.getfield 148, 3) := by decide +kernel
theorem kdX5_put_27 : decode prog_8_method_27_code 27 = .ok (.iload_n 1, 1) := by decide +kernel
theorem kdX5_put_28 : decode prog_8_method_27_code 28 = .ok (.i2b, 1) := by decide +kernel
theorem kdX5_put_29 : decode prog_8_method_27_code 29 = .ok (.bastore, 1) := by decide +kernel
theorem kdX5_put_30 : decode prog_8_method_27_code 30 = .ok (.aload_n 0, 1) := by decide +kernel
theorem kdX5_put_31 : decode prog_8_method_27_code 31 = .ok (.dup, 1) := by decide +kernel
theorem kdX5_put_32 : decode prog_8_method_27_code 32 = .ok (.getfield 148, 3) := by decide +kernel
theorem kdX5_put_35 : decode prog_8_method_27_code 35 = .ok (.iconst 1, 1) := by decide +kernel
theorem kdX5_put_36 : decode prog_8_method_27_code 36 = .ok (.iadd, 1) := by decide +kernel
theorem kdX5_put_37 : decode prog_8_method_27_code 37 = .ok (.putfield 148, 3) := by decide +kernel
theorem kdX5_put_40 : decode prog_8_method_27_code 40 = .ok (.aload_n 0, 1) := by decide +kernel
theorem kdX5_put_41 : decode prog_8_method_27_code 41 = .ok (.dup, 1) := by decide +kernel
theorem kdX5_put_42 : decode prog_8_method_27_code 42 = .ok (.getfield 151, 3) := by decide +kernel
theorem kdX5_put_45 : decode prog_8_method_27_code 45 = .ok (.lconst 1, 1) := by decide +kernel
theorem kdX5_put_46 : decode prog_8_method_27_code 46 = .ok (.ladd, 1) := by decide +kernel
theorem kdX5_put_47 : decode prog_8_method_27_code 47 = .ok (.putfield 151, 3) := by decide +kernel
theorem kdX5_put_50 : decode prog_8_method_27_code 50 = .ok (.aload_n 0, 1) := by decide +kernel
theorem kdX5_put_51 : decode prog_8_method_27_code 51 = .ok (.getfield 148, 3) := by decide +kernel
theorem kdX5_put_54 : decode prog_8_method_27_code 54 = .ok (.aload_n 0, 1) := by decide +kernel
theorem kdX5_put_55 : decode prog_8_method_27_code 55 = .ok (.getfield 161, 3) := by decide +kernel
theorem kdX5_put_58 : decode prog_8_method_27_code 58 = .ok (.if_icmp .ne 42, 3) := by decide +kernel
theorem kdX5_put_61 : decode prog_8_method_27_code 61 = .ok (.aload_n 0, 1) := by decide +kernel
theorem kdX5_put_62 : decode prog_8_method_27_code 62 = .ok (.invokevirtual 166, 3) := by decide +kernel
theorem kdX5_put_65 : decode prog_8_method_27_code 65 = .ok (.ifCond .eq 10, 3) := by decide +kernel
theorem kdX5_put_68 : decode prog_8_method_27_code 68 = .ok (.aload_n 0, 1) := by decide +kernel
theorem kdX5_put_69 : decode prog_8_method_27_code 69 = .ok (.invokevirtual 174, 3) := by decide +kernel
theorem kdX5_put_72 : decode prog_8_method_27_code 72 = .ok (.goto 23, 3) := by decide +kernel
theorem kdX5_put_75 : decode prog_8_method_27_code 75 = .ok (.aload_n 0, 1) := by decide +kernel
theorem kdX5_put_76 : decode prog_8_method_27_code 76 = .ok (.getfield 161, 3) := by decide +kernel
theorem kdX5_put_79 : decode prog_8_method_27_code 79 = .ok (.bipush 64, 2) := by decide +kernel
theorem kdX5_put_81 : decode prog_8_method_27_code 81 = .ok (.if_icmp .ne 10, 3) := by decide +kernel
theorem kdX5_put_84 : decode prog_8_method_27_code 84 = .ok (.aload_n 0, 1) := by decide +kernel
theorem kdX5_put_85 : decode prog_8_method_27_code 85 = .ok (.invokevirtual 177, 3) := by decide +kernel
theorem kdX5_put_88 : decode prog_8_method_27_code 88 = .ok (.goto 7, 3) := by decide +kernel
theorem kdX5_put_91 : decode prog_8_method_27_code 91 = .ok (.aload_n 0, 1) := by decide +kernel
theorem kdX5_put_92 : decode prog_8_method_27_code 92 = .ok (.invokevirtual 180, 3) := by decide +kernel
theorem kdX5_put_95 : decode prog_8_method_27_code 95 = .ok (.aload_n 0, 1) := by decide +kernel
theorem kdX5_put_96 : decode prog_8_method_27_code 96 = .ok (.iconst 0, 1) := by decide +kernel
theorem kdX5_put_97 : decode prog_8_method_27_code 97 = .ok (.putfield 148, 3) := by decide +kernel
theorem kdX5_put_100 : decode prog_8_method_27_code 100 = .ok (.return_, 1) := by decide +kernel
theorem kdX5_put2_0 : decode prog_8_method_28_code 0 = .ok (.iconst 0, 1) := by decide +kernel
theorem kdX5_put2_1 : decode prog_8_method_28_code 1 = .ok (.istore 4, 2) := by decide +kernel
theorem kdX5_put2_3 : decode prog_8_method_28_code 3 = .ok (.iload 4, 2) := by decide +kernel
theorem kdX5_put2_5 : decode prog_8_method_28_code 5 = .ok (.iload_n 3, 1) := by decide +kernel
theorem kdX5_put2_6 : decode prog_8_method_28_code 6 = .ok (.if_icmp .ge 19, 3) := by decide +kernel
theorem kdX5_put2_9 : decode prog_8_method_28_code 9 = .ok (.aload_n 0, 1) := by decide +kernel
theorem kdX5_put2_10 : decode prog_8_method_28_code 10 = .ok (.aload_n 1, 1) := by decide +kernel
theorem kdX5_put2_11 : decode prog_8_method_28_code 11 = .ok (.iload_n 2, 1) := by decide +kernel
theorem kdX5_put2_12 : decode prog_8_method_28_code 12 = .ok (.iload 4, 2) := by decide +kernel
theorem kdX5_put2_14 : decode prog_8_method_28_code 14 = .ok (.iadd, 1) := by decide +kernel
theorem kdX5_put2_15 : decode prog_8_method_28_code 15 = .ok (.baload, 1) := by decide +kernel
theorem kdX5_put2_16 : decode prog_8_method_28_code 16 = .ok (.invokevirtual 139, 3) := by decide +kernel
theorem kdX5_put2_19 : decode prog_8_method_28_code 19 = .ok (.iinc 4 1, 3) := by decide +kernel
theorem kdX5_put2_22 : decode prog_8_method_28_code 22 = .ok (.goto (-19), 3) := by decide +kernel
theorem kdX5_put2_25 : decode prog_8_method_28_code 25 = .ok (.return_, 1) := by decide +kernel
theorem kdX5_permute_0 : decode prog_8_method_29_code 0 = .ok (.iconst 0, 1) := by decide +kernel
theorem kdX5_permute_1 : decode prog_8_method_29_code 1 = .ok (.istore_n 1, 1) := by decide +kernel
theorem kdX5_permute_2 : decode prog_8_method_29_code 2 = .ok (.iload_n 1, 1) := by decide +kernel
theorem kdX5_permute_3 : decode prog_8_method_29_code 3 = .ok (.bipush 24, 2) := by decide +kernel
theorem kdX5_permute_5 : decode prog_8_method_29_code 5 = .ok (.if_icmp .ge 287, 3) := by decide +kernel
theorem kdX5_permute_8 : decode prog_8_method_29_code 8 = .ok (.iconst 0, 1) := by decide +kernel
theorem kdX5_permute_9 : decode prog_8_method_29_code 9 = .ok (.istore_n 2, 1) := by decide +kernel
theorem kdX5_permute_10 : decode prog_8_method_29_code 10 = .ok (.iload_n 2, 1) := by decide +kernel
theorem kdX5_permute_11 : decode prog_8_method_29_code 11 = .ok (.iconst 5, 1) := by decide +kernel
theorem kdX5_permute_12 : decode prog_8_method_29_code 12 = .ok (.if_icmp .ge 48, 3) := by decide +kernel
theorem kdX5_permute_15 : decode prog_8_method_29_code 15 = .ok (.aload_n 0, 1) := by decide +kernel
theorem kdX5_permute_16 : decode prog_8_method_29_code 16 = .ok (.getfield 53, 3) := by decide +kernel
theorem kdX5_permute_19 : decode prog_8_method_29_code 19 = .ok (.iload_n 2, 1) := by decide +kernel
theorem kdX5_permute_20 : decode prog_8_method_29_code 20 = .ok (.lconst 0, 1) := by decide +kernel
theorem kdX5_permute_21 : decode prog_8_method_29_code 21 = .ok (.lastore, 1) := by decide +kernel
theorem kdX5_permute_22 : decode prog_8_method_29_code 22 = .ok (.iconst 0, 1) := by decide +kernel
theorem kdX5_permute_23 : decode prog_8_method_29_code 23 = .ok (.istore_n 3, 1) := by decide +kernel
theorem kdX5_permute_24 : decode prog_8_method_29_code 24 = .ok (.iload_n 3, 1) := by decide +kernel
theorem kdX5_permute_25 : decode prog_8_method_29_code 25 = .ok (.iconst 5, 1) := by decide +kernel
theorem kdX5_permute_26 : decode prog_8_method_29_code 26 = .ok (.if_icmp .ge 28, 3) := by decide +kernel
theorem kdX5_permute_29 : decode prog_8_method_29_code 29 = .ok (.aload_n 0, 1) := by decide +kernel
theorem kdX5_permute_30 : decode prog_8_method_29_code 30 = .ok (.getfield 53, 3) := by decide +kernel
theorem kdX5_permute_33 : decode prog_8_method_29_code 33 = .ok (.iload_n 2, 1) := by decide +kernel
theorem kdX5_permute_34 : decode prog_8_method_29_code 34 = .ok (.dup2, 1) := by decide +kernel
theorem kdX5_permute_35 : decode prog_8_method_29_code 35 = .ok (.laload, 1) := by decide +kernel
theorem kdX5_permute_36 : decode prog_8_method_29_code 36 = .ok (.aload_n 0, 1) := by decide +kernel
theorem kdX5_permute_37 : decode prog_8_method_29_code 37 = .ok (.getfield 47, 3) := by decide +kernel
theorem kdX5_permute_40 : decode prog_8_method_29_code 40 = .ok (.iload_n 2, 1) := by decide +kernel
theorem kdX5_permute_41 : decode prog_8_method_29_code 41 = .ok (.iconst 5, 1) := by decide +kernel
theorem kdX5_permute_42 : decode prog_8_method_29_code 42 = .ok (.iload_n 3, 1) := by decide +kernel
theorem kdX5_permute_43 : decode prog_8_method_29_code 43 = .ok (.imul, 1) := by decide +kernel
theorem kdX5_permute_44 : decode prog_8_method_29_code 44 = .ok (.iadd, 1) := by decide +kernel
theorem kdX5_permute_45 : decode prog_8_method_29_code 45 = .ok (.laload, 1) := by decide +kernel
theorem kdX5_permute_46 : decode prog_8_method_29_code 46 = .ok (.lxor, 1) := by decide +kernel
theorem kdX5_permute_47 : decode prog_8_method_29_code 47 = .ok (.lastore, 1) := by decide +kernel
theorem kdX5_permute_48 : decode prog_8_method_29_code 48 = .ok (.iinc 3 1, 3) := by decide +kernel
theorem kdX5_permute_51 : decode prog_8_method_29_code 51 = .ok (.goto (-27), 3) := by decide +kernel
theorem kdX5_permute_54 : decode prog_8_method_29_code 54 = .ok (.iinc 2 1, 3) := by decide +kernel
theorem kdX5_permute_57 : decode prog_8_method_29_code 57 = .ok (.goto (-47), 3) := by decide +kernel
theorem kdX5_permute_60 : decode prog_8_method_29_code 60 = .ok (.iconst 0, 1) := by decide +kernel
theorem kdX5_permute_61 : decode prog_8_method_29_code 61 = .ok (.istore_n 2, 1) := by decide +kernel
theorem kdX5_permute_62 : decode prog_8_method_29_code 62 = .ok (.iload_n 2, 1) := by decide +kernel
theorem kdX5_permute_63 : decode prog_8_method_29_code 63 = .ok (.iconst 5, 1) := by decide +kernel
theorem kdX5_permute_64 : decode prog_8_method_29_code 64 = .ok (.if_icmp .ge 60, 3) := by decide +kernel
theorem kdX5_permute_67 : decode prog_8_method_29_code 67 = .ok (.iconst 0, 1) := by decide +kernel
theorem kdX5_permute_68 : decode prog_8_method_29_code 68 = .ok (.istore_n 3, 1) := by decide +kernel
theorem kdX5_permute_69 : decode prog_8_method_29_code 69 = .ok (.iload_n 3, 1) := by decide +kernel
theorem kdX5_permute_70 : decode prog_8_method_29_code 70 = .ok (.iconst 5, 1) := by decide +kernel
theorem kdX5_permute_71 : decode prog_8_method_29_code 71 = .ok (.if_icmp .ge 47, 3) := by decide +kernel
theorem kdX5_permute_74 : decode prog_8_method_29_code 74 = .ok (.aload_n 0, 1) := by decide +kernel
theorem kdX5_permute_75 : decode prog_8_method_29_code 75 = .ok (.getfield 47, 3) := by decide +kernel
theorem kdX5_permute_78 : decode prog_8_method_29_code 78 = .ok (.iload_n 2, 1) := by decide +kernel
theorem kdX5_permute_79 : decode prog_8_method_29_code 79 = .ok (.iconst 5, 1) := by decide +kernel
theorem kdX5_permute_80 : decode prog_8_method_29_code 80 = .ok (.iload_n 3, 1) := by decide +kernel
theorem kdX5_permute_81 : decode prog_8_method_29_code 81 = .ok (.imul, 1) := by decide +kernel
theorem kdX5_permute_82 : decode prog_8_method_29_code 82 = .ok (.iadd, 1) := by decide +kernel
theorem kdX5_permute_83 : decode prog_8_method_29_code 83 = .ok (.dup2, 1) := by decide +kernel
theorem kdX5_permute_84 : decode prog_8_method_29_code 84 = .ok (.laload, 1) := by decide +kernel
theorem kdX5_permute_85 : decode prog_8_method_29_code 85 = .ok (.aload_n 0, 1) := by decide +kernel
theorem kdX5_permute_86 : decode prog_8_method_29_code 86 = .ok (.getfield 53, 3) := by decide +kernel
theorem kdX5_permute_89 : decode prog_8_method_29_code 89 = .ok (.iload_n 2, 1) := by decide +kernel
theorem kdX5_permute_90 : decode prog_8_method_29_code 90 = .ok (.iconst 4, 1) := by decide +kernel
theorem kdX5_permute_91 : decode prog_8_method_29_code 91 = .ok (.iadd, 1) := by decide +kernel
theorem kdX5_permute_92 : decode prog_8_method_29_code 92 = .ok (.iconst 5, 1) := by decide +kernel
theorem kdX5_permute_93 : decode prog_8_method_29_code 93 = .ok (.irem, 1) := by decide +kernel
theorem kdX5_permute_94 : decode prog_8_method_29_code 94 = .ok (.laload, 1) := by decide +kernel
theorem kdX5_permute_95 : decode prog_8_method_29_code 95 = .ok (.aload_n 0, 1) := by decide +kernel
theorem kdX5_permute_96 : decode prog_8_method_29_code 96 = .ok (.getfield 53, 3) := by decide +kernel
theorem kdX5_permute_99 : decode prog_8_method_29_code 99 = .ok (.iload_n 2, 1) := by decide +kernel
theorem kdX5_permute_100 : decode prog_8_method_29_code 100 = .ok (.iconst 1, 1) := by decide +kernel
theorem kdX5_permute_101 : decode prog_8_method_29_code 101 = .ok (.iadd, 1) := by decide +kernel
theorem kdX5_permute_102 : decode prog_8_method_29_code 102 = .ok (.iconst 5, 1) := by decide +kernel
theorem kdX5_permute_103 : decode prog_8_method_29_code 103 = .ok (.irem, 1) := by decide +kernel
theorem kdX5_permute_104 : decode prog_8_method_29_code 104 = .ok (.laload, 1) := by decide +kernel
theorem kdX5_permute_105 : decode prog_8_method_29_code 105 = .ok (.iconst 1, 1) := by decide +kernel
theorem kdX5_permute_106 : decode prog_8_method_29_code 106 = .ok (.invokestatic 183, 3) := by decide +kernel
theorem kdX5_permute_109 : decode prog_8_method_29_code 109 = .ok (.lxor, 1) := by decide +kernel
theorem kdX5_permute_110 : decode prog_8_method_29_code 110 = .ok (.lxor, 1) := by decide +kernel
theorem kdX5_permute_111 : decode prog_8_method_29_code 111 = .ok (.lastore, 1) := by decide +kernel
theorem kdX5_permute_112 : decode prog_8_method_29_code 112 = .ok (.iinc 3 1, 3) := by decide +kernel
theorem kdX5_permute_115 : decode prog_8_method_29_code 115 = .ok (.goto (-46), 3) := by decide +kernel
theorem kdX5_permute_118 : decode prog_8_method_29_code 118 = .ok (.iinc 2 1, 3) := by decide +kernel
theorem kdX5_permute_121 : decode prog_8_method_29_code 121 = .ok (.goto (-59), 3) := by decide +kernel
theorem kdX5_permute_124 : decode prog_8_method_29_code 124 = .ok (.iconst 0, 1) := by decide +kernel
theorem kdX5_permute_125 : decode prog_8_method_29_code 125 = .ok (.istore_n 2, 1) := by decide +kernel
theorem kdX5_permute_126 : decode prog_8_method_29_code 126 = .ok (.iload_n 2, 1) := by decide +kernel
theorem kdX5_permute_127 : decode prog_8_method_29_code 127 = .ok (.iconst 5, 1) := by decide +kernel
theorem kdX5_permute_128 : decode prog_8_method_29_code 128 = .ok (.if_icmp .ge 63, 3) := by decide +kernel
theorem kdX5_permute_131 : decode prog_8_method_29_code 131 = .ok (.iconst 0, 1) := by decide +kernel
theorem kdX5_permute_132 : decode prog_8_method_29_code 132 = .ok (.istore_n 3, 1) := by decide +kernel
theorem kdX5_permute_133 : decode prog_8_method_29_code 133 = .ok (.iload_n 3, 1) := by decide +kernel
theorem kdX5_permute_134 : decode prog_8_method_29_code 134 = .ok (.iconst 5, 1) := by decide +kernel
theorem kdX5_permute_135 : decode prog_8_method_29_code 135 = .ok (.if_icmp .ge 50, 3) := by decide +kernel
theorem kdX5_permute_138 : decode prog_8_method_29_code 138 = .ok (.aload_n 0, 1) := by decide +kernel
theorem kdX5_permute_139 : decode prog_8_method_29_code 139 = .ok (.getfield 50, 3) := by decide +kernel
theorem kdX5_permute_142 : decode prog_8_method_29_code 142 = .ok (.iload_n 3, 1) := by decide +kernel
theorem kdX5_permute_143 : decode prog_8_method_29_code 143 = .ok (.iconst 5, 1) := by decide +kernel
theorem kdX5_permute_144 : decode prog_8_method_29_code 144 = .ok (.iconst 2, 1) := by decide +kernel
theorem kdX5_permute_145 : decode prog_8_method_29_code 145 = .ok (.iload_n 2, 1) := by decide +kernel
theorem kdX5_permute_146 : decode prog_8_method_29_code 146 = .ok (.imul, 1) := by decide +kernel
theorem kdX5_permute_147 : decode prog_8_method_29_code 147 = .ok (.iconst 3, 1) := by decide +kernel
theorem kdX5_permute_148 : decode prog_8_method_29_code 148 = .ok (.iload_n 3, 1) := by decide +kernel
theorem kdX5_permute_149 : decode prog_8_method_29_code 149 = .ok (.imul, 1) := by decide +kernel
theorem kdX5_permute_150 : decode prog_8_method_29_code 150 = .ok (.iadd, 1) := by decide +kernel
theorem kdX5_permute_151 : decode prog_8_method_29_code 151 = .ok (.iconst 5, 1) := by decide +kernel
theorem kdX5_permute_152 : decode prog_8_method_29_code 152 = .ok (.irem, 1) := by decide +kernel
theorem kdX5_permute_153 : decode prog_8_method_29_code 153 = .ok (.imul, 1) := by decide +kernel
theorem kdX5_permute_154 : decode prog_8_method_29_code 154 = .ok (.iadd, 1) := by decide +kernel
theorem kdX5_permute_155 : decode prog_8_method_29_code 155 = .ok (.aload_n 0, 1) := by decide +kernel
theorem kdX5_permute_156 : decode prog_8_method_29_code 156 = .ok (.getfield 47, 3) := by decide +kernel
theorem kdX5_permute_159 : decode prog_8_method_29_code 159 = .ok (.iload_n 2, 1) := by decide +kernel
theorem kdX5_permute_160 : decode prog_8_method_29_code 160 = .ok (.iconst 5, 1) := by decide +kernel
theorem kdX5_permute_161 : decode prog_8_method_29_code 161 = .ok (.iload_n 3, 1) := by decide +kernel
theorem kdX5_permute_162 : decode prog_8_method_29_code 162 = .ok (.imul, 1) := by decide +kernel
theorem kdX5_permute_163 : decode prog_8_method_29_code 163 = .ok (.iadd, 1) := by decide +kernel
theorem kdX5_permute_164 : decode prog_8_method_29_code 164 = .ok (.laload, 1) := by decide +kernel
theorem kdX5_permute_165 : decode prog_8_method_29_code 165 = .ok (.aload_n 0, 1) := by decide +kernel
theorem kdX5_permute_166 : decode prog_8_method_29_code 166 = .ok (.getfield 41, 3) := by decide +kernel
theorem kdX5_permute_169 : decode prog_8_method_29_code 169 = .ok (.iload_n 2, 1) := by decide +kernel
theorem kdX5_permute_170 : decode prog_8_method_29_code 170 = .ok (.iconst 5, 1) := by decide +kernel
theorem kdX5_permute_171 : decode prog_8_method_29_code 171 = .ok (.iload_n 3, 1) := by decide +kernel
theorem kdX5_permute_172 : decode prog_8_method_29_code 172 = .ok (.imul, 1) := by decide +kernel
theorem kdX5_permute_173 : decode prog_8_method_29_code 173 = .ok (.iadd, 1) := by decide +kernel
theorem kdX5_permute_174 : decode prog_8_method_29_code 174 = .ok (.iaload, 1) := by decide +kernel
theorem kdX5_permute_175 : decode prog_8_method_29_code 175 = .ok (.invokestatic 183, 3) := by decide +kernel
theorem kdX5_permute_178 : decode prog_8_method_29_code 178 = .ok (.lastore, 1) := by decide +kernel
theorem kdX5_permute_179 : decode prog_8_method_29_code 179 = .ok (.iinc 3 1, 3) := by decide +kernel
theorem kdX5_permute_182 : decode prog_8_method_29_code 182 = .ok (.goto (-49), 3) := by decide +kernel
theorem kdX5_permute_185 : decode prog_8_method_29_code 185 = .ok (.iinc 2 1, 3) := by decide +kernel
theorem kdX5_permute_188 : decode prog_8_method_29_code 188 = .ok (.goto (-62), 3) := by decide +kernel
theorem kdX5_permute_191 : decode prog_8_method_29_code 191 = .ok (.iconst 0, 1) := by decide +kernel
theorem kdX5_permute_192 : decode prog_8_method_29_code 192 = .ok (.istore_n 2, 1) := by decide +kernel
theorem kdX5_permute_193 : decode prog_8_method_29_code 193 = .ok (.iload_n 2, 1) := by decide +kernel
theorem kdX5_permute_194 : decode prog_8_method_29_code 194 = .ok (.iconst 5, 1) := by decide +kernel
theorem kdX5_permute_195 : decode prog_8_method_29_code 195 = .ok (.if_icmp .ge 76, 3) := by decide +kernel
theorem kdX5_permute_198 : decode prog_8_method_29_code 198 = .ok (.iconst 0, 1) := by decide +kernel
theorem kdX5_permute_199 : decode prog_8_method_29_code 199 = .ok (.istore_n 3, 1) := by decide +kernel
theorem kdX5_permute_200 : decode prog_8_method_29_code 200 = .ok (.iload_n 3, 1) := by decide +kernel
theorem kdX5_permute_201 : decode prog_8_method_29_code 201 = .ok (.iconst 5, 1) := by decide +kernel
theorem kdX5_permute_202 : decode prog_8_method_29_code 202 = .ok (.if_icmp .ge 63, 3) := by decide +kernel
theorem kdX5_permute_205 : decode prog_8_method_29_code 205 = .ok (.aload_n 0, 1) := by decide +kernel
theorem kdX5_permute_206 : decode prog_8_method_29_code 206 = .ok (.getfield 47, 3) := by decide +kernel
theorem kdX5_permute_209 : decode prog_8_method_29_code 209 = .ok (.iload_n 2, 1) := by decide +kernel
theorem kdX5_permute_210 : decode prog_8_method_29_code 210 = .ok (.iconst 5, 1) := by decide +kernel
theorem kdX5_permute_211 : decode prog_8_method_29_code 211 = .ok (.iload_n 3, 1) := by decide +kernel
theorem kdX5_permute_212 : decode prog_8_method_29_code 212 = .ok (.imul, 1) := by decide +kernel
theorem kdX5_permute_213 : decode prog_8_method_29_code 213 = .ok (.iadd, 1) := by decide +kernel
theorem kdX5_permute_214 : decode prog_8_method_29_code 214 = .ok (.aload_n 0, 1) := by decide +kernel
theorem kdX5_permute_215 : decode prog_8_method_29_code 215 = .ok (.getfield 50, 3) := by decide +kernel
theorem kdX5_permute_218 : decode prog_8_method_29_code 218 = .ok (.iload_n 2, 1) := by decide +kernel
theorem kdX5_permute_219 : decode prog_8_method_29_code 219 = .ok (.iconst 5, 1) := by decide +kernel
theorem kdX5_permute_220 : decode prog_8_method_29_code 220 = .ok (.iload_n 3, 1) := by decide +kernel
theorem kdX5_permute_221 : decode prog_8_method_29_code 221 = .ok (.imul, 1) := by decide +kernel
theorem kdX5_permute_222 : decode prog_8_method_29_code 222 = .ok (.iadd, 1) := by decide +kernel
theorem kdX5_permute_223 : decode prog_8_method_29_code 223 = .ok (.laload, 1) := by decide +kernel
theorem kdX5_permute_224 : decode prog_8_method_29_code 224 = .ok (.aload_n 0, 1) := by decide +kernel
theorem kdX5_permute_225 : decode prog_8_method_29_code 225 = .ok (.getfield 50, 3) := by decide +kernel
theorem kdX5_permute_228 : decode prog_8_method_29_code 228 = .ok (.iload_n 2, 1) := by decide +kernel
theorem kdX5_permute_229 : decode prog_8_method_29_code 229 = .ok (.iconst 1, 1) := by decide +kernel
theorem kdX5_permute_230 : decode prog_8_method_29_code 230 = .ok (.iadd, 1) := by decide +kernel
theorem kdX5_permute_231 : decode prog_8_method_29_code 231 = .ok (.iconst 5, 1) := by decide +kernel
theorem kdX5_permute_232 : decode prog_8_method_29_code 232 = .ok (.irem, 1) := by decide +kernel
theorem kdX5_permute_233 : decode prog_8_method_29_code 233 = .ok (.iconst 5, 1) := by decide +kernel
theorem kdX5_permute_234 : decode prog_8_method_29_code 234 = .ok (.iload_n 3, 1) := by decide +kernel
theorem kdX5_permute_235 : decode prog_8_method_29_code 235 = .ok (.imul, 1) := by decide +kernel
theorem kdX5_permute_236 : decode prog_8_method_29_code 236 = .ok (.iadd, 1) := by decide +kernel
theorem kdX5_permute_237 : decode prog_8_method_29_code 237 = .ok (.laload, 1) := by decide +kernel
theorem kdX5_permute_238 : decode prog_8_method_29_code 238 = .ok (.ldc2_w 187, 3) := by decide +kernel
theorem kdX5_permute_241 : decode prog_8_method_29_code 241 = .ok (.lxor, 1) := by decide +kernel
theorem kdX5_permute_242 : decode prog_8_method_29_code 242 = .ok (.aload_n 0, 1) := by decide +kernel
theorem kdX5_permute_243 : decode prog_8_method_29_code 243 = .ok (.getfield 50, 3) := by decide +kernel
theorem kdX5_permute_246 : decode prog_8_method_29_code 246 = .ok (.iload_n 2, 1) := by decide +kernel
theorem kdX5_permute_247 : decode prog_8_method_29_code 247 = .ok (.iconst 2, 1) := by decide +kernel
theorem kdX5_permute_248 : decode prog_8_method_29_code 248 = .ok (.iadd, 1) := by decide +kernel
theorem kdX5_permute_249 : decode prog_8_method_29_code 249 = .ok (.iconst 5, 1) := by decide +kernel
theorem kdX5_permute_250 : decode prog_8_method_29_code 250 = .ok (.irem, 1) := by decide +kernel
theorem kdX5_permute_251 : decode prog_8_method_29_code 251 = .ok (.iconst 5, 1) := by decide +kernel
theorem kdX5_permute_252 : decode prog_8_method_29_code 252 = .ok (.iload_n 3, 1) := by decide +kernel
theorem kdX5_permute_253 : decode prog_8_method_29_code 253 = .ok (.imul, 1) := by decide +kernel
theorem kdX5_permute_254 : decode prog_8_method_29_code 254 = .ok (.iadd, 1) := by decide +kernel
theorem kdX5_permute_255 : decode prog_8_method_29_code 255 = .ok (.laload, 1) := by decide +kernel
theorem kdX5_permute_256 : decode prog_8_method_29_code 256 = .ok (.land, 1) := by decide +kernel
theorem kdX5_permute_257 : decode prog_8_method_29_code 257 = .ok (.lxor, 1) := by decide +kernel
theorem kdX5_permute_258 : decode prog_8_method_29_code 258 = .ok (.lastore, 1) := by decide +kernel
theorem kdX5_permute_259 : decode prog_8_method_29_code 259 = .ok (.iinc 3 1, 3) := by decide +kernel
theorem kdX5_permute_262 : decode prog_8_method_29_code 262 = .ok (.goto (-62), 3) := by decide +kernel
theorem kdX5_permute_265 : decode prog_8_method_29_code 265 = .ok (.iinc 2 1, 3) := by decide +kernel
theorem kdX5_permute_268 : decode prog_8_method_29_code 268 = .ok (.goto (-75), 3) := by decide +kernel
theorem kdX5_permute_271 : decode prog_8_method_29_code 271 = .ok (.aload_n 0, 1) := by decide +kernel
theorem kdX5_permute_272 : decode prog_8_method_29_code 272 = .ok (.getfield 47, 3) := by decide +kernel
theorem kdX5_permute_275 : decode prog_8_method_29_code 275 = .ok (.iconst 0, 1) := by decide +kernel
theorem kdX5_permute_276 : decode prog_8_method_29_code 276 = .ok (.dup2, 1) := by decide +kernel
theorem kdX5_permute_277 : decode prog_8_method_29_code 277 = .ok (.laload, 1) := by decide +kernel
theorem kdX5_permute_278 : decode prog_8_method_29_code 278 = .ok (.aload_n 0, 1) := by decide +kernel
theorem kdX5_permute_279 : decode prog_8_method_29_code 279 = .ok (.getfield 44, 3) := by decide +kernel
theorem kdX5_permute_282 : decode prog_8_method_29_code 282 = .ok (.iload_n 1, 1) := by decide +kernel
theorem kdX5_permute_283 : decode prog_8_method_29_code 283 = .ok (.laload, 1) := by decide +kernel
theorem kdX5_permute_284 : decode prog_8_method_29_code 284 = .ok (.lxor, 1) := by decide +kernel
theorem kdX5_permute_285 : decode prog_8_method_29_code 285 = .ok (.lastore, 1) := by decide +kernel
theorem kdX5_permute_286 : decode prog_8_method_29_code 286 = .ok (.iinc 1 1, 3) := by decide +kernel
theorem kdX5_permute_289 : decode prog_8_method_29_code 289 = .ok (.goto (-287), 3) := by decide +kernel
theorem kdX5_permute_292 : decode prog_8_method_29_code 292 = .ok (.return_, 1) := by decide +kernel
theorem kdX5_left_0 : decode prog_8_method_30_code 0 = .ok (.iload_n 2, 1) := by decide +kernel
theorem kdX5_left_1 : decode prog_8_method_30_code 1 = .ok (.ifCond .ne 7, 3) := by decide +kernel
theorem kdX5_left_4 : decode prog_8_method_30_code 4 = .ok (.lload_n 0, 1) := by decide +kernel
theorem kdX5_left_5 : decode prog_8_method_30_code 5 = .ok (.goto 13, 3) := by decide +kernel
theorem kdX5_left_8 : decode prog_8_method_30_code 8 = .ok (.lload_n 0, 1) := by decide +kernel
theorem kdX5_left_9 : decode prog_8_method_30_code 9 = .ok (.iload_n 2, 1) := by decide +kernel
theorem kdX5_left_10 : decode prog_8_method_30_code 10 = .ok (.lshl, 1) := by decide +kernel
theorem kdX5_left_11 : decode prog_8_method_30_code 11 = .ok (.lload_n 0, 1) := by decide +kernel
theorem kdX5_left_12 : decode prog_8_method_30_code 12 = .ok (.bipush 64, 2) := by decide +kernel
theorem kdX5_left_14 : decode prog_8_method_30_code 14 = .ok (.iload_n 2, 1) := by decide +kernel
theorem kdX5_left_15 : decode prog_8_method_30_code 15 = .ok (.isub, 1) := by decide +kernel
theorem kdX5_left_16 : decode prog_8_method_30_code 16 = .ok (.lushr, 1) := by decide +kernel
theorem kdX5_left_17 : decode prog_8_method_30_code 17 = .ok (.lor, 1) := by decide +kernel
theorem kdX5_left_18 : decode prog_8_method_30_code 18 = .ok (.lreturn, 1) := by decide +kernel
theorem kdX5_right_0 : decode prog_8_method_31_code 0 = .ok (.lload_n 0, 1) := by decide +kernel
theorem kdX5_right_1 : decode prog_8_method_31_code 1 = .ok (.iload_n 2, 1) := by decide +kernel
theorem kdX5_right_2 : decode prog_8_method_31_code 2 = .ok (.lushr, 1) := by decide +kernel
theorem kdX5_right_3 : decode prog_8_method_31_code 3 = .ok (.lload_n 0, 1) := by decide +kernel
theorem kdX5_right_4 : decode prog_8_method_31_code 4 = .ok (.bipush 64, 2) := by decide +kernel
theorem kdX5_right_6 : decode prog_8_method_31_code 6 = .ok (.iload_n 2, 1) := by decide +kernel
theorem kdX5_right_7 : decode prog_8_method_31_code 7 = .ok (.isub, 1) := by decide +kernel
theorem kdX5_right_8 : decode prog_8_method_31_code 8 = .ok (.lshl, 1) := by decide +kernel
theorem kdX5_right_9 : decode prog_8_method_31_code 9 = .ok (.lor, 1) := by decide +kernel
theorem kdX5_right_10 : decode prog_8_method_31_code 10 = .ok (.lreturn, 1) := by decide +kernel
theorem kdX5_turn_0 : decode prog_8_method_32_code 0 = .ok (.iload_n 0, 1) := by decide +kernel
theorem kdX5_turn_1 : decode prog_8_method_32_code 1 = .ok (.iload_n 1, 1) := by decide +kernel
theorem kdX5_turn_2 : decode prog_8_method_32_code 2 = .ok (.iushr, 1) := by decide +kernel
theorem kdX5_turn_3 : decode prog_8_method_32_code 3 = .ok (.iload_n 0, 1) := by decide +kernel
theorem kdX5_turn_4 : decode prog_8_method_32_code 4 = .ok (.bipush 32, 2) := by decide +kernel
theorem kdX5_turn_6 : decode prog_8_method_32_code 6 = .ok (.iload_n 1, 1) := by decide +kernel
theorem kdX5_turn_7 : decode prog_8_method_32_code 7 = .ok (.isub, 1) := by decide +kernel
theorem kdX5_turn_8 : decode prog_8_method_32_code 8 = .ok (.ishl, 1) := by decide +kernel
theorem kdX5_turn_9 : decode prog_8_method_32_code 9 = .ok (.ior, 1) := by decide +kernel
theorem kdX5_turn_10 : decode prog_8_method_32_code 10 = .ok (.ireturn, 1) := by decide +kernel
theorem kdX5_compress64_0 : decode prog_8_method_33_code 0 = .ok (.iconst 0, 1) := by decide +kernel
theorem kdX5_compress64_1 : decode prog_8_method_33_code 1 = .ok (.istore_n 1, 1) := by decide +kernel
theorem kdX5_compress64_2 : decode prog_8_method_33_code 2 = .ok (.iload_n 1, 1) := by decide +kernel
theorem kdX5_compress64_3 : decode prog_8_method_33_code 3 = .ok (.bipush 16, 2) := by decide +kernel
theorem kdX5_compress64_5 : decode prog_8_method_33_code 5 = .ok (.if_icmp .ge 62, 3) := by decide +kernel
theorem kdX5_compress64_8 : decode prog_8_method_33_code 8 = .ok (.aload_n 0, 1) := by decide +kernel
theorem kdX5_compress64_9 : decode prog_8_method_33_code 9 = .ok (.getfield 56, 3) := by decide +kernel
theorem kdX5_compress64_12 : decode prog_8_method_33_code 12 = .ok (.iload_n 1, 1) := by decide +kernel
theorem kdX5_compress64_13 : decode prog_8_method_33_code 13 = .ok (.lconst 0, 1) := by decide +kernel
theorem kdX5_compress64_14 : decode prog_8_method_33_code 14 = .ok (.lastore, 1) := by decide +kernel
theorem kdX5_compress64_15 : decode prog_8_method_33_code 15 = .ok (.iconst 0, 1) := by decide +kernel
theorem kdX5_compress64_16 : decode prog_8_method_33_code 16 = .ok (.istore_n 2, 1) := by decide +kernel
theorem kdX5_compress64_17 : decode prog_8_method_33_code 17 = .ok (.iload_n 2, 1) := by decide +kernel
theorem kdX5_compress64_18 : decode prog_8_method_33_code 18 = .ok (.bipush 8, 2) := by decide +kernel
theorem kdX5_compress64_20 : decode prog_8_method_33_code 20 = .ok (.if_icmp .ge 41, 3) := by decide +kernel
theorem kdX5_compress64_23 : decode prog_8_method_33_code 23 = .ok (.aload_n 0, 1) := by decide +kernel
theorem kdX5_compress64_24 : decode prog_8_method_33_code 24 = .ok (.getfield 56, 3) := by decide +kernel
theorem kdX5_compress64_27 : decode prog_8_method_33_code 27 = .ok (.iload_n 1, 1) := by decide +kernel
theorem kdX5_compress64_28 : decode prog_8_method_33_code 28 = .ok (.aload_n 0, 1) := by decide +kernel
theorem kdX5_compress64_29 : decode prog_8_method_33_code 29 = .ok (.getfield 56, 3) := by decide +kernel
theorem kdX5_compress64_32 : decode prog_8_method_33_code 32 = .ok (.iload_n 1, 1) := by decide +kernel
theorem kdX5_compress64_33 : decode prog_8_method_33_code 33 = .ok (.laload, 1) := by decide +kernel
theorem kdX5_compress64_34 : decode prog_8_method_33_code 34 = .ok (.bipush 8, 2) := by decide +kernel
theorem kdX5_compress64_36 : decode prog_8_method_33_code 36 = .ok (.lshl, 1) := by decide +kernel
theorem kdX5_compress64_37 : decode prog_8_method_33_code 37 = .ok (.aload_n 0, 1) := by decide +kernel
theorem kdX5_compress64_38 : decode prog_8_method_33_code 38 = .ok (.getfield 59, 3) := by decide +kernel
theorem kdX5_compress64_41 : decode prog_8_method_33_code 41 = .ok (.bipush 8, 2) := by decide +kernel
theorem kdX5_compress64_43 : decode prog_8_method_33_code 43 = .ok (.iload_n 1, 1) := by decide +kernel
theorem kdX5_compress64_44 : decode prog_8_method_33_code 44 = .ok (.imul, 1) := by decide +kernel
theorem kdX5_compress64_45 : decode prog_8_method_33_code 45 = .ok (.iload_n 2, 1) := by decide +kernel
theorem kdX5_compress64_46 : decode prog_8_method_33_code 46 = .ok (.iadd, 1) := by decide +kernel
theorem kdX5_compress64_47 : decode prog_8_method_33_code 47 = .ok (.baload, 1) := by decide +kernel
theorem kdX5_compress64_48 : decode prog_8_method_33_code 48 = .ok (.i2l, 1) := by decide +kernel
theorem kdX5_compress64_49 : decode prog_8_method_33_code 49 = .ok (.ldc2_w 110, 3) := by decide +kernel
theorem kdX5_compress64_52 : decode prog_8_method_33_code 52 = .ok (.land, 1) := by decide +kernel
theorem kdX5_compress64_53 : decode prog_8_method_33_code 53 = .ok (.lor, 1) := by decide +kernel
theorem kdX5_compress64_54 : decode prog_8_method_33_code 54 = .ok (.lastore, 1) := by decide +kernel
theorem kdX5_compress64_55 : decode prog_8_method_33_code 55 = .ok (.iinc 2 1, 3) := by decide +kernel
theorem kdX5_compress64_58 : decode prog_8_method_33_code 58 = .ok (.goto (-41), 3) := by decide +kernel
theorem kdX5_compress64_61 : decode prog_8_method_33_code 61 = .ok (.iinc 1 1, 3) := by decide +kernel
theorem kdX5_compress64_64 : decode prog_8_method_33_code 64 = .ok (.goto (-62), 3) := by decide +kernel
theorem kdX5_compress64_67 : decode prog_8_method_33_code 67 = .ok (.bipush 16, 2) := by decide +kernel
theorem kdX5_compress64_69 : decode prog_8_method_33_code 69 = .ok (.istore_n 1, 1) := by decide +kernel
theorem kdX5_compress64_70 : decode prog_8_method_33_code 70 = .ok (.iload_n 1, 1) := by decide +kernel
theorem kdX5_compress64_71 : decode prog_8_method_33_code 71 = .ok (.bipush 80, 2) := by decide +kernel
theorem kdX5_compress64_73 : decode prog_8_method_33_code 73 = .ok (.if_icmp .ge 94, 3) := by decide +kernel
theorem kdX5_compress64_76 : decode prog_8_method_33_code 76 = .ok (.aload_n 0, 1) := by decide +kernel
theorem kdX5_compress64_77 : decode prog_8_method_33_code 77 = .ok (.getfield 56, 3) := by decide +kernel
theorem kdX5_compress64_80 : decode prog_8_method_33_code 80 = .ok (.iload_n 1, 1) := by decide +kernel
theorem kdX5_compress64_81 : decode prog_8_method_33_code 81 = .ok (.iconst 2, 1) := by decide +kernel
theorem kdX5_compress64_82 : decode prog_8_method_33_code 82 = .ok (.isub, 1) := by decide +kernel
theorem kdX5_compress64_83 : decode prog_8_method_33_code 83 = .ok (.laload, 1) := by decide +kernel
theorem kdX5_compress64_84 : decode prog_8_method_33_code 84 = .ok (.lstore_n 2, 1) := by decide +kernel
theorem kdX5_compress64_85 : decode prog_8_method_33_code 85 = .ok (.aload_n 0, 1) := by decide +kernel
theorem kdX5_compress64_86 : decode prog_8_method_33_code 86 = .ok (.getfield 56, 3) := by decide +kernel
theorem kdX5_compress64_89 : decode prog_8_method_33_code 89 = .ok (.iload_n 1, 1) := by decide +kernel
theorem kdX5_compress64_90 : decode prog_8_method_33_code 90 = .ok (.bipush 15, 2) := by decide +kernel
theorem kdX5_compress64_92 : decode prog_8_method_33_code 92 = .ok (.isub, 1) := by decide +kernel
theorem kdX5_compress64_93 : decode prog_8_method_33_code 93 = .ok (.laload, 1) := by decide +kernel
theorem kdX5_compress64_94 : decode prog_8_method_33_code 94 = .ok (.lstore 4, 2) := by decide +kernel
theorem kdX5_compress64_96 : decode prog_8_method_33_code 96 = .ok (.aload_n 0, 1) := by decide +kernel
theorem kdX5_compress64_97 : decode prog_8_method_33_code 97 = .ok (.getfield 56, 3) := by decide +kernel
theorem kdX5_compress64_100 : decode prog_8_method_33_code 100 = .ok (.iload_n 1, 1) := by decide +kernel
theorem kdX5_compress64_101 : decode prog_8_method_33_code 101 = .ok (.lload_n 2, 1) := by decide +kernel
theorem kdX5_compress64_102 : decode prog_8_method_33_code 102 = .ok (.bipush 19, 2) := by decide +kernel
theorem kdX5_compress64_104 : decode prog_8_method_33_code 104 = .ok (.invokestatic 189, 3) := by decide +kernel
theorem kdX5_compress64_107 : decode prog_8_method_33_code 107 = .ok (.lload_n 2, 1) := by decide +kernel
theorem kdX5_compress64_108 : decode prog_8_method_33_code 108 = .ok (.bipush 61, 2) := by decide +kernel
theorem kdX5_compress64_110 : decode prog_8_method_33_code 110 = .ok (.invokestatic 189, 3) := by decide +kernel
theorem kdX5_compress64_113 : decode prog_8_method_33_code 113 = .ok (.lxor, 1) := by decide +kernel
theorem kdX5_compress64_114 : decode prog_8_method_33_code 114 = .ok (.lload_n 2, 1) := by decide +kernel
theorem kdX5_compress64_115 : decode prog_8_method_33_code 115 = .ok (.bipush 6, 2) := by decide +kernel
theorem kdX5_compress64_117 : decode prog_8_method_33_code 117 = .ok (.lushr, 1) := by decide +kernel
theorem kdX5_compress64_118 : decode prog_8_method_33_code 118 = .ok (.lxor, 1) := by decide +kernel
theorem kdX5_compress64_119 : decode prog_8_method_33_code 119 = .ok (.aload_n 0, 1) := by decide +kernel
theorem kdX5_compress64_120 : decode prog_8_method_33_code 120 = .ok (.getfield 56, 3) := by decide +kernel
theorem kdX5_compress64_123 : decode prog_8_method_33_code 123 = .ok (.iload_n 1, 1) := by decide +kernel
theorem kdX5_compress64_124 : decode prog_8_method_33_code 124 = .ok (.bipush 7, 2) := by decide +kernel
theorem kdX5_compress64_126 : decode prog_8_method_33_code 126 = .ok (.isub, 1) := by decide +kernel
theorem kdX5_compress64_127 : decode prog_8_method_33_code 127 = .ok (.laload, 1) := by decide +kernel
theorem kdX5_compress64_128 : decode prog_8_method_33_code 128 = .ok (.ladd, 1) := by decide +kernel
theorem kdX5_compress64_129 : decode prog_8_method_33_code 129 = .ok (.lload 4, 2) := by decide +kernel
theorem kdX5_compress64_131 : decode prog_8_method_33_code 131 = .ok (.iconst 1, 1) := by decide +kernel
theorem kdX5_compress64_132 : decode prog_8_method_33_code 132 = .ok (.invokestatic 189, 3) := by decide +kernel
theorem kdX5_compress64_135 : decode prog_8_method_33_code 135 = .ok (.lload 4, 2) := by decide +kernel
theorem kdX5_compress64_137 : decode prog_8_method_33_code 137 = .ok (.bipush 8, 2) := by decide +kernel
theorem kdX5_compress64_139 : decode prog_8_method_33_code 139 = .ok (.invokestatic 189, 3) := by decide +kernel
theorem kdX5_compress64_142 : decode prog_8_method_33_code 142 = .ok (.lxor, 1) := by decide +kernel
theorem kdX5_compress64_143 : decode prog_8_method_33_code 143 = .ok (.lload 4, 2) := by decide +kernel
theorem kdX5_compress64_145 : decode prog_8_method_33_code 145 = .ok (.bipush 7, 2) := by decide +kernel
theorem kdX5_compress64_147 : decode prog_8_method_33_code 147 = .ok (.lushr, 1) := by decide +kernel
theorem kdX5_compress64_148 : decode prog_8_method_33_code 148 = .ok (.lxor, 1) := by decide +kernel
theorem kdX5_compress64_149 : decode prog_8_method_33_code 149 = .ok (.ladd, 1) := by decide +kernel
theorem kdX5_compress64_150 : decode prog_8_method_33_code 150 = .ok (.aload_n 0, 1) := by decide +kernel
theorem kdX5_compress64_151 : decode prog_8_method_33_code 151 = .ok (.getfield 56, 3) := by decide +kernel
theorem kdX5_compress64_154 : decode prog_8_method_33_code 154 = .ok (.iload_n 1, 1) := by decide +kernel
theorem kdX5_compress64_155 : decode prog_8_method_33_code 155 = .ok (.bipush 16, 2) := by decide +kernel
theorem kdX5_compress64_157 : decode prog_8_method_33_code 157 = .ok (.isub, 1) := by decide +kernel
theorem kdX5_compress64_158 : decode prog_8_method_33_code 158 = .ok (.laload, 1) := by decide +kernel
theorem kdX5_compress64_159 : decode prog_8_method_33_code 159 = .ok (.ladd, 1) := by decide +kernel
theorem kdX5_compress64_160 : decode prog_8_method_33_code 160 = .ok (.lastore, 1) := by decide +kernel
theorem kdX5_compress64_161 : decode prog_8_method_33_code 161 = .ok (.iinc 1 1, 3) := by decide +kernel
theorem kdX5_compress64_164 : decode prog_8_method_33_code 164 = .ok (.goto (-94), 3) := by decide +kernel
theorem kdX5_compress64_167 : decode prog_8_method_33_code 167 = .ok (.aload_n 0, 1) := by decide +kernel
theorem kdX5_compress64_168 : decode prog_8_method_33_code 168 = .ok (.getfield 47, 3) := by decide +kernel
theorem kdX5_compress64_171 : decode prog_8_method_33_code 171 = .ok (.iconst 0, 1) := by decide +kernel
theorem kdX5_compress64_172 : decode prog_8_method_33_code 172 = .ok (.laload, 1) := by decide +kernel
theorem kdX5_compress64_173 : decode prog_8_method_33_code 173 = .ok (.lstore_n 1, 1) := by decide +kernel
theorem kdX5_compress64_174 : decode prog_8_method_33_code 174 = .ok (.aload_n 0, 1) := by decide +kernel
theorem kdX5_compress64_175 : decode prog_8_method_33_code 175 = .ok (.getfield 47, 3) := by decide +kernel
theorem kdX5_compress64_178 : decode prog_8_method_33_code 178 = .ok (.iconst 1, 1) := by decide +kernel
theorem kdX5_compress64_179 : decode prog_8_method_33_code 179 = .ok (.laload, 1) := by decide +kernel
theorem kdX5_compress64_180 : decode prog_8_method_33_code 180 = .ok (.lstore_n 3, 1) := by decide +kernel
theorem kdX5_compress64_181 : decode prog_8_method_33_code 181 = .ok (.aload_n 0, 1) := by decide +kernel
theorem kdX5_compress64_182 : decode prog_8_method_33_code 182 = .ok (.getfield 47, 3) := by decide +kernel
theorem kdX5_compress64_185 : decode prog_8_method_33_code 185 = .ok (.iconst 2, 1) := by decide +kernel
theorem kdX5_compress64_186 : decode prog_8_method_33_code 186 = .ok (.laload, 1) := by decide +kernel
theorem kdX5_compress64_187 : decode prog_8_method_33_code 187 = .ok (.lstore 5, 2) := by decide +kernel
theorem kdX5_compress64_189 : decode prog_8_method_33_code 189 = .ok (.aload_n 0, 1) := by decide +kernel
theorem kdX5_compress64_190 : decode prog_8_method_33_code 190 = .ok (.getfield 47, 3) := by decide +kernel
theorem kdX5_compress64_193 : decode prog_8_method_33_code 193 = .ok (.iconst 3, 1) := by decide +kernel
theorem kdX5_compress64_194 : decode prog_8_method_33_code 194 = .ok (.laload, 1) := by decide +kernel
theorem kdX5_compress64_195 : decode prog_8_method_33_code 195 = .ok (.lstore 7, 2) := by decide +kernel
theorem kdX5_compress64_197 : decode prog_8_method_33_code 197 = .ok (.aload_n 0, 1) := by decide +kernel
theorem kdX5_compress64_198 : decode prog_8_method_33_code 198 = .ok (.getfield 47, 3) := by decide +kernel
theorem kdX5_compress64_201 : decode prog_8_method_33_code 201 = .ok (.iconst 4, 1) := by decide +kernel
theorem kdX5_compress64_202 : decode prog_8_method_33_code 202 = .ok (.laload, 1) := by decide +kernel
theorem kdX5_compress64_203 : decode prog_8_method_33_code 203 = .ok (.lstore 9, 2) := by decide +kernel
theorem kdX5_compress64_205 : decode prog_8_method_33_code 205 = .ok (.aload_n 0, 1) := by decide +kernel
theorem kdX5_compress64_206 : decode prog_8_method_33_code 206 = .ok (.getfield 47, 3) := by decide +kernel
theorem kdX5_compress64_209 : decode prog_8_method_33_code 209 = .ok (.iconst 5, 1) := by decide +kernel
theorem kdX5_compress64_210 : decode prog_8_method_33_code 210 = .ok (.laload, 1) := by decide +kernel
theorem kdX5_compress64_211 : decode prog_8_method_33_code 211 = .ok (.lstore 11, 2) := by decide +kernel
theorem kdX5_compress64_213 : decode prog_8_method_33_code 213 = .ok (.aload_n 0, 1) := by decide +kernel
theorem kdX5_compress64_214 : decode prog_8_method_33_code 214 = .ok (.getfield 47, 3) := by decide +kernel
theorem kdX5_compress64_217 : decode prog_8_method_33_code 217 = .ok (.bipush 6, 2) := by decide +kernel
theorem kdX5_compress64_219 : decode prog_8_method_33_code 219 = .ok (.laload, 1) := by decide +kernel
theorem kdX5_compress64_220 : decode prog_8_method_33_code 220 = .ok (.lstore 13, 2) := by decide +kernel
theorem kdX5_compress64_222 : decode prog_8_method_33_code 222 = .ok (.aload_n 0, 1) := by decide +kernel
theorem kdX5_compress64_223 : decode prog_8_method_33_code 223 = .ok (.getfield 47, 3) := by decide +kernel
theorem kdX5_compress64_226 : decode prog_8_method_33_code 226 = .ok (.bipush 7, 2) := by decide +kernel
theorem kdX5_compress64_228 : decode prog_8_method_33_code 228 = .ok (.laload, 1) := by decide +kernel
theorem kdX5_compress64_229 : decode prog_8_method_33_code 229 = .ok (.lstore 15, 2) := by decide +kernel
theorem kdX5_compress64_231 : decode prog_8_method_33_code 231 = .ok (.iconst 0, 1) := by decide +kernel
theorem kdX5_compress64_232 : decode prog_8_method_33_code 232 = .ok (.istore 17, 2) := by decide +kernel
theorem kdX5_compress64_234 : decode prog_8_method_33_code 234 = .ok (.iload 17, 2) := by decide +kernel
theorem kdX5_compress64_236 : decode prog_8_method_33_code 236 = .ok (.bipush 80, 2) := by decide +kernel
theorem kdX5_compress64_238 : decode prog_8_method_33_code 238 = .ok (.if_icmp .ge 139, 3) := by decide +kernel
theorem kdX5_compress64_241 : decode prog_8_method_33_code 241 = .ok (.lload 15, 2) := by decide +kernel
theorem kdX5_compress64_243 : decode prog_8_method_33_code 243 = .ok (.lload 9, 2) := by decide +kernel
theorem kdX5_compress64_245 : decode prog_8_method_33_code 245 = .ok (.bipush 14, 2) := by decide +kernel
theorem kdX5_compress64_247 : decode prog_8_method_33_code 247 = .ok (.invokestatic 189, 3) := by decide +kernel
theorem kdX5_compress64_250 : decode prog_8_method_33_code 250 = .ok (.lload 9, 2) := by decide +kernel
theorem kdX5_compress64_252 : decode prog_8_method_33_code 252 = .ok (.bipush 18, 2) := by decide +kernel
theorem kdX5_compress64_254 : decode prog_8_method_33_code 254 = .ok (.invokestatic 189, 3) := by decide +kernel
theorem kdX5_compress64_257 : decode prog_8_method_33_code 257 = .ok (.lxor, 1) := by decide +kernel
theorem kdX5_compress64_258 : decode prog_8_method_33_code 258 = .ok (.lload 9, 2) := by decide +kernel
theorem kdX5_compress64_260 : decode prog_8_method_33_code 260 = .ok (.bipush 41, 2) := by decide +kernel
theorem kdX5_compress64_262 : decode prog_8_method_33_code 262 = .ok (.invokestatic 189, 3) := by decide +kernel
theorem kdX5_compress64_265 : decode prog_8_method_33_code 265 = .ok (.lxor, 1) := by decide +kernel
theorem kdX5_compress64_266 : decode prog_8_method_33_code 266 = .ok (.ladd, 1) := by decide +kernel
theorem kdX5_compress64_267 : decode prog_8_method_33_code 267 = .ok (.lload 9, 2) := by decide +kernel
theorem kdX5_compress64_269 : decode prog_8_method_33_code 269 = .ok (.lload 11, 2) := by decide +kernel
theorem kdX5_compress64_271 : decode prog_8_method_33_code 271 = .ok (.land, 1) := by decide +kernel
theorem kdX5_compress64_272 : decode prog_8_method_33_code 272 = .ok (.lload 9, 2) := by decide +kernel
theorem kdX5_compress64_274 : decode prog_8_method_33_code 274 = .ok (.ldc2_w 187, 3) := by decide +kernel
theorem kdX5_compress64_277 : decode prog_8_method_33_code 277 = .ok (.lxor, 1) := by decide +kernel
theorem kdX5_compress64_278 : decode prog_8_method_33_code 278 = .ok (.lload 13, 2) := by decide +kernel
theorem kdX5_compress64_280 : decode prog_8_method_33_code 280 = .ok (.land, 1) := by decide +kernel
theorem kdX5_compress64_281 : decode prog_8_method_33_code 281 = .ok (.lxor, 1) := by decide +kernel
theorem kdX5_compress64_282 : decode prog_8_method_33_code 282 = .ok (.ladd, 1) := by decide +kernel
theorem kdX5_compress64_283 : decode prog_8_method_33_code 283 = .ok (.aload_n 0, 1) := by decide +kernel
theorem kdX5_compress64_284 : decode prog_8_method_33_code 284 = .ok (.getfield 26, 3) := by decide +kernel
theorem kdX5_compress64_287 : decode prog_8_method_33_code 287 = .ok (.iload 17, 2) := by decide +kernel
theorem kdX5_compress64_289 : decode prog_8_method_33_code 289 = .ok (.laload, 1) := by decide +kernel
theorem kdX5_compress64_290 : decode prog_8_method_33_code 290 = .ok (.ladd, 1) := by decide +kernel
theorem kdX5_compress64_291 : decode prog_8_method_33_code 291 = .ok (.aload_n 0, 1) := by decide +kernel
theorem kdX5_compress64_292 : decode prog_8_method_33_code 292 = .ok (.getfield 56, 3) := by decide +kernel
theorem kdX5_compress64_295 : decode prog_8_method_33_code 295 = .ok (.iload 17, 2) := by decide +kernel
theorem kdX5_compress64_297 : decode prog_8_method_33_code 297 = .ok (.laload, 1) := by decide +kernel
theorem kdX5_compress64_298 : decode prog_8_method_33_code 298 = .ok (.ladd, 1) := by decide +kernel
theorem kdX5_compress64_299 : decode prog_8_method_33_code 299 = .ok (.lstore 18, 2) := by decide +kernel
theorem kdX5_compress64_301 : decode prog_8_method_33_code 301 = .ok (.lload_n 1, 1) := by decide +kernel
theorem kdX5_compress64_302 : decode prog_8_method_33_code 302 = .ok (.bipush 28, 2) := by decide +kernel
theorem kdX5_compress64_304 : decode prog_8_method_33_code 304 = .ok (.invokestatic 189, 3) := by decide +kernel
theorem kdX5_compress64_307 : decode prog_8_method_33_code 307 = .ok (.lload_n 1, 1) := by decide +kernel
theorem kdX5_compress64_308 : decode prog_8_method_33_code 308 = .ok (.bipush 34, 2) := by decide +kernel
theorem kdX5_compress64_310 : decode prog_8_method_33_code 310 = .ok (.invokestatic 189, 3) := by decide +kernel
theorem kdX5_compress64_313 : decode prog_8_method_33_code 313 = .ok (.lxor, 1) := by decide +kernel
theorem kdX5_compress64_314 : decode prog_8_method_33_code 314 = .ok (.lload_n 1, 1) := by decide +kernel
theorem kdX5_compress64_315 : decode prog_8_method_33_code 315 = .ok (.bipush 39, 2) := by decide +kernel
theorem kdX5_compress64_317 : decode prog_8_method_33_code 317 = .ok (.invokestatic 189, 3) := by decide +kernel
theorem kdX5_compress64_320 : decode prog_8_method_33_code 320 = .ok (.lxor, 1) := by decide +kernel
theorem kdX5_compress64_321 : decode prog_8_method_33_code 321 = .ok (.lload_n 1, 1) := by decide +kernel
theorem kdX5_compress64_322 : decode prog_8_method_33_code 322 = .ok (.lload_n 3, 1) := by decide +kernel
theorem kdX5_compress64_323 : decode prog_8_method_33_code 323 = .ok (.land, 1) := by decide +kernel
theorem kdX5_compress64_324 : decode prog_8_method_33_code 324 = .ok (.lload_n 1, 1) := by decide +kernel
theorem kdX5_compress64_325 : decode prog_8_method_33_code 325 = .ok (.lload 5, 2) := by decide +kernel
theorem kdX5_compress64_327 : decode prog_8_method_33_code 327 = .ok (.land, 1) := by decide +kernel
theorem kdX5_compress64_328 : decode prog_8_method_33_code 328 = .ok (.lxor, 1) := by decide +kernel
theorem kdX5_compress64_329 : decode prog_8_method_33_code 329 = .ok (.lload_n 3, 1) := by decide +kernel
theorem kdX5_compress64_330 : decode prog_8_method_33_code 330 = .ok (.lload 5, 2) := by decide +kernel
theorem kdX5_compress64_332 : decode prog_8_method_33_code 332 = .ok (.land, 1) := by decide +kernel
theorem kdX5_compress64_333 : decode prog_8_method_33_code 333 = .ok (.lxor, 1) := by decide +kernel
theorem kdX5_compress64_334 : decode prog_8_method_33_code 334 = .ok (.ladd, 1) := by decide +kernel
theorem kdX5_compress64_335 : decode prog_8_method_33_code 335 = .ok (.lstore 20, 2) := by decide +kernel
theorem kdX5_compress64_337 : decode prog_8_method_33_code 337 = .ok (.lload 13, 2) := by decide +kernel
theorem kdX5_compress64_339 : decode prog_8_method_33_code 339 = .ok (.lstore 15, 2) := by decide +kernel
theorem kdX5_compress64_341 : decode prog_8_method_33_code 341 = .ok (.lload 11, 2) := by decide +kernel
theorem kdX5_compress64_343 : decode prog_8_method_33_code 343 = .ok (.lstore 13, 2) := by decide +kernel
theorem kdX5_compress64_345 : decode prog_8_method_33_code 345 = .ok (.lload 9, 2) := by decide +kernel
theorem kdX5_compress64_347 : decode prog_8_method_33_code 347 = .ok (.lstore 11, 2) := by decide +kernel
theorem kdX5_compress64_349 : decode prog_8_method_33_code 349 = .ok (.lload 7, 2) := by decide +kernel
theorem kdX5_compress64_351 : decode prog_8_method_33_code 351 = .ok (.lload 18, 2) := by decide +kernel
theorem kdX5_compress64_353 : decode prog_8_method_33_code 353 = .ok (.ladd, 1) := by decide +kernel
theorem kdX5_compress64_354 : decode prog_8_method_33_code 354 = .ok (.lstore 9, 2) := by decide +kernel
theorem kdX5_compress64_356 : decode prog_8_method_33_code 356 = .ok (.lload 5, 2) := by decide +kernel
theorem kdX5_compress64_358 : decode prog_8_method_33_code 358 = .ok (.lstore 7, 2) := by decide +kernel
theorem kdX5_compress64_360 : decode prog_8_method_33_code 360 = .ok (.lload_n 3, 1) := by decide +kernel
theorem kdX5_compress64_361 : decode prog_8_method_33_code 361 = .ok (.lstore 5, 2) := by decide +kernel
theorem kdX5_compress64_363 : decode prog_8_method_33_code 363 = .ok (.lload_n 1, 1) := by decide +kernel
theorem kdX5_compress64_364 : decode prog_8_method_33_code 364 = .ok (.lstore_n 3, 1) := by decide +kernel
theorem kdX5_compress64_365 : decode prog_8_method_33_code 365 = .ok (.lload 18, 2) := by decide +kernel
theorem kdX5_compress64_367 : decode prog_8_method_33_code 367 = .ok (.lload 20, 2) := by decide +kernel
theorem kdX5_compress64_369 : decode prog_8_method_33_code 369 = .ok (.ladd, 1) := by decide +kernel
theorem kdX5_compress64_370 : decode prog_8_method_33_code 370 = .ok (.lstore_n 1, 1) := by decide +kernel
theorem kdX5_compress64_371 : decode prog_8_method_33_code 371 = .ok (.iinc 17 1, 3) := by decide +kernel
theorem kdX5_compress64_374 : decode prog_8_method_33_code 374 = .ok (.goto (-140), 3) := by decide +kernel
theorem kdX5_compress64_377 : decode prog_8_method_33_code 377 = .ok (.aload_n 0, 1) := by decide +kernel
theorem kdX5_compress64_378 : decode prog_8_method_33_code 378 = .ok (.getfield 47, 3) := by decide +kernel
theorem kdX5_compress64_381 : decode prog_8_method_33_code 381 = .ok (.iconst 0, 1) := by decide +kernel
theorem kdX5_compress64_382 : decode prog_8_method_33_code 382 = .ok (.dup2, 1) := by decide +kernel
theorem kdX5_compress64_383 : decode prog_8_method_33_code 383 = .ok (.laload, 1) := by decide +kernel
theorem kdX5_compress64_384 : decode prog_8_method_33_code 384 = .ok (.lload_n 1, 1) := by decide +kernel
theorem kdX5_compress64_385 : decode prog_8_method_33_code 385 = .ok (.ladd, 1) := by decide +kernel
theorem kdX5_compress64_386 : decode prog_8_method_33_code 386 = .ok (.lastore, 1) := by decide +kernel
theorem kdX5_compress64_387 : decode prog_8_method_33_code 387 = .ok (.aload_n 0, 1) := by decide +kernel
theorem kdX5_compress64_388 : decode prog_8_method_33_code 388 = .ok (.getfield 47, 3) := by decide +kernel
theorem kdX5_compress64_391 : decode prog_8_method_33_code 391 = .ok (.iconst 1, 1) := by decide +kernel
theorem kdX5_compress64_392 : decode prog_8_method_33_code 392 = .ok (.dup2, 1) := by decide +kernel
theorem kdX5_compress64_393 : decode prog_8_method_33_code 393 = .ok (.laload, 1) := by decide +kernel
theorem kdX5_compress64_394 : decode prog_8_method_33_code 394 = .ok (.lload_n 3, 1) := by decide +kernel
theorem kdX5_compress64_395 : decode prog_8_method_33_code 395 = .ok (.ladd, 1) := by decide +kernel
theorem kdX5_compress64_396 : decode prog_8_method_33_code 396 = .ok (.lastore, 1) := by decide +kernel
theorem kdX5_compress64_397 : decode prog_8_method_33_code 397 = .ok (.aload_n 0, 1) := by decide +kernel
theorem kdX5_compress64_398 : decode prog_8_method_33_code 398 = .ok (.getfield 47, 3) := by decide +kernel
theorem kdX5_compress64_401 : decode prog_8_method_33_code 401 = .ok (.iconst 2, 1) := by decide +kernel
theorem kdX5_compress64_402 : decode prog_8_method_33_code 402 = .ok (.dup2, 1) := by decide +kernel
theorem kdX5_compress64_403 : decode prog_8_method_33_code 403 = .ok (.laload, 1) := by decide +kernel
theorem kdX5_compress64_404 : decode prog_8_method_33_code 404 = .ok (.lload 5, 2) := by decide +kernel
theorem kdX5_compress64_406 : decode prog_8_method_33_code 406 = .ok (.ladd, 1) := by decide +kernel
theorem kdX5_compress64_407 : decode prog_8_method_33_code 407 = .ok (.lastore, 1) := by decide +kernel
theorem kdX5_compress64_408 : decode prog_8_method_33_code 408 = .ok (.aload_n 0, 1) := by decide +kernel
theorem kdX5_compress64_409 : decode prog_8_method_33_code 409 = .ok (.getfield 47, 3) := by decide +kernel
theorem kdX5_compress64_412 : decode prog_8_method_33_code 412 = .ok (.iconst 3, 1) := by decide +kernel
theorem kdX5_compress64_413 : decode prog_8_method_33_code 413 = .ok (.dup2, 1) := by decide +kernel
theorem kdX5_compress64_414 : decode prog_8_method_33_code 414 = .ok (.laload, 1) := by decide +kernel
theorem kdX5_compress64_415 : decode prog_8_method_33_code 415 = .ok (.lload 7, 2) := by decide +kernel
theorem kdX5_compress64_417 : decode prog_8_method_33_code 417 = .ok (.ladd, 1) := by decide +kernel
theorem kdX5_compress64_418 : decode prog_8_method_33_code 418 = .ok (.lastore, 1) := by decide +kernel
theorem kdX5_compress64_419 : decode prog_8_method_33_code 419 = .ok (.aload_n 0, 1) := by decide +kernel
theorem kdX5_compress64_420 : decode prog_8_method_33_code 420 = .ok (.getfield 47, 3) := by decide +kernel
theorem kdX5_compress64_423 : decode prog_8_method_33_code 423 = .ok (.iconst 4, 1) := by decide +kernel
theorem kdX5_compress64_424 : decode prog_8_method_33_code 424 = .ok (.dup2, 1) := by decide +kernel
theorem kdX5_compress64_425 : decode prog_8_method_33_code 425 = .ok (.laload, 1) := by decide +kernel
theorem kdX5_compress64_426 : decode prog_8_method_33_code 426 = .ok (.lload 9, 2) := by decide +kernel
theorem kdX5_compress64_428 : decode prog_8_method_33_code 428 = .ok (.ladd, 1) := by decide +kernel
theorem kdX5_compress64_429 : decode prog_8_method_33_code 429 = .ok (.lastore, 1) := by decide +kernel
theorem kdX5_compress64_430 : decode prog_8_method_33_code 430 = .ok (.aload_n 0, 1) := by decide +kernel
theorem kdX5_compress64_431 : decode prog_8_method_33_code 431 = .ok (.getfield 47, 3) := by decide +kernel
theorem kdX5_compress64_434 : decode prog_8_method_33_code 434 = .ok (.iconst 5, 1) := by decide +kernel
theorem kdX5_compress64_435 : decode prog_8_method_33_code 435 = .ok (.dup2, 1) := by decide +kernel
theorem kdX5_compress64_436 : decode prog_8_method_33_code 436 = .ok (.laload, 1) := by decide +kernel
theorem kdX5_compress64_437 : decode prog_8_method_33_code 437 = .ok (.lload 11, 2) := by decide +kernel
theorem kdX5_compress64_439 : decode prog_8_method_33_code 439 = .ok (.ladd, 1) := by decide +kernel
theorem kdX5_compress64_440 : decode prog_8_method_33_code 440 = .ok (.lastore, 1) := by decide +kernel
theorem kdX5_compress64_441 : decode prog_8_method_33_code 441 = .ok (.aload_n 0, 1) := by decide +kernel
theorem kdX5_compress64_442 : decode prog_8_method_33_code 442 = .ok (.getfield 47, 3) := by decide +kernel
theorem kdX5_compress64_445 : decode prog_8_method_33_code 445 = .ok (.bipush 6, 2) := by decide +kernel
theorem kdX5_compress64_447 : decode prog_8_method_33_code 447 = .ok (.dup2, 1) := by decide +kernel
theorem kdX5_compress64_448 : decode prog_8_method_33_code 448 = .ok (.laload, 1) := by decide +kernel
theorem kdX5_compress64_449 : decode prog_8_method_33_code 449 = .ok (.lload 13, 2) := by decide +kernel
theorem kdX5_compress64_451 : decode prog_8_method_33_code 451 = .ok (.ladd, 1) := by decide +kernel
theorem kdX5_compress64_452 : decode prog_8_method_33_code 452 = .ok (.lastore, 1) := by decide +kernel
theorem kdX5_compress64_453 : decode prog_8_method_33_code 453 = .ok (.aload_n 0, 1) := by decide +kernel
theorem kdX5_compress64_454 : decode prog_8_method_33_code 454 = .ok (.getfield 47, 3) := by decide +kernel
theorem kdX5_compress64_457 : decode prog_8_method_33_code 457 = .ok (.bipush 7, 2) := by decide +kernel
theorem kdX5_compress64_459 : decode prog_8_method_33_code 459 = .ok (.dup2, 1) := by decide +kernel
theorem kdX5_compress64_460 : decode prog_8_method_33_code 460 = .ok (.laload, 1) := by decide +kernel
theorem kdX5_compress64_461 : decode prog_8_method_33_code 461 = .ok (.lload 15, 2) := by decide +kernel
theorem kdX5_compress64_463 : decode prog_8_method_33_code 463 = .ok (.ladd, 1) := by decide +kernel
theorem kdX5_compress64_464 : decode prog_8_method_33_code 464 = .ok (.lastore, 1) := by decide +kernel
theorem kdX5_compress64_465 : decode prog_8_method_33_code 465 = .ok (.return_, 1) := by decide +kernel
theorem kdX5_compress32_0 : decode prog_8_method_34_code 0 = .ok (.iconst 0, 1) := by decide +kernel
theorem kdX5_compress32_1 : decode prog_8_method_34_code 1 = .ok (.istore_n 1, 1) := by decide +kernel
theorem kdX5_compress32_2 : decode prog_8_method_34_code 2 = .ok (.iload_n 1, 1) := by decide +kernel
theorem kdX5_compress32_3 : decode prog_8_method_34_code 3 = .ok (.bipush 16, 2) := by decide +kernel
theorem kdX5_compress32_5 : decode prog_8_method_34_code 5 = .ok (.if_icmp .ge 52, 3) := by decide +kernel
theorem kdX5_compress32_8 : decode prog_8_method_34_code 8 = .ok (.iconst 0, 1) := by decide +kernel
theorem kdX5_compress32_9 : decode prog_8_method_34_code 9 = .ok (.istore_n 2, 1) := by decide +kernel
theorem kdX5_compress32_10 : decode prog_8_method_34_code 10 = .ok (.iconst 0, 1) := by decide +kernel
theorem kdX5_compress32_11 : decode prog_8_method_34_code 11 = .ok (.istore_n 3, 1) := by decide +kernel
theorem kdX5_compress32_12 : decode prog_8_method_34_code 12 = .ok (.iload_n 3, 1) := by decide +kernel
theorem kdX5_compress32_13 : decode prog_8_method_34_code 13 = .ok (.iconst 4, 1) := by decide +kernel
theorem kdX5_compress32_14 : decode prog_8_method_34_code 14 = .ok (.if_icmp .ge 29, 3) := by decide +kernel
theorem kdX5_compress32_17 : decode prog_8_method_34_code 17 = .ok (.iload_n 2, 1) := by decide +kernel
theorem kdX5_compress32_18 : decode prog_8_method_34_code 18 = .ok (.bipush 8, 2) := by decide +kernel
theorem kdX5_compress32_20 : decode prog_8_method_34_code 20 = .ok (.ishl, 1) := by decide +kernel
theorem kdX5_compress32_21 : decode prog_8_method_34_code 21 = .ok (.aload_n 0, 1) := by decide +kernel
theorem kdX5_compress32_22 : decode prog_8_method_34_code 22 = .ok (.getfield 59, 3) := by decide +kernel
theorem kdX5_compress32_25 : decode prog_8_method_34_code 25 = .ok (.iconst 4, 1) := by decide +kernel
theorem kdX5_compress32_26 : decode prog_8_method_34_code 26 = .ok (.iload_n 1, 1) := by decide +kernel
theorem kdX5_compress32_27 : decode prog_8_method_34_code 27 = .ok (.imul, 1) := by decide +kernel
theorem kdX5_compress32_28 : decode prog_8_method_34_code 28 = .ok (.iload_n 3, 1) := by decide +kernel
theorem kdX5_compress32_29 : decode prog_8_method_34_code 29 = .ok (.iadd, 1) := by decide +kernel
theorem kdX5_compress32_30 : decode prog_8_method_34_code 30 = .ok (.baload, 1) := by decide +kernel
theorem kdX5_compress32_31 : decode prog_8_method_34_code 31 = .ok (.sipush 255, 3) := by decide +kernel
theorem kdX5_compress32_34 : decode prog_8_method_34_code 34 = .ok (.iand, 1) := by decide +kernel
theorem kdX5_compress32_35 : decode prog_8_method_34_code 35 = .ok (.ior, 1) := by decide +kernel
theorem kdX5_compress32_36 : decode prog_8_method_34_code 36 = .ok (.istore_n 2, 1) := by decide +kernel
theorem kdX5_compress32_37 : decode prog_8_method_34_code 37 = .ok (.iinc 3 1, 3) := by decide +kernel
theorem kdX5_compress32_40 : decode prog_8_method_34_code 40 = .ok (.goto (-28), 3) := by decide +kernel
theorem kdX5_compress32_43 : decode prog_8_method_34_code 43 = .ok (.aload_n 0, 1) := by decide +kernel
theorem kdX5_compress32_44 : decode prog_8_method_34_code 44 = .ok (.getfield 56, 3) := by decide +kernel
theorem kdX5_compress32_47 : decode prog_8_method_34_code 47 = .ok (.iload_n 1, 1) := by decide +kernel
theorem kdX5_compress32_48 : decode prog_8_method_34_code 48 = .ok (.iload_n 2, 1) := by decide +kernel
theorem kdX5_compress32_49 : decode prog_8_method_34_code 49 = .ok (.i2l, 1) := by decide +kernel
theorem kdX5_compress32_50 : decode prog_8_method_34_code 50 = .ok (.lastore, 1) := by decide +kernel
theorem kdX5_compress32_51 : decode prog_8_method_34_code 51 = .ok (.iinc 1 1, 3) := by decide +kernel
theorem kdX5_compress32_54 : decode prog_8_method_34_code 54 = .ok (.goto (-52), 3) := by decide +kernel
theorem kdX5_compress32_57 : decode prog_8_method_34_code 57 = .ok (.bipush 16, 2) := by decide +kernel
theorem kdX5_compress32_59 : decode prog_8_method_34_code 59 = .ok (.istore_n 1, 1) := by decide +kernel
theorem kdX5_compress32_60 : decode prog_8_method_34_code 60 = .ok (.iload_n 1, 1) := by decide +kernel
theorem kdX5_compress32_61 : decode prog_8_method_34_code 61 = .ok (.bipush 64, 2) := by decide +kernel
theorem kdX5_compress32_63 : decode prog_8_method_34_code 63 = .ok (.if_icmp .ge 95, 3) := by decide +kernel
theorem kdX5_compress32_66 : decode prog_8_method_34_code 66 = .ok (.aload_n 0, 1) := by decide +kernel
theorem kdX5_compress32_67 : decode prog_8_method_34_code 67 = .ok (.getfield 56, 3) := by decide +kernel
theorem kdX5_compress32_70 : decode prog_8_method_34_code 70 = .ok (.iload_n 1, 1) := by decide +kernel
theorem kdX5_compress32_71 : decode prog_8_method_34_code 71 = .ok (.iconst 2, 1) := by decide +kernel
theorem kdX5_compress32_72 : decode prog_8_method_34_code 72 = .ok (.isub, 1) := by decide +kernel
theorem kdX5_compress32_73 : decode prog_8_method_34_code 73 = .ok (.laload, 1) := by decide +kernel
theorem kdX5_compress32_74 : decode prog_8_method_34_code 74 = .ok (.l2i, 1) := by decide +kernel
theorem kdX5_compress32_75 : decode prog_8_method_34_code 75 = .ok (.istore_n 2, 1) := by decide +kernel
theorem kdX5_compress32_76 : decode prog_8_method_34_code 76 = .ok (.aload_n 0, 1) := by decide +kernel
theorem kdX5_compress32_77 : decode prog_8_method_34_code 77 = .ok (.getfield 56, 3) := by decide +kernel
theorem kdX5_compress32_80 : decode prog_8_method_34_code 80 = .ok (.iload_n 1, 1) := by decide +kernel
theorem kdX5_compress32_81 : decode prog_8_method_34_code 81 = .ok (.bipush 15, 2) := by decide +kernel
theorem kdX5_compress32_83 : decode prog_8_method_34_code 83 = .ok (.isub, 1) := by decide +kernel
theorem kdX5_compress32_84 : decode prog_8_method_34_code 84 = .ok (.laload, 1) := by decide +kernel
theorem kdX5_compress32_85 : decode prog_8_method_34_code 85 = .ok (.l2i, 1) := by decide +kernel
theorem kdX5_compress32_86 : decode prog_8_method_34_code 86 = .ok (.istore_n 3, 1) := by decide +kernel
theorem kdX5_compress32_87 : decode prog_8_method_34_code 87 = .ok (.aload_n 0, 1) := by decide +kernel
theorem kdX5_compress32_88 : decode prog_8_method_34_code 88 = .ok (.getfield 56, 3) := by decide +kernel
theorem kdX5_compress32_91 : decode prog_8_method_34_code 91 = .ok (.iload_n 1, 1) := by decide +kernel
theorem kdX5_compress32_92 : decode prog_8_method_34_code 92 = .ok (.iload_n 2, 1) := by decide +kernel
theorem kdX5_compress32_93 : decode prog_8_method_34_code 93 = .ok (.bipush 17, 2) := by decide +kernel
theorem kdX5_compress32_95 : decode prog_8_method_34_code 95 = .ok (.invokestatic 192, 3) := by decide +kernel
theorem kdX5_compress32_98 : decode prog_8_method_34_code 98 = .ok (.iload_n 2, 1) := by decide +kernel
theorem kdX5_compress32_99 : decode prog_8_method_34_code 99 = .ok (.bipush 19, 2) := by decide +kernel
theorem kdX5_compress32_101 : decode prog_8_method_34_code 101 = .ok (.invokestatic 192, 3) := by decide +kernel
theorem kdX5_compress32_104 : decode prog_8_method_34_code 104 = .ok (.ixor, 1) := by decide +kernel
theorem kdX5_compress32_105 : decode prog_8_method_34_code 105 = .ok (.iload_n 2, 1) := by decide +kernel
theorem kdX5_compress32_106 : decode prog_8_method_34_code 106 = .ok (.bipush 10, 2) := by decide +kernel
theorem kdX5_compress32_108 : decode prog_8_method_34_code 108 = .ok (.iushr, 1) := by decide +kernel
theorem kdX5_compress32_109 : decode prog_8_method_34_code 109 = .ok (.ixor, 1) := by decide +kernel
theorem kdX5_compress32_110 : decode prog_8_method_34_code 110 = .ok (.aload_n 0, 1) := by decide +kernel
theorem kdX5_compress32_111 : decode prog_8_method_34_code 111 = .ok (.getfield 56, 3) := by decide +kernel
theorem kdX5_compress32_114 : decode prog_8_method_34_code 114 = .ok (.iload_n 1, 1) := by decide +kernel
theorem kdX5_compress32_115 : decode prog_8_method_34_code 115 = .ok (.bipush 7, 2) := by decide +kernel
theorem kdX5_compress32_117 : decode prog_8_method_34_code 117 = .ok (.isub, 1) := by decide +kernel
theorem kdX5_compress32_118 : decode prog_8_method_34_code 118 = .ok (.laload, 1) := by decide +kernel
theorem kdX5_compress32_119 : decode prog_8_method_34_code 119 = .ok (.l2i, 1) := by decide +kernel
theorem kdX5_compress32_120 : decode prog_8_method_34_code 120 = .ok (.iadd, 1) := by decide +kernel
theorem kdX5_compress32_121 : decode prog_8_method_34_code 121 = .ok (.iload_n 3, 1) := by decide +kernel
theorem kdX5_compress32_122 : decode prog_8_method_34_code 122 = .ok (.bipush 7, 2) := by decide +kernel
theorem kdX5_compress32_124 : decode prog_8_method_34_code 124 = .ok (.invokestatic 192, 3) := by decide +kernel
theorem kdX5_compress32_127 : decode prog_8_method_34_code 127 = .ok (.iload_n 3, 1) := by decide +kernel
theorem kdX5_compress32_128 : decode prog_8_method_34_code 128 = .ok (.bipush 18, 2) := by decide +kernel
theorem kdX5_compress32_130 : decode prog_8_method_34_code 130 = .ok (.invokestatic 192, 3) := by decide +kernel
theorem kdX5_compress32_133 : decode prog_8_method_34_code 133 = .ok (.ixor, 1) := by decide +kernel
theorem kdX5_compress32_134 : decode prog_8_method_34_code 134 = .ok (.iload_n 3, 1) := by decide +kernel
theorem kdX5_compress32_135 : decode prog_8_method_34_code 135 = .ok (.iconst 3, 1) := by decide +kernel
theorem kdX5_compress32_136 : decode prog_8_method_34_code 136 = .ok (.iushr, 1) := by decide +kernel
theorem kdX5_compress32_137 : decode prog_8_method_34_code 137 = .ok (.ixor, 1) := by decide +kernel
theorem kdX5_compress32_138 : decode prog_8_method_34_code 138 = .ok (.iadd, 1) := by decide +kernel
theorem kdX5_compress32_139 : decode prog_8_method_34_code 139 = .ok (.aload_n 0, 1) := by decide +kernel
theorem kdX5_compress32_140 : decode prog_8_method_34_code 140 = .ok (.getfield 56, 3) := by decide +kernel
theorem kdX5_compress32_143 : decode prog_8_method_34_code 143 = .ok (.iload_n 1, 1) := by decide +kernel
theorem kdX5_compress32_144 : decode prog_8_method_34_code 144 = .ok (.bipush 16, 2) := by decide +kernel
theorem kdX5_compress32_146 : decode prog_8_method_34_code 146 = .ok (.isub, 1) := by decide +kernel
theorem kdX5_compress32_147 : decode prog_8_method_34_code 147 = .ok (.laload, 1) := by decide +kernel
theorem kdX5_compress32_148 : decode prog_8_method_34_code 148 = .ok (.l2i, 1) := by decide +kernel
theorem kdX5_compress32_149 : decode prog_8_method_34_code 149 = .ok (.iadd, 1) := by decide +kernel
theorem kdX5_compress32_150 : decode prog_8_method_34_code 150 = .ok (.i2l, 1) := by decide +kernel
theorem kdX5_compress32_151 : decode prog_8_method_34_code 151 = .ok (.lastore, 1) := by decide +kernel
theorem kdX5_compress32_152 : decode prog_8_method_34_code 152 = .ok (.iinc 1 1, 3) := by decide +kernel
theorem kdX5_compress32_155 : decode prog_8_method_34_code 155 = .ok (.goto (-95), 3) := by decide +kernel
theorem kdX5_compress32_158 : decode prog_8_method_34_code 158 = .ok (.aload_n 0, 1) := by decide +kernel
theorem kdX5_compress32_159 : decode prog_8_method_34_code 159 = .ok (.getfield 47, 3) := by decide +kernel
theorem kdX5_compress32_162 : decode prog_8_method_34_code 162 = .ok (.iconst 0, 1) := by decide +kernel
theorem kdX5_compress32_163 : decode prog_8_method_34_code 163 = .ok (.laload, 1) := by decide +kernel
theorem kdX5_compress32_164 : decode prog_8_method_34_code 164 = .ok (.l2i, 1) := by decide +kernel
theorem kdX5_compress32_165 : decode prog_8_method_34_code 165 = .ok (.istore_n 1, 1) := by decide +kernel
theorem kdX5_compress32_166 : decode prog_8_method_34_code 166 = .ok (.aload_n 0, 1) := by decide +kernel
theorem kdX5_compress32_167 : decode prog_8_method_34_code 167 = .ok (.getfield 47, 3) := by decide +kernel
theorem kdX5_compress32_170 : decode prog_8_method_34_code 170 = .ok (.iconst 1, 1) := by decide +kernel
theorem kdX5_compress32_171 : decode prog_8_method_34_code 171 = .ok (.laload, 1) := by decide +kernel
theorem kdX5_compress32_172 : decode prog_8_method_34_code 172 = .ok (.l2i, 1) := by decide +kernel
theorem kdX5_compress32_173 : decode prog_8_method_34_code 173 = .ok (.istore_n 2, 1) := by decide +kernel
theorem kdX5_compress32_174 : decode prog_8_method_34_code 174 = .ok (.aload_n 0, 1) := by decide +kernel
theorem kdX5_compress32_175 : decode prog_8_method_34_code 175 = .ok (.getfield 47, 3) := by decide +kernel
theorem kdX5_compress32_178 : decode prog_8_method_34_code 178 = .ok (.iconst 2, 1) := by decide +kernel
theorem kdX5_compress32_179 : decode prog_8_method_34_code 179 = .ok (.laload, 1) := by decide +kernel
theorem kdX5_compress32_180 : decode prog_8_method_34_code 180 = .ok (.l2i, 1) := by decide +kernel
theorem kdX5_compress32_181 : decode prog_8_method_34_code 181 = .ok (.istore_n 3, 1) := by decide +kernel
theorem kdX5_compress32_182 : decode prog_8_method_34_code 182 = .ok (.aload_n 0, 1) := by decide +kernel
theorem kdX5_compress32_183 : decode prog_8_method_34_code 183 = .ok (.getfield 47, 3) := by decide +kernel
theorem kdX5_compress32_186 : decode prog_8_method_34_code 186 = .ok (.iconst 3, 1) := by decide +kernel
theorem kdX5_compress32_187 : decode prog_8_method_34_code 187 = .ok (.laload, 1) := by decide +kernel
theorem kdX5_compress32_188 : decode prog_8_method_34_code 188 = .ok (.l2i, 1) := by decide +kernel
theorem kdX5_compress32_189 : decode prog_8_method_34_code 189 = .ok (.istore 4, 2) := by decide +kernel
theorem kdX5_compress32_191 : decode prog_8_method_34_code 191 = .ok (.aload_n 0, 1) := by decide +kernel
theorem kdX5_compress32_192 : decode prog_8_method_34_code 192 = .ok (.getfield 47, 3) := by decide +kernel
theorem kdX5_compress32_195 : decode prog_8_method_34_code 195 = .ok (.iconst 4, 1) := by decide +kernel
theorem kdX5_compress32_196 : decode prog_8_method_34_code 196 = .ok (.laload, 1) := by decide +kernel
theorem kdX5_compress32_197 : decode prog_8_method_34_code 197 = .ok (.l2i, 1) := by decide +kernel
theorem kdX5_compress32_198 : decode prog_8_method_34_code 198 = .ok (.istore 5, 2) := by decide +kernel
theorem kdX5_compress32_200 : decode prog_8_method_34_code 200 = .ok (.aload_n 0, 1) := by decide +kernel
theorem kdX5_compress32_201 : decode prog_8_method_34_code 201 = .ok (.getfield 47, 3) := by decide +kernel
theorem kdX5_compress32_204 : decode prog_8_method_34_code 204 = .ok (.iconst 5, 1) := by decide +kernel
theorem kdX5_compress32_205 : decode prog_8_method_34_code 205 = .ok (.laload, 1) := by decide +kernel
theorem kdX5_compress32_206 : decode prog_8_method_34_code 206 = .ok (.l2i, 1) := by decide +kernel
theorem kdX5_compress32_207 : decode prog_8_method_34_code 207 = .ok (.istore 6, 2) := by decide +kernel
theorem kdX5_compress32_209 : decode prog_8_method_34_code 209 = .ok (.aload_n 0, 1) := by decide +kernel
theorem kdX5_compress32_210 : decode prog_8_method_34_code 210 = .ok (.getfield 47, 3) := by decide +kernel
theorem kdX5_compress32_213 : decode prog_8_method_34_code 213 = .ok (.bipush 6, 2) := by decide +kernel
theorem kdX5_compress32_215 : decode prog_8_method_34_code 215 = .ok (.laload, 1) := by decide +kernel
theorem kdX5_compress32_216 : decode prog_8_method_34_code 216 = .ok (.l2i, 1) := by decide +kernel
theorem kdX5_compress32_217 : decode prog_8_method_34_code 217 = .ok (.istore 7, 2) := by decide +kernel
theorem kdX5_compress32_219 : decode prog_8_method_34_code 219 = .ok (.aload_n 0, 1) := by decide +kernel
theorem kdX5_compress32_220 : decode prog_8_method_34_code 220 = .ok (.getfield 47, 3) := by decide +kernel
theorem kdX5_compress32_223 : decode prog_8_method_34_code 223 = .ok (.bipush 7, 2) := by decide +kernel
theorem kdX5_compress32_225 : decode prog_8_method_34_code 225 = .ok (.laload, 1) := by decide +kernel
theorem kdX5_compress32_226 : decode prog_8_method_34_code 226 = .ok (.l2i, 1) := by decide +kernel
theorem kdX5_compress32_227 : decode prog_8_method_34_code 227 = .ok (.istore 8, 2) := by decide +kernel
theorem kdX5_compress32_229 : decode prog_8_method_34_code 229 = .ok (.iconst 0, 1) := by decide +kernel
theorem kdX5_compress32_230 : decode prog_8_method_34_code 230 = .ok (.istore 9, 2) := by decide +kernel
theorem kdX5_compress32_232 : decode prog_8_method_34_code 232 = .ok (.iload 9, 2) := by decide +kernel
theorem kdX5_compress32_234 : decode prog_8_method_34_code 234 = .ok (.bipush 64, 2) := by decide +kernel
theorem kdX5_compress32_236 : decode prog_8_method_34_code 236 = .ok (.if_icmp .ge 137, 3) := by decide +kernel
theorem kdX5_compress32_239 : decode prog_8_method_34_code 239 = .ok (.iload 8, 2) := by decide +kernel
theorem kdX5_compress32_241 : decode prog_8_method_34_code 241 = .ok (.iload 5, 2) := by decide +kernel
theorem kdX5_compress32_243 : decode prog_8_method_34_code 243 = .ok (.bipush 6, 2) := by decide +kernel
theorem kdX5_compress32_245 : decode prog_8_method_34_code 245 = .ok (.invokestatic 192, 3) := by decide +kernel
theorem kdX5_compress32_248 : decode prog_8_method_34_code 248 = .ok (.iload 5, 2) := by decide +kernel
theorem kdX5_compress32_250 : decode prog_8_method_34_code 250 = .ok (.bipush 11, 2) := by decide +kernel
theorem kdX5_compress32_252 : decode prog_8_method_34_code 252 = .ok (.invokestatic 192, 3) := by decide +kernel
theorem kdX5_compress32_255 : decode prog_8_method_34_code 255 = .ok (.ixor, 1) := by decide +kernel
theorem kdX5_compress32_256 : decode prog_8_method_34_code 256 = .ok (.iload 5, 2) := by decide +kernel
theorem kdX5_compress32_258 : decode prog_8_method_34_code 258 = .ok (.bipush 25, 2) := by decide +kernel
theorem kdX5_compress32_260 : decode prog_8_method_34_code 260 = .ok (.invokestatic 192, 3) := by decide +kernel
theorem kdX5_compress32_263 : decode prog_8_method_34_code 263 = .ok (.ixor, 1) := by decide +kernel
theorem kdX5_compress32_264 : decode prog_8_method_34_code 264 = .ok (.iadd, 1) := by decide +kernel
theorem kdX5_compress32_265 : decode prog_8_method_34_code 265 = .ok (.iload 5, 2) := by decide +kernel
theorem kdX5_compress32_267 : decode prog_8_method_34_code 267 = .ok (.iload 6, 2) := by decide +kernel
theorem kdX5_compress32_269 : decode prog_8_method_34_code 269 = .ok (.iand, 1) := by decide +kernel
theorem kdX5_compress32_270 : decode prog_8_method_34_code 270 = .ok (.iload 5, 2) := by decide +kernel
theorem kdX5_compress32_272 : decode prog_8_method_34_code 272 = .ok (.iconst (-1), 1) := by decide +kernel
theorem kdX5_compress32_273 : decode prog_8_method_34_code 273 = .ok (.ixor, 1) := by decide +kernel
theorem kdX5_compress32_274 : decode prog_8_method_34_code 274 = .ok (.iload 7, 2) := by decide +kernel
theorem kdX5_compress32_276 : decode prog_8_method_34_code 276 = .ok (.iand, 1) := by decide +kernel
theorem kdX5_compress32_277 : decode prog_8_method_34_code 277 = .ok (.ixor, 1) := by decide +kernel
theorem kdX5_compress32_278 : decode prog_8_method_34_code 278 = .ok (.iadd, 1) := by decide +kernel
theorem kdX5_compress32_279 : decode prog_8_method_34_code 279 = .ok (.aload_n 0, 1) := by decide +kernel
theorem kdX5_compress32_280 : decode prog_8_method_34_code 280 = .ok (.getfield 26, 3) := by decide +kernel
theorem kdX5_compress32_283 : decode prog_8_method_34_code 283 = .ok (.iload 9, 2) := by decide +kernel
theorem kdX5_compress32_285 : decode prog_8_method_34_code 285 = .ok (.laload, 1) := by decide +kernel
theorem kdX5_compress32_286 : decode prog_8_method_34_code 286 = .ok (.bipush 32, 2) := by decide +kernel
theorem kdX5_compress32_288 : decode prog_8_method_34_code 288 = .ok (.lushr, 1) := by decide +kernel
theorem kdX5_compress32_289 : decode prog_8_method_34_code 289 = .ok (.l2i, 1) := by decide +kernel
theorem kdX5_compress32_290 : decode prog_8_method_34_code 290 = .ok (.iadd, 1) := by decide +kernel
theorem kdX5_compress32_291 : decode prog_8_method_34_code 291 = .ok (.aload_n 0, 1) := by decide +kernel
theorem kdX5_compress32_292 : decode prog_8_method_34_code 292 = .ok (.getfield 56, 3) := by decide +kernel
theorem kdX5_compress32_295 : decode prog_8_method_34_code 295 = .ok (.iload 9, 2) := by decide +kernel
theorem kdX5_compress32_297 : decode prog_8_method_34_code 297 = .ok (.laload, 1) := by decide +kernel
theorem kdX5_compress32_298 : decode prog_8_method_34_code 298 = .ok (.l2i, 1) := by decide +kernel
theorem kdX5_compress32_299 : decode prog_8_method_34_code 299 = .ok (.iadd, 1) := by decide +kernel
theorem kdX5_compress32_300 : decode prog_8_method_34_code 300 = .ok (.istore 10, 2) := by decide +kernel
theorem kdX5_compress32_302 : decode prog_8_method_34_code 302 = .ok (.iload_n 1, 1) := by decide +kernel
theorem kdX5_compress32_303 : decode prog_8_method_34_code 303 = .ok (.iconst 2, 1) := by decide +kernel
theorem kdX5_compress32_304 : decode prog_8_method_34_code 304 = .ok (.invokestatic 192, 3) := by decide +kernel
theorem kdX5_compress32_307 : decode prog_8_method_34_code 307 = .ok (.iload_n 1, 1) := by decide +kernel
theorem kdX5_compress32_308 : decode prog_8_method_34_code 308 = .ok (.bipush 13, 2) := by decide +kernel
theorem kdX5_compress32_310 : decode prog_8_method_34_code 310 = .ok (.invokestatic 192, 3) := by decide +kernel
theorem kdX5_compress32_313 : decode prog_8_method_34_code 313 = .ok (.ixor, 1) := by decide +kernel
theorem kdX5_compress32_314 : decode prog_8_method_34_code 314 = .ok (.iload_n 1, 1) := by decide +kernel
theorem kdX5_compress32_315 : decode prog_8_method_34_code 315 = .ok (.bipush 22, 2) := by decide +kernel
theorem kdX5_compress32_317 : decode prog_8_method_34_code 317 = .ok (.invokestatic 192, 3) := by decide +kernel
theorem kdX5_compress32_320 : decode prog_8_method_34_code 320 = .ok (.ixor, 1) := by decide +kernel
theorem kdX5_compress32_321 : decode prog_8_method_34_code 321 = .ok (.iload_n 1, 1) := by decide +kernel
theorem kdX5_compress32_322 : decode prog_8_method_34_code 322 = .ok (.iload_n 2, 1) := by decide +kernel
theorem kdX5_compress32_323 : decode prog_8_method_34_code 323 = .ok (.iand, 1) := by decide +kernel
theorem kdX5_compress32_324 : decode prog_8_method_34_code 324 = .ok (.iload_n 1, 1) := by decide +kernel
theorem kdX5_compress32_325 : decode prog_8_method_34_code 325 = .ok (.iload_n 3, 1) := by decide +kernel
theorem kdX5_compress32_326 : decode prog_8_method_34_code 326 = .ok (.iand, 1) := by decide +kernel
theorem kdX5_compress32_327 : decode prog_8_method_34_code 327 = .ok (.ixor, 1) := by decide +kernel
theorem kdX5_compress32_328 : decode prog_8_method_34_code 328 = .ok (.iload_n 2, 1) := by decide +kernel
theorem kdX5_compress32_329 : decode prog_8_method_34_code 329 = .ok (.iload_n 3, 1) := by decide +kernel
theorem kdX5_compress32_330 : decode prog_8_method_34_code 330 = .ok (.iand, 1) := by decide +kernel
theorem kdX5_compress32_331 : decode prog_8_method_34_code 331 = .ok (.ixor, 1) := by decide +kernel
theorem kdX5_compress32_332 : decode prog_8_method_34_code 332 = .ok (.iadd, 1) := by decide +kernel
theorem kdX5_compress32_333 : decode prog_8_method_34_code 333 = .ok (.istore 11, 2) := by decide +kernel
theorem kdX5_compress32_335 : decode prog_8_method_34_code 335 = .ok (.iload 7, 2) := by decide +kernel
theorem kdX5_compress32_337 : decode prog_8_method_34_code 337 = .ok (.istore 8, 2) := by decide +kernel
theorem kdX5_compress32_339 : decode prog_8_method_34_code 339 = .ok (.iload 6, 2) := by decide +kernel
theorem kdX5_compress32_341 : decode prog_8_method_34_code 341 = .ok (.istore 7, 2) := by decide +kernel
theorem kdX5_compress32_343 : decode prog_8_method_34_code 343 = .ok (.iload 5, 2) := by decide +kernel
theorem kdX5_compress32_345 : decode prog_8_method_34_code 345 = .ok (.istore 6, 2) := by decide +kernel
theorem kdX5_compress32_347 : decode prog_8_method_34_code 347 = .ok (.iload 4, 2) := by decide +kernel
theorem kdX5_compress32_349 : decode prog_8_method_34_code 349 = .ok (.iload 10, 2) := by decide +kernel
theorem kdX5_compress32_351 : decode prog_8_method_34_code 351 = .ok (.iadd, 1) := by decide +kernel
theorem kdX5_compress32_352 : decode prog_8_method_34_code 352 = .ok (.istore 5, 2) := by decide +kernel
theorem kdX5_compress32_354 : decode prog_8_method_34_code 354 = .ok (.iload_n 3, 1) := by decide +kernel
theorem kdX5_compress32_355 : decode prog_8_method_34_code 355 = .ok (.istore 4, 2) := by decide +kernel
theorem kdX5_compress32_357 : decode prog_8_method_34_code 357 = .ok (.iload_n 2, 1) := by decide +kernel
theorem kdX5_compress32_358 : decode prog_8_method_34_code 358 = .ok (.istore_n 3, 1) := by decide +kernel
theorem kdX5_compress32_359 : decode prog_8_method_34_code 359 = .ok (.iload_n 1, 1) := by decide +kernel
theorem kdX5_compress32_360 : decode prog_8_method_34_code 360 = .ok (.istore_n 2, 1) := by decide +kernel
theorem kdX5_compress32_361 : decode prog_8_method_34_code 361 = .ok (.iload 10, 2) := by decide +kernel
theorem kdX5_compress32_363 : decode prog_8_method_34_code 363 = .ok (.iload 11, 2) := by decide +kernel
theorem kdX5_compress32_365 : decode prog_8_method_34_code 365 = .ok (.iadd, 1) := by decide +kernel
theorem kdX5_compress32_366 : decode prog_8_method_34_code 366 = .ok (.istore_n 1, 1) := by decide +kernel
theorem kdX5_compress32_367 : decode prog_8_method_34_code 367 = .ok (.iinc 9 1, 3) := by decide +kernel
theorem kdX5_compress32_370 : decode prog_8_method_34_code 370 = .ok (.goto (-138), 3) := by decide +kernel
theorem kdX5_compress32_373 : decode prog_8_method_34_code 373 = .ok (.aload_n 0, 1) := by decide +kernel
theorem kdX5_compress32_374 : decode prog_8_method_34_code 374 = .ok (.getfield 47, 3) := by decide +kernel
theorem kdX5_compress32_377 : decode prog_8_method_34_code 377 = .ok (.iconst 0, 1) := by decide +kernel
theorem kdX5_compress32_378 : decode prog_8_method_34_code 378 = .ok (.dup2, 1) := by decide +kernel
theorem kdX5_compress32_379 : decode prog_8_method_34_code 379 = .ok (.laload, 1) := by decide +kernel
theorem kdX5_compress32_380 : decode prog_8_method_34_code 380 = .ok (.iload_n 1, 1) := by decide +kernel
theorem kdX5_compress32_381 : decode prog_8_method_34_code 381 = .ok (.i2l, 1) := by decide +kernel
theorem kdX5_compress32_382 : decode prog_8_method_34_code 382 = .ok (.ladd, 1) := by decide +kernel
theorem kdX5_compress32_383 : decode prog_8_method_34_code 383 = .ok (.lastore, 1) := by decide +kernel
theorem kdX5_compress32_384 : decode prog_8_method_34_code 384 = .ok (.aload_n 0, 1) := by decide +kernel
theorem kdX5_compress32_385 : decode prog_8_method_34_code 385 = .ok (.getfield 47, 3) := by decide +kernel
theorem kdX5_compress32_388 : decode prog_8_method_34_code 388 = .ok (.iconst 1, 1) := by decide +kernel
theorem kdX5_compress32_389 : decode prog_8_method_34_code 389 = .ok (.dup2, 1) := by decide +kernel
theorem kdX5_compress32_390 : decode prog_8_method_34_code 390 = .ok (.laload, 1) := by decide +kernel
theorem kdX5_compress32_391 : decode prog_8_method_34_code 391 = .ok (.iload_n 2, 1) := by decide +kernel
theorem kdX5_compress32_392 : decode prog_8_method_34_code 392 = .ok (.i2l, 1) := by decide +kernel
theorem kdX5_compress32_393 : decode prog_8_method_34_code 393 = .ok (.ladd, 1) := by decide +kernel
theorem kdX5_compress32_394 : decode prog_8_method_34_code 394 = .ok (.lastore, 1) := by decide +kernel
theorem kdX5_compress32_395 : decode prog_8_method_34_code 395 = .ok (.aload_n 0, 1) := by decide +kernel
theorem kdX5_compress32_396 : decode prog_8_method_34_code 396 = .ok (.getfield 47, 3) := by decide +kernel
theorem kdX5_compress32_399 : decode prog_8_method_34_code 399 = .ok (.iconst 2, 1) := by decide +kernel
theorem kdX5_compress32_400 : decode prog_8_method_34_code 400 = .ok (.dup2, 1) := by decide +kernel
theorem kdX5_compress32_401 : decode prog_8_method_34_code 401 = .ok (.laload, 1) := by decide +kernel
theorem kdX5_compress32_402 : decode prog_8_method_34_code 402 = .ok (.iload_n 3, 1) := by decide +kernel
theorem kdX5_compress32_403 : decode prog_8_method_34_code 403 = .ok (.i2l, 1) := by decide +kernel
theorem kdX5_compress32_404 : decode prog_8_method_34_code 404 = .ok (.ladd, 1) := by decide +kernel
theorem kdX5_compress32_405 : decode prog_8_method_34_code 405 = .ok (.lastore, 1) := by decide +kernel
theorem kdX5_compress32_406 : decode prog_8_method_34_code 406 = .ok (.aload_n 0, 1) := by decide +kernel
theorem kdX5_compress32_407 : decode prog_8_method_34_code 407 = .ok (.getfield 47, 3) := by decide +kernel
theorem kdX5_compress32_410 : decode prog_8_method_34_code 410 = .ok (.iconst 3, 1) := by decide +kernel
theorem kdX5_compress32_411 : decode prog_8_method_34_code 411 = .ok (.dup2, 1) := by decide +kernel
theorem kdX5_compress32_412 : decode prog_8_method_34_code 412 = .ok (.laload, 1) := by decide +kernel
theorem kdX5_compress32_413 : decode prog_8_method_34_code 413 = .ok (.iload 4, 2) := by decide +kernel
theorem kdX5_compress32_415 : decode prog_8_method_34_code 415 = .ok (.i2l, 1) := by decide +kernel
theorem kdX5_compress32_416 : decode prog_8_method_34_code 416 = .ok (.ladd, 1) := by decide +kernel
theorem kdX5_compress32_417 : decode prog_8_method_34_code 417 = .ok (.lastore, 1) := by decide +kernel
theorem kdX5_compress32_418 : decode prog_8_method_34_code 418 = .ok (.aload_n 0, 1) := by decide +kernel
theorem kdX5_compress32_419 : decode prog_8_method_34_code 419 = .ok (.getfield 47, 3) := by decide +kernel
theorem kdX5_compress32_422 : decode prog_8_method_34_code 422 = .ok (.iconst 4, 1) := by decide +kernel
theorem kdX5_compress32_423 : decode prog_8_method_34_code 423 = .ok (.dup2, 1) := by decide +kernel
theorem kdX5_compress32_424 : decode prog_8_method_34_code 424 = .ok (.laload, 1) := by decide +kernel
theorem kdX5_compress32_425 : decode prog_8_method_34_code 425 = .ok (.iload 5, 2) := by decide +kernel
theorem kdX5_compress32_427 : decode prog_8_method_34_code 427 = .ok (.i2l, 1) := by decide +kernel
theorem kdX5_compress32_428 : decode prog_8_method_34_code 428 = .ok (.ladd, 1) := by decide +kernel
theorem kdX5_compress32_429 : decode prog_8_method_34_code 429 = .ok (.lastore, 1) := by decide +kernel
theorem kdX5_compress32_430 : decode prog_8_method_34_code 430 = .ok (.aload_n 0, 1) := by decide +kernel
theorem kdX5_compress32_431 : decode prog_8_method_34_code 431 = .ok (.getfield 47, 3) := by decide +kernel
theorem kdX5_compress32_434 : decode prog_8_method_34_code 434 = .ok (.iconst 5, 1) := by decide +kernel
theorem kdX5_compress32_435 : decode prog_8_method_34_code 435 = .ok (.dup2, 1) := by decide +kernel
theorem kdX5_compress32_436 : decode prog_8_method_34_code 436 = .ok (.laload, 1) := by decide +kernel
theorem kdX5_compress32_437 : decode prog_8_method_34_code 437 = .ok (.iload 6, 2) := by decide +kernel
theorem kdX5_compress32_439 : decode prog_8_method_34_code 439 = .ok (.i2l, 1) := by decide +kernel
theorem kdX5_compress32_440 : decode prog_8_method_34_code 440 = .ok (.ladd, 1) := by decide +kernel
theorem kdX5_compress32_441 : decode prog_8_method_34_code 441 = .ok (.lastore, 1) := by decide +kernel
theorem kdX5_compress32_442 : decode prog_8_method_34_code 442 = .ok (.aload_n 0, 1) := by decide +kernel
theorem kdX5_compress32_443 : decode prog_8_method_34_code 443 = .ok (.getfield 47, 3) := by decide +kernel
theorem kdX5_compress32_446 : decode prog_8_method_34_code 446 = .ok (.bipush 6, 2) := by decide +kernel
theorem kdX5_compress32_448 : decode prog_8_method_34_code 448 = .ok (.dup2, 1) := by decide +kernel
theorem kdX5_compress32_449 : decode prog_8_method_34_code 449 = .ok (.laload, 1) := by decide +kernel
theorem kdX5_compress32_450 : decode prog_8_method_34_code 450 = .ok (.iload 7, 2) := by decide +kernel
theorem kdX5_compress32_452 : decode prog_8_method_34_code 452 = .ok (.i2l, 1) := by decide +kernel
theorem kdX5_compress32_453 : decode prog_8_method_34_code 453 = .ok (.ladd, 1) := by decide +kernel
theorem kdX5_compress32_454 : decode prog_8_method_34_code 454 = .ok (.lastore, 1) := by decide +kernel
theorem kdX5_compress32_455 : decode prog_8_method_34_code 455 = .ok (.aload_n 0, 1) := by decide +kernel
theorem kdX5_compress32_456 : decode prog_8_method_34_code 456 = .ok (.getfield 47, 3) := by decide +kernel
theorem kdX5_compress32_459 : decode prog_8_method_34_code 459 = .ok (.bipush 7, 2) := by decide +kernel
theorem kdX5_compress32_461 : decode prog_8_method_34_code 461 = .ok (.dup2, 1) := by decide +kernel
theorem kdX5_compress32_462 : decode prog_8_method_34_code 462 = .ok (.laload, 1) := by decide +kernel
theorem kdX5_compress32_463 : decode prog_8_method_34_code 463 = .ok (.iload 8, 2) := by decide +kernel
theorem kdX5_compress32_465 : decode prog_8_method_34_code 465 = .ok (.i2l, 1) := by decide +kernel
theorem kdX5_compress32_466 : decode prog_8_method_34_code 466 = .ok (.ladd, 1) := by decide +kernel
theorem kdX5_compress32_467 : decode prog_8_method_34_code 467 = .ok (.lastore, 1) := by decide +kernel
theorem kdX5_compress32_468 : decode prog_8_method_34_code 468 = .ok (.return_, 1) := by decide +kernel
theorem kdX5_finish_0 : decode prog_8_method_35_code 0 = .ok (.aload_n 0, 1) := by decide +kernel
theorem kdX5_finish_1 : decode prog_8_method_35_code 1 = .ok (.invokevirtual 166, 3) := by decide +kernel
theorem kdX5_finish_4 : decode prog_8_method_35_code 4 = .ok (.ifCond .eq 50, 3) := by decide +kernel
theorem kdX5_finish_7 : decode prog_8_method_35_code 7 = .ok (.aload_n 0, 1) := by decide +kernel
theorem kdX5_finish_8 : decode prog_8_method_35_code 8 = .ok (.aload_n 0, 1) := by decide +kernel
theorem kdX5_finish_9 : decode prog_8_method_35_code 9 = .ok (.getfield 148, 3) := by decide +kernel
theorem kdX5_finish_12 : decode prog_8_method_35_code 12 = .ok (.aload_n 0, 1) := by decide +kernel
theorem kdX5_finish_13 : decode prog_8_method_35_code 13 = .ok (.getfield 145, 3) := by decide +kernel
theorem kdX5_finish_16 : decode prog_8_method_35_code 16 = .ok (.bipush 10, 2) := by decide +kernel
theorem kdX5_finish_18 : decode prog_8_method_35_code 18 = .ok (.if_icmp .le 8, 3) := by decide +kernel
theorem kdX5_finish_21 : decode prog_8_method_35_code 21 = .ok (.bipush 31, 2) := by decide +kernel
theorem kdX5_finish_23 : decode prog_8_method_35_code 23 = .ok (.goto 5, 3) := by decide +kernel
theorem kdX5_finish_26 : decode prog_8_method_35_code 26 = .ok (.bipush 6, 2) := by decide +kernel
theorem kdX5_finish_28 : decode prog_8_method_35_code 28 = .ok (.invokevirtual 170, 3) := by decide +kernel
theorem kdX5_finish_31 : decode prog_8_method_35_code 31 = .ok (.aload_n 0, 1) := by decide +kernel
theorem kdX5_finish_32 : decode prog_8_method_35_code 32 = .ok (.aload_n 0, 1) := by decide +kernel
theorem kdX5_finish_33 : decode prog_8_method_35_code 33 = .ok (.getfield 161, 3) := by decide +kernel
theorem kdX5_finish_36 : decode prog_8_method_35_code 36 = .ok (.iconst 1, 1) := by decide +kernel
theorem kdX5_finish_37 : decode prog_8_method_35_code 37 = .ok (.isub, 1) := by decide +kernel
theorem kdX5_finish_38 : decode prog_8_method_35_code 38 = .ok (.sipush 128, 3) := by decide +kernel
theorem kdX5_finish_41 : decode prog_8_method_35_code 41 = .ok (.invokevirtual 170, 3) := by decide +kernel
theorem kdX5_finish_44 : decode prog_8_method_35_code 44 = .ok (.aload_n 0, 1) := by decide +kernel
theorem kdX5_finish_45 : decode prog_8_method_35_code 45 = .ok (.invokevirtual 174, 3) := by decide +kernel
theorem kdX5_finish_48 : decode prog_8_method_35_code 48 = .ok (.aload_n 0, 1) := by decide +kernel
theorem kdX5_finish_49 : decode prog_8_method_35_code 49 = .ok (.iconst 0, 1) := by decide +kernel
theorem kdX5_finish_50 : decode prog_8_method_35_code 50 = .ok (.putfield 148, 3) := by decide +kernel
theorem kdX5_finish_53 : decode prog_8_method_35_code 53 = .ok (.return_, 1) := by decide +kernel
theorem kdX5_finish_54 : decode prog_8_method_35_code 54 = .ok (.ldc2_w 196, 3) := by decide +kernel
theorem kdX5_finish_57 : decode prog_8_method_35_code 57 = .ok (.aload_n 0, 1) := by decide +kernel
theorem kdX5_finish_58 : decode prog_8_method_35_code 58 = .ok (.getfield 151, 3) := by decide +kernel
theorem kdX5_finish_61 : decode prog_8_method_35_code 61 = .ok (.lmul, 1) := by decide +kernel
theorem kdX5_finish_62 : decode prog_8_method_35_code 62 = .ok (.lstore_n 1, 1) := by decide +kernel
theorem kdX5_finish_63 : decode prog_8_method_35_code 63 = .ok (.aload_n 0, 1) := by decide +kernel
theorem kdX5_finish_64 : decode prog_8_method_35_code 64 = .ok (.sipush 128, 3) := by decide +kernel
theorem kdX5_finish_67 : decode prog_8_method_35_code 67 = .ok (.invokevirtual 139, 3) := by decide +kernel
theorem kdX5_finish_70 : decode prog_8_method_35_code 70 = .ok (.aload_n 0, 1) := by decide +kernel
theorem kdX5_finish_71 : decode prog_8_method_35_code 71 = .ok (.getfield 148, 3) := by decide +kernel
theorem kdX5_finish_74 : decode prog_8_method_35_code 74 = .ok (.aload_n 0, 1) := by decide +kernel
theorem kdX5_finish_75 : decode prog_8_method_35_code 75 = .ok (.getfield 161, 3) := by decide +kernel
theorem kdX5_finish_78 : decode prog_8_method_35_code 78 = .ok (.aload_n 0, 1) := by decide +kernel
theorem kdX5_finish_79 : decode prog_8_method_35_code 79 = .ok (.getfield 161, 3) := by decide +kernel
theorem kdX5_finish_82 : decode prog_8_method_35_code 82 = .ok (.bipush 8, 2) := by decide +kernel
theorem kdX5_finish_84 : decode prog_8_method_35_code 84 = .ok (.idiv, 1) := by decide +kernel
theorem kdX5_finish_85 : decode prog_8_method_35_code 85 = .ok (.isub, 1) := by decide +kernel
theorem kdX5_finish_86 : decode prog_8_method_35_code 86 = .ok (.if_icmp .eq 11, 3) := by decide +kernel
theorem kdX5_finish_89 : decode prog_8_method_35_code 89 = .ok (.aload_n 0, 1) := by decide +kernel
theorem kdX5_finish_90 : decode prog_8_method_35_code 90 = .ok (.iconst 0, 1) := by decide +kernel
theorem kdX5_finish_91 : decode prog_8_method_35_code 91 = .ok (.invokevirtual 139, 3) := by decide +kernel
theorem kdX5_finish_94 : decode prog_8_method_35_code 94 = .ok (.goto (-24), 3) := by decide +kernel
theorem kdX5_finish_97 : decode prog_8_method_35_code 97 = .ok (.aload_n 0, 1) := by decide +kernel
theorem kdX5_finish_98 : decode prog_8_method_35_code 98 = .ok (.getfield 161, 3) := by decide +kernel
theorem kdX5_finish_101 : decode prog_8_method_35_code 101 = .ok (.bipush 8, 2) := by decide +kernel
theorem kdX5_finish_103 : decode prog_8_method_35_code 103 = .ok (.idiv, 1) := by decide +kernel
theorem kdX5_finish_104 : decode prog_8_method_35_code 104 = .ok (.iconst 1, 1) := by decide +kernel
theorem kdX5_finish_105 : decode prog_8_method_35_code 105 = .ok (.isub, 1) := by decide +kernel
theorem kdX5_finish_106 : decode prog_8_method_35_code 106 = .ok (.istore_n 3, 1) := by decide +kernel
theorem kdX5_finish_107 : decode prog_8_method_35_code 107 = .ok (.iload_n 3, 1) := by decide +kernel
theorem kdX5_finish_108 : decode prog_8_method_35_code 108 = .ok (.ifCond .lt 30, 3) := by decide +kernel
theorem kdX5_finish_111 : decode prog_8_method_35_code 111 = .ok (.aload_n 0, 1) := by decide +kernel
theorem kdX5_finish_112 : decode prog_8_method_35_code 112 = .ok (.iload_n 3, 1) := by decide +kernel
theorem kdX5_finish_113 : decode prog_8_method_35_code 113 = .ok (.bipush 8, 2) := by decide +kernel
theorem kdX5_finish_115 : decode prog_8_method_35_code 115 = .ok (.if_icmp .ge 13, 3) := by decide +kernel
theorem kdX5_finish_118 : decode prog_8_method_35_code 118 = .ok (.lload_n 1, 1) := by decide +kernel
theorem kdX5_finish_119 : decode prog_8_method_35_code 119 = .ok (.bipush 8, 2) := by decide +kernel
theorem kdX5_finish_121 : decode prog_8_method_35_code 121 = .ok (.iload_n 3, 1) := by decide +kernel
theorem kdX5_finish_122 : decode prog_8_method_35_code 122 = .ok (.imul, 1) := by decide +kernel
theorem kdX5_finish_123 : decode prog_8_method_35_code 123 = .ok (.lushr, 1) := by decide +kernel
theorem kdX5_finish_124 : decode prog_8_method_35_code 124 = .ok (.l2i, 1) := by decide +kernel
theorem kdX5_finish_125 : decode prog_8_method_35_code 125 = .ok (.goto 4, 3) := by decide +kernel
theorem kdX5_finish_128 : decode prog_8_method_35_code 128 = .ok (.iconst 0, 1) := by decide +kernel
theorem kdX5_finish_129 : decode prog_8_method_35_code 129 = .ok (.invokevirtual 139, 3) := by decide +kernel
theorem kdX5_finish_132 : decode prog_8_method_35_code 132 = .ok (.iinc 3 (-1), 3) := by decide +kernel
theorem kdX5_finish_135 : decode prog_8_method_35_code 135 = .ok (.goto (-28), 3) := by decide +kernel
theorem kdX5_finish_138 : decode prog_8_method_35_code 138 = .ok (.return_, 1) := by decide +kernel
theorem kdX5_squeeze_0 : decode prog_8_method_36_code 0 = .ok (.aload_n 0, 1) := by decide +kernel
theorem kdX5_squeeze_1 : decode prog_8_method_36_code 1 = .ok (.getfield 148, 3) := by decide +kernel
theorem kdX5_squeeze_4 : decode prog_8_method_36_code 4 = .ok (.aload_n 0, 1) := by decide +kernel
theorem kdX5_squeeze_5 : decode prog_8_method_36_code 5 = .ok (.getfield 161, 3) := by decide +kernel
theorem kdX5_squeeze_8 : decode prog_8_method_36_code 8 = .ok (.if_icmp .ne 12, 3) := by decide +kernel
theorem kdX5_squeeze_11 : decode prog_8_method_36_code 11 = .ok (.aload_n 0, 1) := by decide +kernel
theorem kdX5_squeeze_12 : decode prog_8_method_36_code 12 = .ok (.invokevirtual 174, 3) := by decide +kernel
theorem kdX5_squeeze_15 : decode prog_8_method_36_code 15 = .ok (.aload_n 0, 1) := by decide +kernel
theorem kdX5_squeeze_16 : decode prog_8_method_36_code 16 = .ok (.iconst 0, 1) := by decide +kernel
theorem kdX5_squeeze_17 : decode prog_8_method_36_code 17 = .ok (.putfield 148, 3) := by decide +kernel
theorem kdX5_squeeze_20 : decode prog_8_method_36_code 20 = .ok (.aload_n 0, 1) := by decide +kernel
theorem kdX5_squeeze_21 : decode prog_8_method_36_code 21 = .ok (.getfield 47, 3) := by decide +kernel
theorem kdX5_squeeze_24 : decode prog_8_method_36_code 24 = .ok (.aload_n 0, 1) := by decide +kernel
theorem kdX5_squeeze_25 : decode prog_8_method_36_code 25 = .ok (.getfield 148, 3) := by decide +kernel
theorem kdX5_squeeze_28 : decode prog_8_method_36_code 28 = .ok (.bipush 8, 2) := by decide +kernel
theorem kdX5_squeeze_30 : decode prog_8_method_36_code 30 = .ok (.idiv, 1) := by decide +kernel
theorem kdX5_squeeze_31 : decode prog_8_method_36_code 31 = .ok (.laload, 1) := by decide +kernel
theorem kdX5_squeeze_32 : decode prog_8_method_36_code 32 = .ok (.bipush 8, 2) := by decide +kernel
theorem kdX5_squeeze_34 : decode prog_8_method_36_code 34 = .ok (.aload_n 0, 1) := by decide +kernel
theorem kdX5_squeeze_35 : decode prog_8_method_36_code 35 = .ok (.getfield 148, 3) := by decide +kernel
theorem kdX5_squeeze_38 : decode prog_8_method_36_code 38 = .ok (.bipush 8, 2) := by decide +kernel
theorem kdX5_squeeze_40 : decode prog_8_method_36_code 40 = .ok (.irem, 1) := by decide +kernel
theorem kdX5_squeeze_41 : decode prog_8_method_36_code 41 = .ok (.imul, 1) := by decide +kernel
theorem kdX5_squeeze_42 : decode prog_8_method_36_code 42 = .ok (.lushr, 1) := by decide +kernel
theorem kdX5_squeeze_43 : decode prog_8_method_36_code 43 = .ok (.l2i, 1) := by decide +kernel
theorem kdX5_squeeze_44 : decode prog_8_method_36_code 44 = .ok (.sipush 255, 3) := by decide +kernel
theorem kdX5_squeeze_47 : decode prog_8_method_36_code 47 = .ok (.iand, 1) := by decide +kernel
theorem kdX5_squeeze_48 : decode prog_8_method_36_code 48 = .ok (.istore_n 1, 1) := by decide +kernel
theorem kdX5_squeeze_49 : decode prog_8_method_36_code 49 = .ok (.aload_n 0, 1) := by decide +kernel
theorem kdX5_squeeze_50 : decode prog_8_method_36_code 50 = .ok (.dup, 1) := by decide +kernel
theorem kdX5_squeeze_51 : decode prog_8_method_36_code 51 = .ok (.getfield 148, 3) := by decide +kernel
theorem kdX5_squeeze_54 : decode prog_8_method_36_code 54 = .ok (.iconst 1, 1) := by decide +kernel
theorem kdX5_squeeze_55 : decode prog_8_method_36_code 55 = .ok (.iadd, 1) := by decide +kernel
theorem kdX5_squeeze_56 : decode prog_8_method_36_code 56 = .ok (.putfield 148, 3) := by decide +kernel
theorem kdX5_squeeze_59 : decode prog_8_method_36_code 59 = .ok (.iload_n 1, 1) := by decide +kernel
theorem kdX5_squeeze_60 : decode prog_8_method_36_code 60 = .ok (.ireturn, 1) := by decide +kernel
theorem kdX5_give_0 : decode prog_8_method_37_code 0 = .ok (.aload_n 0, 1) := by decide +kernel
theorem kdX5_give_1 : decode prog_8_method_37_code 1 = .ok (.invokevirtual 142, 3) := by decide +kernel
theorem kdX5_give_4 : decode prog_8_method_37_code 4 = .ok (.iconst 0, 1) := by decide +kernel
theorem kdX5_give_5 : decode prog_8_method_37_code 5 = .ok (.istore 4, 2) := by decide +kernel
theorem kdX5_give_7 : decode prog_8_method_37_code 7 = .ok (.iload 4, 2) := by decide +kernel
theorem kdX5_give_9 : decode prog_8_method_37_code 9 = .ok (.iload_n 3, 1) := by decide +kernel
theorem kdX5_give_10 : decode prog_8_method_37_code 10 = .ok (.if_icmp .ge 92, 3) := by decide +kernel
theorem kdX5_give_13 : decode prog_8_method_37_code 13 = .ok (.aload_n 0, 1) := by decide +kernel
theorem kdX5_give_14 : decode prog_8_method_37_code 14 = .ok (.invokevirtual 166, 3) := by decide +kernel
theorem kdX5_give_17 : decode prog_8_method_37_code 17 = .ok (.ifCond .eq 17, 3) := by decide +kernel
theorem kdX5_give_20 : decode prog_8_method_37_code 20 = .ok (.aload_n 1, 1) := by decide +kernel
theorem kdX5_give_21 : decode prog_8_method_37_code 21 = .ok (.iload_n 2, 1) := by decide +kernel
theorem kdX5_give_22 : decode prog_8_method_37_code 22 = .ok (.iload 4, 2) := by decide +kernel
theorem kdX5_give_24 : decode prog_8_method_37_code 24 = .ok (.iadd, 1) := by decide +kernel
theorem kdX5_give_25 : decode prog_8_method_37_code 25 = .ok (.aload_n 0, 1) := by decide +kernel
theorem kdX5_give_26 : decode prog_8_method_37_code 26 = .ok (.invokevirtual 198, 3) := by decide +kernel
theorem kdX5_give_29 : decode prog_8_method_37_code 29 = .ok (.i2b, 1) := by decide +kernel
theorem kdX5_give_30 : decode prog_8_method_37_code 30 = .ok (.bastore, 1) := by decide +kernel
theorem kdX5_give_31 : decode prog_8_method_37_code 31 = .ok (.goto 65, 3) := by decide +kernel
theorem kdX5_give_34 : decode prog_8_method_37_code 34 = .ok (.aload_n 1, 1) := by decide +kernel
theorem kdX5_give_35 : decode prog_8_method_37_code 35 = .ok (.iload_n 2, 1) := by decide +kernel
theorem kdX5_give_36 : decode prog_8_method_37_code 36 = .ok (.iload 4, 2) := by decide +kernel
theorem kdX5_give_38 : decode prog_8_method_37_code 38 = .ok (.iadd, 1) := by decide +kernel
theorem kdX5_give_39 : decode prog_8_method_37_code 39 = .ok (.aload_n 0, 1) := by decide +kernel
theorem kdX5_give_40 : decode prog_8_method_37_code 40 = .ok (.getfield 161, 3) := by decide +kernel
theorem kdX5_give_43 : decode prog_8_method_37_code 43 = .ok (.bipush 64, 2) := by decide +kernel
theorem kdX5_give_45 : decode prog_8_method_37_code 45 = .ok (.if_icmp .ne 26, 3) := by decide +kernel
theorem kdX5_give_48 : decode prog_8_method_37_code 48 = .ok (.aload_n 0, 1) := by decide +kernel
theorem kdX5_give_49 : decode prog_8_method_37_code 49 = .ok (.getfield 47, 3) := by decide +kernel
theorem kdX5_give_52 : decode prog_8_method_37_code 52 = .ok (.iload 4, 2) := by decide +kernel
theorem kdX5_give_54 : decode prog_8_method_37_code 54 = .ok (.iconst 4, 1) := by decide +kernel
theorem kdX5_give_55 : decode prog_8_method_37_code 55 = .ok (.idiv, 1) := by decide +kernel
theorem kdX5_give_56 : decode prog_8_method_37_code 56 = .ok (.laload, 1) := by decide +kernel
theorem kdX5_give_57 : decode prog_8_method_37_code 57 = .ok (.bipush 24, 2) := by decide +kernel
theorem kdX5_give_59 : decode prog_8_method_37_code 59 = .ok (.bipush 8, 2) := by decide +kernel
theorem kdX5_give_61 : decode prog_8_method_37_code 61 = .ok (.iload 4, 2) := by decide +kernel
theorem kdX5_give_63 : decode prog_8_method_37_code 63 = .ok (.iconst 4, 1) := by decide +kernel
theorem kdX5_give_64 : decode prog_8_method_37_code 64 = .ok (.irem, 1) := by decide +kernel
theorem kdX5_give_65 : decode prog_8_method_37_code 65 = .ok (.imul, 1) := by decide +kernel
theorem kdX5_give_66 : decode prog_8_method_37_code 66 = .ok (.isub, 1) := by decide +kernel
theorem kdX5_give_67 : decode prog_8_method_37_code 67 = .ok (.lushr, 1) := by decide +kernel
theorem kdX5_give_68 : decode prog_8_method_37_code 68 = .ok (.goto 25, 3) := by decide +kernel
theorem kdX5_give_71 : decode prog_8_method_37_code 71 = .ok (.aload_n 0, 1) := by decide +kernel
theorem kdX5_give_72 : decode prog_8_method_37_code 72 = .ok (.getfield 47, 3) := by decide +kernel
theorem kdX5_give_75 : decode prog_8_method_37_code 75 = .ok (.iload 4, 2) := by decide +kernel
theorem kdX5_give_77 : decode prog_8_method_37_code 77 = .ok (.bipush 8, 2) := by decide +kernel
theorem kdX5_give_79 : decode prog_8_method_37_code 79 = .ok (.idiv, 1) := by decide +kernel
theorem kdX5_give_80 : decode prog_8_method_37_code 80 = .ok (.laload, 1) := by decide +kernel
theorem kdX5_give_81 : decode prog_8_method_37_code 81 = .ok (.bipush 56, 2) := by decide +kernel
theorem kdX5_give_83 : decode prog_8_method_37_code 83 = .ok (.bipush 8, 2) := by decide +kernel
theorem kdX5_give_85 : decode prog_8_method_37_code 85 = .ok (.iload 4, 2) := by decide +kernel
theorem kdX5_give_87 : decode prog_8_method_37_code 87 = .ok (.bipush 8, 2) := by decide +kernel
theorem kdX5_give_89 : decode prog_8_method_37_code 89 = .ok (.irem, 1) := by decide +kernel
theorem kdX5_give_90 : decode prog_8_method_37_code 90 = .ok (.imul, 1) := by decide +kernel
theorem kdX5_give_91 : decode prog_8_method_37_code 91 = .ok (.isub, 1) := by decide +kernel
theorem kdX5_give_92 : decode prog_8_method_37_code 92 = .ok (.lushr, 1) := by decide +kernel
theorem kdX5_give_93 : decode prog_8_method_37_code 93 = .ok (.l2i, 1) := by decide +kernel
theorem kdX5_give_94 : decode prog_8_method_37_code 94 = .ok (.i2b, 1) := by decide +kernel
theorem kdX5_give_95 : decode prog_8_method_37_code 95 = .ok (.bastore, 1) := by decide +kernel
theorem kdX5_give_96 : decode prog_8_method_37_code 96 = .ok (.iinc 4 1, 3) := by decide +kernel
theorem kdX5_give_99 : decode prog_8_method_37_code 99 = .ok (.goto (-92), 3) := by decide +kernel
theorem kdX5_give_102 : decode prog_8_method_37_code 102 = .ok (.return_, 1) := by decide +kernel
theorem kdX5_clear_0 : decode prog_8_method_38_code 0 = .ok (.iconst 0, 1) := by decide +kernel
theorem kdX5_clear_1 : decode prog_8_method_38_code 1 = .ok (.istore_n 1, 1) := by decide +kernel
theorem kdX5_clear_2 : decode prog_8_method_38_code 2 = .ok (.iload_n 1, 1) := by decide +kernel
theorem kdX5_clear_3 : decode prog_8_method_38_code 3 = .ok (.sipush 256, 3) := by decide +kernel
theorem kdX5_clear_6 : decode prog_8_method_38_code 6 = .ok (.if_icmp .ge 13, 3) := by decide +kernel
theorem kdX5_clear_9 : decode prog_8_method_38_code 9 = .ok (.aload_n 0, 1) := by decide +kernel
theorem kdX5_clear_10 : decode prog_8_method_38_code 10 = .ok (.iload_n 1, 1) := by decide +kernel
theorem kdX5_clear_11 : decode prog_8_method_38_code 11 = .ok (.iconst 0, 1) := by decide +kernel
theorem kdX5_clear_12 : decode prog_8_method_38_code 12 = .ok (.iastore, 1) := by decide +kernel
theorem kdX5_clear_13 : decode prog_8_method_38_code 13 = .ok (.iinc 1 1, 3) := by decide +kernel
theorem kdX5_clear_16 : decode prog_8_method_38_code 16 = .ok (.goto (-14), 3) := by decide +kernel
theorem kdX5_clear_19 : decode prog_8_method_38_code 19 = .ok (.return_, 1) := by decide +kernel
theorem kdX5_turned_0 : decode prog_8_method_39_code 0 = .ok (.iconst 0, 1) := by decide +kernel
theorem kdX5_turned_1 : decode prog_8_method_39_code 1 = .ok (.istore_n 2, 1) := by decide +kernel
theorem kdX5_turned_2 : decode prog_8_method_39_code 2 = .ok (.iconst 0, 1) := by decide +kernel
theorem kdX5_turned_3 : decode prog_8_method_39_code 3 = .ok (.istore_n 3, 1) := by decide +kernel
theorem kdX5_turned_4 : decode prog_8_method_39_code 4 = .ok (.iload_n 3, 1) := by decide +kernel
theorem kdX5_turned_5 : decode prog_8_method_39_code 5 = .ok (.iload_n 1, 1) := by decide +kernel
theorem kdX5_turned_6 : decode prog_8_method_39_code 6 = .ok (.if_icmp .ge 28, 3) := by decide +kernel
theorem kdX5_turned_9 : decode prog_8_method_39_code 9 = .ok (.iload_n 0, 1) := by decide +kernel
theorem kdX5_turned_10 : decode prog_8_method_39_code 10 = .ok (.iload_n 3, 1) := by decide +kernel
theorem kdX5_turned_11 : decode prog_8_method_39_code 11 = .ok (.ishr, 1) := by decide +kernel
theorem kdX5_turned_12 : decode prog_8_method_39_code 12 = .ok (.iconst 1, 1) := by decide +kernel
theorem kdX5_turned_13 : decode prog_8_method_39_code 13 = .ok (.iand, 1) := by decide +kernel
theorem kdX5_turned_14 : decode prog_8_method_39_code 14 = .ok (.iconst 1, 1) := by decide +kernel
theorem kdX5_turned_15 : decode prog_8_method_39_code 15 = .ok (.if_icmp .ne 13, 3) := by decide +kernel
theorem kdX5_turned_18 : decode prog_8_method_39_code 18 = .ok (.iload_n 2, 1) := by decide +kernel
theorem kdX5_turned_19 : decode prog_8_method_39_code 19 = .ok (.iconst 1, 1) := by decide +kernel
theorem kdX5_turned_20 : decode prog_8_method_39_code 20 = .ok (.iload_n 1, 1) := by decide +kernel
theorem kdX5_turned_21 : decode prog_8_method_39_code 21 = .ok (.iconst 1, 1) := by decide +kernel
theorem kdX5_turned_22 : decode prog_8_method_39_code 22 = .ok (.isub, 1) := by decide +kernel
theorem kdX5_turned_23 : decode prog_8_method_39_code 23 = .ok (.iload_n 3, 1) := by decide +kernel
theorem kdX5_turned_24 : decode prog_8_method_39_code 24 = .ok (.isub, 1) := by decide +kernel
theorem kdX5_turned_25 : decode prog_8_method_39_code 25 = .ok (.ishl, 1) := by decide +kernel
theorem kdX5_turned_26 : decode prog_8_method_39_code 26 = .ok (.ior, 1) := by decide +kernel
theorem kdX5_turned_27 : decode prog_8_method_39_code 27 = .ok (.istore_n 2, 1) := by decide +kernel
theorem kdX5_turned_28 : decode prog_8_method_39_code 28 = .ok (.iinc 3 1, 3) := by decide +kernel
theorem kdX5_turned_31 : decode prog_8_method_39_code 31 = .ok (.goto (-27), 3) := by decide +kernel
theorem kdX5_turned_34 : decode prog_8_method_39_code 34 = .ok (.iload_n 2, 1) := by decide +kernel
theorem kdX5_turned_35 : decode prog_8_method_39_code 35 = .ok (.ireturn, 1) := by decide +kernel
theorem kdX5_bitOf_0 : decode prog_8_method_40_code 0 = .ok (.aload_n 0, 1) := by decide +kernel
theorem kdX5_bitOf_1 : decode prog_8_method_40_code 1 = .ok (.iload_n 1, 1) := by decide +kernel
theorem kdX5_bitOf_2 : decode prog_8_method_40_code 2 = .ok (.iload_n 2, 1) := by decide +kernel
theorem kdX5_bitOf_3 : decode prog_8_method_40_code 3 = .ok (.bipush 8, 2) := by decide +kernel
theorem kdX5_bitOf_5 : decode prog_8_method_40_code 5 = .ok (.idiv, 1) := by decide +kernel
theorem kdX5_bitOf_6 : decode prog_8_method_40_code 6 = .ok (.iadd, 1) := by decide +kernel
theorem kdX5_bitOf_7 : decode prog_8_method_40_code 7 = .ok (.baload, 1) := by decide +kernel
theorem kdX5_bitOf_8 : decode prog_8_method_40_code 8 = .ok (.iload_n 2, 1) := by decide +kernel
theorem kdX5_bitOf_9 : decode prog_8_method_40_code 9 = .ok (.bipush 8, 2) := by decide +kernel
theorem kdX5_bitOf_11 : decode prog_8_method_40_code 11 = .ok (.irem, 1) := by decide +kernel
theorem kdX5_bitOf_12 : decode prog_8_method_40_code 12 = .ok (.ishr, 1) := by decide +kernel
theorem kdX5_bitOf_13 : decode prog_8_method_40_code 13 = .ok (.iconst 1, 1) := by decide +kernel
theorem kdX5_bitOf_14 : decode prog_8_method_40_code 14 = .ok (.iand, 1) := by decide +kernel
theorem kdX5_bitOf_15 : decode prog_8_method_40_code 15 = .ok (.ireturn, 1) := by decide +kernel
theorem kdX5_putBits_0 : decode prog_8_method_41_code 0 = .ok (.iconst 0, 1) := by decide +kernel
theorem kdX5_putBits_1 : decode prog_8_method_41_code 1 = .ok (.istore 5, 2) := by decide +kernel
theorem kdX5_putBits_3 : decode prog_8_method_41_code 3 = .ok (.iload 5, 2) := by decide +kernel
theorem kdX5_putBits_5 : decode prog_8_method_41_code 5 = .ok (.iload 4, 2) := by decide +kernel
theorem kdX5_putBits_7 : decode prog_8_method_41_code 7 = .ok (.if_icmp .ge 62, 3) := by decide +kernel
theorem kdX5_putBits_10 : decode prog_8_method_41_code 10 = .ok (.aload_n 0, 1) := by decide +kernel
theorem kdX5_putBits_11 : decode prog_8_method_41_code 11 = .ok (.getfield 202, 3) := by decide +kernel
theorem kdX5_putBits_14 : decode prog_8_method_41_code 14 = .ok (.iload 5, 2) := by decide +kernel
theorem kdX5_putBits_16 : decode prog_8_method_41_code 16 = .ok (.iadd, 1) := by decide +kernel
theorem kdX5_putBits_17 : decode prog_8_method_41_code 17 = .ok (.istore 6, 2) := by decide +kernel
theorem kdX5_putBits_19 : decode prog_8_method_41_code 19 = .ok (.iload 6, 2) := by decide +kernel
theorem kdX5_putBits_21 : decode prog_8_method_41_code 21 = .ok (.bipush 8, 2) := by decide +kernel
theorem kdX5_putBits_23 : decode prog_8_method_41_code 23 = .ok (.irem, 1) := by decide +kernel
theorem kdX5_putBits_24 : decode prog_8_method_41_code 24 = .ok (.ifCond .ne 13, 3) := by decide +kernel
theorem kdX5_putBits_27 : decode prog_8_method_41_code 27 = .ok (.aload_n 1, 1) := by decide +kernel
theorem kdX5_putBits_28 : decode prog_8_method_41_code 28 = .ok (.iload_n 2, 1) := by decide +kernel
theorem kdX5_putBits_29 : decode prog_8_method_41_code 29 = .ok (.iload 6, 2) := by decide +kernel
theorem kdX5_putBits_31 : decode prog_8_method_41_code 31 = .ok (.bipush 8, 2) := by decide +kernel
theorem kdX5_putBits_33 : decode prog_8_method_41_code 33 = .ok (.idiv, 1) := by decide +kernel
theorem kdX5_putBits_34 : decode prog_8_method_41_code 34 = .ok (.iadd, 1) := by decide +kernel
theorem kdX5_putBits_35 : decode prog_8_method_41_code 35 = .ok (.iconst 0, 1) := by decide +kernel
theorem kdX5_putBits_36 : decode prog_8_method_41_code 36 = .ok (.bastore, 1) := by decide +kernel
theorem kdX5_putBits_37 : decode prog_8_method_41_code 37 = .ok (.aload_n 1, 1) := by decide +kernel
theorem kdX5_putBits_38 : decode prog_8_method_41_code 38 = .ok (.iload_n 2, 1) := by decide +kernel
theorem kdX5_putBits_39 : decode prog_8_method_41_code 39 = .ok (.iload 6, 2) := by decide +kernel
theorem kdX5_putBits_41 : decode prog_8_method_41_code 41 = .ok (.bipush 8, 2) := by decide +kernel
theorem kdX5_putBits_43 : decode prog_8_method_41_code 43 = .ok (.idiv, 1) := by decide +kernel
theorem kdX5_putBits_44 : decode prog_8_method_41_code 44 = .ok (.iadd, 1) := by decide +kernel
theorem kdX5_putBits_45 : decode prog_8_method_41_code 45 = .ok (.dup2, 1) := by decide +kernel
theorem kdX5_putBits_46 : decode prog_8_method_41_code 46 = .ok (.baload, 1) := by decide +kernel
theorem kdX5_putBits_47 : decode prog_8_method_41_code 47 = .ok (.iload_n 3, 1) := by decide +kernel
theorem kdX5_putBits_48 : decode prog_8_method_41_code 48 = .ok (.iload 5, 2) := by decide +kernel
theorem kdX5_putBits_50 : decode prog_8_method_41_code 50 = .ok (.ishr, 1) := by decide +kernel
theorem kdX5_putBits_51 : decode prog_8_method_41_code 51 = .ok (.iconst 1, 1) := by decide +kernel
theorem kdX5_putBits_52 : decode prog_8_method_41_code 52 = .ok (.iand, 1) := by decide +kernel
theorem kdX5_putBits_53 : decode prog_8_method_41_code 53 = .ok (.iload 6, 2) := by decide +kernel
theorem kdX5_putBits_55 : decode prog_8_method_41_code 55 = .ok (.bipush 8, 2) := by decide +kernel
theorem kdX5_putBits_57 : decode prog_8_method_41_code 57 = .ok (.irem, 1) := by decide +kernel
theorem kdX5_putBits_58 : decode prog_8_method_41_code 58 = .ok (.ishl, 1) := by decide +kernel
theorem kdX5_putBits_59 : decode prog_8_method_41_code 59 = .ok (.i2b, 1) := by decide +kernel
theorem kdX5_putBits_60 : decode prog_8_method_41_code 60 = .ok (.ior, 1) := by decide +kernel
theorem kdX5_putBits_61 : decode prog_8_method_41_code 61 = .ok (.i2b, 1) := by decide +kernel
theorem kdX5_putBits_62 : decode prog_8_method_41_code 62 = .ok (.bastore, 1) := by decide +kernel
theorem kdX5_putBits_63 : decode prog_8_method_41_code 63 = .ok (.iinc 5 1, 3) := by decide +kernel
theorem kdX5_putBits_66 : decode prog_8_method_41_code 66 = .ok (.goto (-63), 3) := by decide +kernel
theorem kdX5_putBits_69 : decode prog_8_method_41_code 69 = .ok (.aload_n 0, 1) := by decide +kernel
theorem kdX5_putBits_70 : decode prog_8_method_41_code 70 = .ok (.dup, 1) := by decide +kernel
theorem kdX5_putBits_71 : decode prog_8_method_41_code 71 = .ok (.getfield 202, 3) := by decide +kernel
theorem kdX5_putBits_74 : decode prog_8_method_41_code 74 = .ok (.iload 4, 2) := by decide +kernel
theorem kdX5_putBits_76 : decode prog_8_method_41_code 76 = .ok (.iadd, 1) := by decide +kernel
theorem kdX5_putBits_77 : decode prog_8_method_41_code 77 = .ok (.putfield 202, 3) := by decide +kernel
theorem kdX5_putBits_80 : decode prog_8_method_41_code 80 = .ok (.return_, 1) := by decide +kernel
theorem kdX5_takeBits_0 : decode prog_8_method_42_code 0 = .ok (.iconst 0, 1) := by decide +kernel
theorem kdX5_takeBits_1 : decode prog_8_method_42_code 1 = .ok (.istore 4, 2) := by decide +kernel
theorem kdX5_takeBits_3 : decode prog_8_method_42_code 3 = .ok (.iconst 0, 1) := by decide +kernel
theorem kdX5_takeBits_4 : decode prog_8_method_42_code 4 = .ok (.istore 5, 2) := by decide +kernel
theorem kdX5_takeBits_6 : decode prog_8_method_42_code 6 = .ok (.iload 5, 2) := by decide +kernel
theorem kdX5_takeBits_8 : decode prog_8_method_42_code 8 = .ok (.iload_n 3, 1) := by decide +kernel
theorem kdX5_takeBits_9 : decode prog_8_method_42_code 9 = .ok (.if_icmp .ge 29, 3) := by decide +kernel
theorem kdX5_takeBits_12 : decode prog_8_method_42_code 12 = .ok (.iload 4, 2) := by decide +kernel
theorem kdX5_takeBits_14 : decode prog_8_method_42_code 14 = .ok (.aload_n 1, 1) := by decide +kernel
theorem kdX5_takeBits_15 : decode prog_8_method_42_code 15 = .ok (.iload_n 2, 1) := by decide +kernel
theorem kdX5_takeBits_16 : decode prog_8_method_42_code 16 = .ok (.aload_n 0, 1) := by decide +kernel
theorem kdX5_takeBits_17 : decode prog_8_method_42_code 17 = .ok (.getfield 202, 3) := by decide +kernel
theorem kdX5_takeBits_20 : decode prog_8_method_42_code 20 = .ok (.iload 5, 2) := by decide +kernel
theorem kdX5_takeBits_22 : decode prog_8_method_42_code 22 = .ok (.iadd, 1) := by decide +kernel
theorem kdX5_takeBits_23 : decode prog_8_method_42_code 23 = .ok (.invokestatic 205, 3) := by decide +kernel
theorem kdX5_takeBits_26 : decode prog_8_method_42_code 26 = .ok (.iload 5, 2) := by decide +kernel
theorem kdX5_takeBits_28 : decode prog_8_method_42_code 28 = .ok (.ishl, 1) := by decide +kernel
theorem kdX5_takeBits_29 : decode prog_8_method_42_code 29 = .ok (.ior, 1) := by decide +kernel
theorem kdX5_takeBits_30 : decode prog_8_method_42_code 30 = .ok (.istore 4, 2) := by decide +kernel
theorem kdX5_takeBits_32 : decode prog_8_method_42_code 32 = .ok (.iinc 5 1, 3) := by decide +kernel
theorem kdX5_takeBits_35 : decode prog_8_method_42_code 35 = .ok (.goto (-29), 3) := by decide +kernel
theorem kdX5_takeBits_38 : decode prog_8_method_42_code 38 = .ok (.aload_n 0, 1) := by decide +kernel
theorem kdX5_takeBits_39 : decode prog_8_method_42_code 39 = .ok (.dup, 1) := by decide +kernel
theorem kdX5_takeBits_40 : decode prog_8_method_42_code 40 = .ok (.getfield 202, 3) := by decide +kernel
theorem kdX5_takeBits_43 : decode prog_8_method_42_code 43 = .ok (.iload_n 3, 1) := by decide +kernel
theorem kdX5_takeBits_44 : decode prog_8_method_42_code 44 = .ok (.iadd, 1) := by decide +kernel
theorem kdX5_takeBits_45 : decode prog_8_method_42_code 45 = .ok (.putfield 202, 3) := by decide +kernel
theorem kdX5_takeBits_48 : decode prog_8_method_42_code 48 = .ok (.iload 4, 2) := by decide +kernel
theorem kdX5_takeBits_50 : decode prog_8_method_42_code 50 = .ok (.ireturn, 1) := by decide +kernel
theorem kdX5_kem_0 : decode prog_8_method_43_code 0 = .ok (.aload_n 0, 1) := by decide +kernel
theorem kdX5_kem_1 : decode prog_8_method_43_code 1 = .ok (.iconst 2, 1) := by decide +kernel
theorem kdX5_kem_2 : decode prog_8_method_43_code 2 = .ok (.iload_n 1, 1) := by decide +kernel
theorem kdX5_kem_3 : decode prog_8_method_43_code 3 = .ok (.iadd, 1) := by decide +kernel
theorem kdX5_kem_4 : decode prog_8_method_43_code 4 = .ok (.putfield 209, 3) := by decide +kernel
theorem kdX5_kem_7 : decode prog_8_method_43_code 7 = .ok (.aload_n 0, 1) := by decide +kernel
theorem kdX5_kem_8 : decode prog_8_method_43_code 8 = .ok (.iload_n 1, 1) := by decide +kernel
theorem kdX5_kem_9 : decode prog_8_method_43_code 9 = .ok (.ifCond .ne 7, 3) := by decide +kernel
theorem kdX5_kem_12 : decode prog_8_method_43_code 12 = .ok (.iconst 3, 1) := by decide +kernel
theorem kdX5_kem_13 : decode prog_8_method_43_code 13 = .ok (.goto 4, 3) := by decide +kernel
theorem kdX5_kem_16 : decode prog_8_method_43_code 16 = .ok (.iconst 2, 1) := by decide +kernel
theorem kdX5_kem_17 : decode prog_8_method_43_code 17 = .ok (.putfield 212, 3) := by decide +kernel
theorem kdX5_kem_20 : decode prog_8_method_43_code 20 = .ok (.aload_n 0, 1) := by decide +kernel
theorem kdX5_kem_21 : decode prog_8_method_43_code 21 = .ok (.iload_n 1, 1) := by decide +kernel
theorem kdX5_kem_22 : decode prog_8_method_43_code 22 = .ok (.iconst 2, 1) := by decide +kernel
theorem kdX5_kem_23 : decode prog_8_method_43_code 23 = .ok (.if_icmp .ne 8, 3) := by decide +kernel
theorem kdX5_kem_26 : decode prog_8_method_43_code 26 = .ok (.bipush 11, 2) := by decide +kernel
theorem kdX5_kem_28 : decode prog_8_method_43_code 28 = .ok (.goto 5, 3) := by decide +kernel
theorem kdX5_kem_31 : decode prog_8_method_43_code 31 = .ok (.bipush 10, 2) := by decide +kernel
theorem kdX5_kem_33 : decode prog_8_method_43_code 33 = .ok (.putfield 215, 3) := by decide +kernel
theorem kdX5_kem_36 : decode prog_8_method_43_code 36 = .ok (.aload_n 0, 1) := by decide +kernel
theorem kdX5_kem_37 : decode prog_8_method_43_code 37 = .ok (.iload_n 1, 1) := by decide +kernel
theorem kdX5_kem_38 : decode prog_8_method_43_code 38 = .ok (.iconst 2, 1) := by decide +kernel
theorem kdX5_kem_39 : decode prog_8_method_43_code 39 = .ok (.if_icmp .ne 7, 3) := by decide +kernel
theorem kdX5_kem_42 : decode prog_8_method_43_code 42 = .ok (.iconst 5, 1) := by decide +kernel
theorem kdX5_kem_43 : decode prog_8_method_43_code 43 = .ok (.goto 4, 3) := by decide +kernel
theorem kdX5_kem_46 : decode prog_8_method_43_code 46 = .ok (.iconst 4, 1) := by decide +kernel
theorem kdX5_kem_47 : decode prog_8_method_43_code 47 = .ok (.putfield 218, 3) := by decide +kernel
theorem kdX5_kem_50 : decode prog_8_method_43_code 50 = .ok (.aload_n 0, 1) := by decide +kernel
theorem kdX5_kem_51 : decode prog_8_method_43_code 51 = .ok (.getfield 65, 3) := by decide +kernel
theorem kdX5_kem_54 : decode prog_8_method_43_code 54 = .ok (.iconst 0, 1) := by decide +kernel
theorem kdX5_kem_55 : decode prog_8_method_43_code 55 = .ok (.iconst 1, 1) := by decide +kernel
theorem kdX5_kem_56 : decode prog_8_method_43_code 56 = .ok (.iastore, 1) := by decide +kernel
theorem kdX5_kem_57 : decode prog_8_method_43_code 57 = .ok (.iconst 1, 1) := by decide +kernel
theorem kdX5_kem_58 : decode prog_8_method_43_code 58 = .ok (.istore_n 2, 1) := by decide +kernel
theorem kdX5_kem_59 : decode prog_8_method_43_code 59 = .ok (.iload_n 2, 1) := by decide +kernel
theorem kdX5_kem_60 : decode prog_8_method_43_code 60 = .ok (.sipush 256, 3) := by decide +kernel
theorem kdX5_kem_63 : decode prog_8_method_43_code 63 = .ok (.if_icmp .ge 30, 3) := by decide +kernel
theorem kdX5_kem_66 : decode prog_8_method_43_code 66 = .ok (.aload_n 0, 1) := by decide +kernel
theorem kdX5_kem_67 : decode prog_8_method_43_code 67 = .ok (.getfield 65, 3) := by decide +kernel
theorem kdX5_kem_70 : decode prog_8_method_43_code 70 = .ok (.iload_n 2, 1) := by decide +kernel
theorem kdX5_kem_71 : decode prog_8_method_43_code 71 = .ok (.aload_n 0, 1) := by decide +kernel
theorem kdX5_kem_72 : decode prog_8_method_43_code 72 = .ok (.getfield 65, 3) := by decide +kernel
theorem kdX5_kem_75 : decode prog_8_method_43_code 75 = .ok (.iload_n 2, 1) := by decide +kernel
theorem kdX5_kem_76 : decode prog_8_method_43_code 76 = .ok (.iconst 1, 1) := by decide +kernel
theorem kdX5_kem_77 : decode prog_8_method_43_code 77 = .ok (.isub, 1) := by decide +kernel
theorem kdX5_kem_78 : decode prog_8_method_43_code 78 = .ok (.iaload, 1) := by decide +kernel
theorem kdX5_kem_79 : decode prog_8_method_43_code 79 = .ok (.bipush 17, 2) := by decide +kernel
theorem kdX5_kem_81 : decode prog_8_method_43_code 81 = .ok (.imul, 1) := by decide +kernel
theorem kdX5_kem_82 : decode prog_8_method_43_code 82 = .ok (.sipush 3329, 3) := by decide +kernel
theorem kdX5_kem_85 : decode prog_8_method_43_code 85 = .ok (.irem, 1) := by decide +kernel
theorem kdX5_kem_86 : decode prog_8_method_43_code 86 = .ok (.iastore, 1) := by decide +kernel
theorem kdX5_kem_87 : decode prog_8_method_43_code 87 = .ok (.iinc 2 1, 3) := by decide +kernel
theorem kdX5_kem_90 : decode prog_8_method_43_code 90 = .ok (.goto (-31), 3) := by decide +kernel
theorem kdX5_kem_93 : decode prog_8_method_43_code 93 = .ok (.return_, 1) := by decide +kernel
theorem kdX5_ntt_0 : decode prog_8_method_44_code 0 = .ok (.iconst 0, 1) := by decide +kernel
theorem kdX5_ntt_1 : decode prog_8_method_44_code 1 = .ok (.istore_n 2, 1) := by decide +kernel
theorem kdX5_ntt_2 : decode prog_8_method_44_code 2 = .ok (.iload_n 2, 1) := by decide +kernel
theorem kdX5_ntt_3 : decode prog_8_method_44_code 3 = .ok (.sipush 128, 3) := by decide +kernel
theorem kdX5_ntt_6 : decode prog_8_method_44_code 6 = .ok (.if_icmp .ge 121, 3) := by decide +kernel
theorem kdX5_ntt_9 : decode prog_8_method_44_code 9 = .ok (.iconst 2, 1) := by decide +kernel
theorem kdX5_ntt_10 : decode prog_8_method_44_code 10 = .ok (.iload_n 2, 1) := by decide +kernel
theorem kdX5_ntt_11 : decode prog_8_method_44_code 11 = .ok (.bipush 7, 2) := by decide +kernel
theorem kdX5_ntt_13 : decode prog_8_method_44_code 13 = .ok (.invokestatic 221, 3) := by decide +kernel
theorem kdX5_ntt_16 : decode prog_8_method_44_code 16 = .ok (.imul, 1) := by decide +kernel
theorem kdX5_ntt_17 : decode prog_8_method_44_code 17 = .ok (.iconst 1, 1) := by decide +kernel
theorem kdX5_ntt_18 : decode prog_8_method_44_code 18 = .ok (.iadd, 1) := by decide +kernel
theorem kdX5_ntt_19 : decode prog_8_method_44_code 19 = .ok (.istore_n 3, 1) := by decide +kernel
theorem kdX5_ntt_20 : decode prog_8_method_44_code 20 = .ok (.lconst 0, 1) := by decide +kernel
theorem kdX5_ntt_21 : decode prog_8_method_44_code 21 = .ok (.lstore 4, 2) := by decide +kernel
theorem kdX5_ntt_23 : decode prog_8_method_44_code 23 = .ok (.lconst 0, 1) := by decide +kernel
theorem kdX5_ntt_24 : decode prog_8_method_44_code 24 = .ok (.lstore 6, 2) := by decide +kernel
theorem kdX5_ntt_26 : decode prog_8_method_44_code 26 = .ok (.iconst 0, 1) := by decide +kernel
theorem kdX5_ntt_27 : decode prog_8_method_44_code 27 = .ok (.istore 8, 2) := by decide +kernel
theorem kdX5_ntt_29 : decode prog_8_method_44_code 29 = .ok (.iload 8, 2) := by decide +kernel
theorem kdX5_ntt_31 : decode prog_8_method_44_code 31 = .ok (.sipush 128, 3) := by decide +kernel
theorem kdX5_ntt_34 : decode prog_8_method_44_code 34 = .ok (.if_icmp .ge 57, 3) := by decide +kernel
theorem kdX5_ntt_37 : decode prog_8_method_44_code 37 = .ok (.aload_n 0, 1) := by decide +kernel
theorem kdX5_ntt_38 : decode prog_8_method_44_code 38 = .ok (.getfield 65, 3) := by decide +kernel
theorem kdX5_ntt_41 : decode prog_8_method_44_code 41 = .ok (.iload_n 3, 1) := by decide +kernel
theorem kdX5_ntt_42 : decode prog_8_method_44_code 42 = .ok (.iload 8, 2) := by decide +kernel
theorem kdX5_ntt_44 : decode prog_8_method_44_code 44 = .ok (.imul, 1) := by decide +kernel
theorem kdX5_ntt_45 : decode prog_8_method_44_code 45 = .ok (.sipush 256, 3) := by decide +kernel
theorem kdX5_ntt_48 : decode prog_8_method_44_code 48 = .ok (.irem, 1) := by decide +kernel
theorem kdX5_ntt_49 : decode prog_8_method_44_code 49 = .ok (.iaload, 1) := by decide +kernel
theorem kdX5_ntt_50 : decode prog_8_method_44_code 50 = .ok (.i2l, 1) := by decide +kernel
theorem kdX5_ntt_51 : decode prog_8_method_44_code 51 = .ok (.lstore 9, 2) := by decide +kernel
theorem kdX5_ntt_53 : decode prog_8_method_44_code 53 = .ok (.lload 4, 2) := by decide +kernel
theorem kdX5_ntt_55 : decode prog_8_method_44_code 55 = .ok (.aload_n 1, 1) := by decide +kernel
theorem kdX5_ntt_56 : decode prog_8_method_44_code 56 = .ok (.iconst 2, 1) := by decide +kernel
theorem kdX5_ntt_57 : decode prog_8_method_44_code 57 = .ok (.iload 8, 2) := by decide +kernel
theorem kdX5_ntt_59 : decode prog_8_method_44_code 59 = .ok (.imul, 1) := by decide +kernel
theorem kdX5_ntt_60 : decode prog_8_method_44_code 60 = .ok (.iaload, 1) := by decide +kernel
theorem kdX5_ntt_61 : decode prog_8_method_44_code 61 = .ok (.i2l, 1) := by decide +kernel
theorem kdX5_ntt_62 : decode prog_8_method_44_code 62 = .ok (.lload 9, 2) := by decide +kernel
theorem kdX5_ntt_64 : decode prog_8_method_44_code 64 = .ok (.lmul, 1) := by decide +kernel
theorem kdX5_ntt_65 : decode prog_8_method_44_code 65 = .ok (.ladd, 1) := by decide +kernel
theorem kdX5_ntt_66 : decode prog_8_method_44_code 66 = .ok (.lstore 4, 2) := by decide +kernel
theorem kdX5_ntt_68 : decode prog_8_method_44_code 68 = .ok (.lload 6, 2) := by decide +kernel
theorem kdX5_ntt_70 : decode prog_8_method_44_code 70 = .ok (.aload_n 1, 1) := by decide +kernel
theorem kdX5_ntt_71 : decode prog_8_method_44_code 71 = .ok (.iconst 2, 1) := by decide +kernel
theorem kdX5_ntt_72 : decode prog_8_method_44_code 72 = .ok (.iload 8, 2) := by decide +kernel
theorem kdX5_ntt_74 : decode prog_8_method_44_code 74 = .ok (.imul, 1) := by decide +kernel
theorem kdX5_ntt_75 : decode prog_8_method_44_code 75 = .ok (.iconst 1, 1) := by decide +kernel
theorem kdX5_ntt_76 : decode prog_8_method_44_code 76 = .ok (.iadd, 1) := by decide +kernel
theorem kdX5_ntt_77 : decode prog_8_method_44_code 77 = .ok (.iaload, 1) := by decide +kernel
theorem kdX5_ntt_78 : decode prog_8_method_44_code 78 = .ok (.i2l, 1) := by decide +kernel
theorem kdX5_ntt_79 : decode prog_8_method_44_code 79 = .ok (.lload 9, 2) := by decide +kernel
theorem kdX5_ntt_81 : decode prog_8_method_44_code 81 = .ok (.lmul, 1) := by decide +kernel
theorem kdX5_ntt_82 : decode prog_8_method_44_code 82 = .ok (.ladd, 1) := by decide +kernel
theorem kdX5_ntt_83 : decode prog_8_method_44_code 83 = .ok (.lstore 6, 2) := by decide +kernel
theorem kdX5_ntt_85 : decode prog_8_method_44_code 85 = .ok (.iinc 8 1, 3) := by decide +kernel
theorem kdX5_ntt_88 : decode prog_8_method_44_code 88 = .ok (.goto (-59), 3) := by decide +kernel
theorem kdX5_ntt_91 : decode prog_8_method_44_code 91 = .ok (.aload_n 0, 1) := by decide +kernel
theorem kdX5_ntt_92 : decode prog_8_method_44_code 92 = .ok (.getfield 62, 3) := by decide +kernel
theorem kdX5_ntt_95 : decode prog_8_method_44_code 95 = .ok (.iconst 2, 1) := by decide +kernel
theorem kdX5_ntt_96 : decode prog_8_method_44_code 96 = .ok (.iload_n 2, 1) := by decide +kernel
theorem kdX5_ntt_97 : decode prog_8_method_44_code 97 = .ok (.imul, 1) := by decide +kernel
theorem kdX5_ntt_98 : decode prog_8_method_44_code 98 = .ok (.lload 4, 2) := by decide +kernel
theorem kdX5_ntt_100 : decode prog_8_method_44_code 100 = .ok (.ldc2_w 224, 3) := by decide +kernel
theorem kdX5_ntt_103 : decode prog_8_method_44_code 103 = .ok (.lrem, 1) := by decide +kernel
theorem kdX5_ntt_104 : decode prog_8_method_44_code 104 = .ok (.lastore, 1) := by decide +kernel
theorem kdX5_ntt_105 : decode prog_8_method_44_code 105 = .ok (.aload_n 0, 1) := by decide +kernel
theorem kdX5_ntt_106 : decode prog_8_method_44_code 106 = .ok (.getfield 62, 3) := by decide +kernel
theorem kdX5_ntt_109 : decode prog_8_method_44_code 109 = .ok (.iconst 2, 1) := by decide +kernel
theorem kdX5_ntt_110 : decode prog_8_method_44_code 110 = .ok (.iload_n 2, 1) := by decide +kernel
theorem kdX5_ntt_111 : decode prog_8_method_44_code 111 = .ok (.imul, 1) := by decide +kernel
theorem kdX5_ntt_112 : decode prog_8_method_44_code 112 = .ok (.iconst 1, 1) := by decide +kernel
theorem kdX5_ntt_113 : decode prog_8_method_44_code 113 = .ok (.iadd, 1) := by decide +kernel
theorem kdX5_ntt_114 : decode prog_8_method_44_code 114 = .ok (.lload 6, 2) := by decide +kernel
theorem kdX5_ntt_116 : decode prog_8_method_44_code 116 = .ok (.ldc2_w 224, 3) := by decide +kernel
theorem kdX5_ntt_119 : decode prog_8_method_44_code 119 = .ok (.lrem, 1) := by decide +kernel
theorem kdX5_ntt_120 : decode prog_8_method_44_code 120 = .ok (.lastore, 1) := by decide +kernel
theorem kdX5_ntt_121 : decode prog_8_method_44_code 121 = .ok (.iinc 2 1, 3) := by decide +kernel
theorem kdX5_ntt_124 : decode prog_8_method_44_code 124 = .ok (.goto (-122), 3) := by decide +kernel
theorem kdX5_ntt_127 : decode prog_8_method_44_code 127 = .ok (.iconst 0, 1) := by decide +kernel
theorem kdX5_ntt_128 : decode prog_8_method_44_code 128 = .ok (.istore_n 2, 1) := by decide +kernel
theorem kdX5_ntt_129 : decode prog_8_method_44_code 129 = .ok (.iload_n 2, 1) := by decide +kernel
theorem kdX5_ntt_130 : decode prog_8_method_44_code 130 = .ok (.sipush 256, 3) := by decide +kernel
theorem kdX5_ntt_133 : decode prog_8_method_44_code 133 = .ok (.if_icmp .ge 19, 3) := by decide +kernel
theorem kdX5_ntt_136 : decode prog_8_method_44_code 136 = .ok (.aload_n 1, 1) := by decide +kernel
theorem kdX5_ntt_137 : decode prog_8_method_44_code 137 = .ok (.iload_n 2, 1) := by decide +kernel
theorem kdX5_ntt_138 : decode prog_8_method_44_code 138 = .ok (.aload_n 0, 1) := by decide +kernel
theorem kdX5_ntt_139 : decode prog_8_method_44_code 139 = .ok (.getfield 62, 3) := by decide +kernel
theorem kdX5_ntt_142 : decode prog_8_method_44_code 142 = .ok (.iload_n 2, 1) := by decide +kernel
theorem kdX5_ntt_143 : decode prog_8_method_44_code 143 = .ok (.laload, 1) := by decide +kernel
theorem kdX5_ntt_144 : decode prog_8_method_44_code 144 = .ok (.l2i, 1) := by decide +kernel
theorem kdX5_ntt_145 : decode prog_8_method_44_code 145 = .ok (.iastore, 1) := by decide +kernel
theorem kdX5_ntt_146 : decode prog_8_method_44_code 146 = .ok (.iinc 2 1, 3) := by decide +kernel
theorem kdX5_ntt_149 : decode prog_8_method_44_code 149 = .ok (.goto (-20), 3) := by decide +kernel
theorem kdX5_ntt_152 : decode prog_8_method_44_code 152 = .ok (.return_, 1) := by decide +kernel
theorem kdX5_unntt_0 : decode prog_8_method_45_code 0 = .ok (.iconst 0, 1) := by decide +kernel
theorem kdX5_unntt_1 : decode prog_8_method_45_code 1 = .ok (.istore_n 2, 1) := by decide +kernel
theorem kdX5_unntt_2 : decode prog_8_method_45_code 2 = .ok (.iload_n 2, 1) := by decide +kernel
theorem kdX5_unntt_3 : decode prog_8_method_45_code 3 = .ok (.sipush 128, 3) := by decide +kernel
theorem kdX5_unntt_6 : decode prog_8_method_45_code 6 = .ok (.if_icmp .ge 139, 3) := by decide +kernel
theorem kdX5_unntt_9 : decode prog_8_method_45_code 9 = .ok (.lconst 0, 1) := by decide +kernel
theorem kdX5_unntt_10 : decode prog_8_method_45_code 10 = .ok (.lstore_n 3, 1) := by decide +kernel
theorem kdX5_unntt_11 : decode prog_8_method_45_code 11 = .ok (.lconst 0, 1) := by decide +kernel
theorem kdX5_unntt_12 : decode prog_8_method_45_code 12 = .ok (.lstore 5, 2) := by decide +kernel
theorem kdX5_unntt_14 : decode prog_8_method_45_code 14 = .ok (.iconst 0, 1) := by decide +kernel
theorem kdX5_unntt_15 : decode prog_8_method_45_code 15 = .ok (.istore 7, 2) := by decide +kernel
theorem kdX5_unntt_17 : decode prog_8_method_45_code 17 = .ok (.iload 7, 2) := by decide +kernel
theorem kdX5_unntt_19 : decode prog_8_method_45_code 19 = .ok (.sipush 128, 3) := by decide +kernel
theorem kdX5_unntt_22 : decode prog_8_method_45_code 22 = .ok (.if_icmp .ge 72, 3) := by decide +kernel
theorem kdX5_unntt_25 : decode prog_8_method_45_code 25 = .ok (.aload_n 0, 1) := by decide +kernel
theorem kdX5_unntt_26 : decode prog_8_method_45_code 26 = .ok (.getfield 65, 3) := by decide +kernel
theorem kdX5_unntt_29 : decode prog_8_method_45_code 29 = .ok (.sipush 256, 3) := by decide +kernel
theorem kdX5_unntt_32 : decode prog_8_method_45_code 32 = .ok (.iconst 2, 1) := by decide +kernel
theorem kdX5_unntt_33 : decode prog_8_method_45_code 33 = .ok (.iload 7, 2) := by decide +kernel
theorem kdX5_unntt_35 : decode prog_8_method_45_code 35 = .ok (.bipush 7, 2) := by decide +kernel
theorem kdX5_unntt_37 : decode prog_8_method_45_code 37 = .ok (.invokestatic 221, 3) := by decide +kernel
theorem kdX5_unntt_40 : decode prog_8_method_45_code 40 = .ok (.imul, 1) := by decide +kernel
theorem kdX5_unntt_41 : decode prog_8_method_45_code 41 = .ok (.iconst 1, 1) := by decide +kernel
theorem kdX5_unntt_42 : decode prog_8_method_45_code 42 = .ok (.iadd, 1) := by decide +kernel
theorem kdX5_unntt_43 : decode prog_8_method_45_code 43 = .ok (.iload_n 2, 1) := by decide +kernel
theorem kdX5_unntt_44 : decode prog_8_method_45_code 44 = .ok (.imul, 1) := by decide +kernel
theorem kdX5_unntt_45 : decode prog_8_method_45_code 45 = .ok (.sipush 256, 3) := by decide +kernel
theorem kdX5_unntt_48 : decode prog_8_method_45_code 48 = .ok (.irem, 1) := by decide +kernel
theorem kdX5_unntt_49 : decode prog_8_method_45_code 49 = .ok (.isub, 1) := by decide +kernel
theorem kdX5_unntt_50 : decode prog_8_method_45_code 50 = .ok (.sipush 256, 3) := by decide +kernel
theorem kdX5_unntt_53 : decode prog_8_method_45_code 53 = .ok (.irem, 1) := by decide +kernel
theorem kdX5_unntt_54 : decode prog_8_method_45_code 54 = .ok (.iaload, 1) := by decide +kernel
theorem kdX5_unntt_55 : decode prog_8_method_45_code 55 = .ok (.i2l, 1) := by decide +kernel
theorem kdX5_unntt_56 : decode prog_8_method_45_code 56 = .ok (.lstore 8, 2) := by decide +kernel
theorem kdX5_unntt_58 : decode prog_8_method_45_code 58 = .ok (.lload_n 3, 1) := by decide +kernel
theorem kdX5_unntt_59 : decode prog_8_method_45_code 59 = .ok (.aload_n 1, 1) := by decide +kernel
theorem kdX5_unntt_60 : decode prog_8_method_45_code 60 = .ok (.iconst 2, 1) := by decide +kernel
theorem kdX5_unntt_61 : decode prog_8_method_45_code 61 = .ok (.iload 7, 2) := by decide +kernel
theorem kdX5_unntt_63 : decode prog_8_method_45_code 63 = .ok (.imul, 1) := by decide +kernel
theorem kdX5_unntt_64 : decode prog_8_method_45_code 64 = .ok (.iaload, 1) := by decide +kernel
theorem kdX5_unntt_65 : decode prog_8_method_45_code 65 = .ok (.i2l, 1) := by decide +kernel
theorem kdX5_unntt_66 : decode prog_8_method_45_code 66 = .ok (.lload 8, 2) := by decide +kernel
theorem kdX5_unntt_68 : decode prog_8_method_45_code 68 = .ok (.lmul, 1) := by decide +kernel
theorem kdX5_unntt_69 : decode prog_8_method_45_code 69 = .ok (.ladd, 1) := by decide +kernel
theorem kdX5_unntt_70 : decode prog_8_method_45_code 70 = .ok (.lstore_n 3, 1) := by decide +kernel
theorem kdX5_unntt_71 : decode prog_8_method_45_code 71 = .ok (.lload 5, 2) := by decide +kernel
theorem kdX5_unntt_73 : decode prog_8_method_45_code 73 = .ok (.aload_n 1, 1) := by decide +kernel
theorem kdX5_unntt_74 : decode prog_8_method_45_code 74 = .ok (.iconst 2, 1) := by decide +kernel
theorem kdX5_unntt_75 : decode prog_8_method_45_code 75 = .ok (.iload 7, 2) := by decide +kernel
theorem kdX5_unntt_77 : decode prog_8_method_45_code 77 = .ok (.imul, 1) := by decide +kernel
theorem kdX5_unntt_78 : decode prog_8_method_45_code 78 = .ok (.iconst 1, 1) := by decide +kernel
theorem kdX5_unntt_79 : decode prog_8_method_45_code 79 = .ok (.iadd, 1) := by decide +kernel
theorem kdX5_unntt_80 : decode prog_8_method_45_code 80 = .ok (.iaload, 1) := by decide +kernel
theorem kdX5_unntt_81 : decode prog_8_method_45_code 81 = .ok (.i2l, 1) := by decide +kernel
theorem kdX5_unntt_82 : decode prog_8_method_45_code 82 = .ok (.lload 8, 2) := by decide +kernel
theorem kdX5_unntt_84 : decode prog_8_method_45_code 84 = .ok (.lmul, 1) := by decide +kernel
theorem kdX5_unntt_85 : decode prog_8_method_45_code 85 = .ok (.ladd, 1) := by decide +kernel
theorem kdX5_unntt_86 : decode prog_8_method_45_code 86 = .ok (.lstore 5, 2) := by decide +kernel
theorem kdX5_unntt_88 : decode prog_8_method_45_code 88 = .ok (.iinc 7 1, 3) := by decide +kernel
theorem kdX5_unntt_91 : decode prog_8_method_45_code 91 = .ok (.goto (-74), 3) := by decide +kernel
theorem kdX5_unntt_94 : decode prog_8_method_45_code 94 = .ok (.aload_n 0, 1) := by decide +kernel
theorem kdX5_unntt_95 : decode prog_8_method_45_code 95 = .ok (.getfield 62, 3) := by decide +kernel
theorem kdX5_unntt_98 : decode prog_8_method_45_code 98 = .ok (.iconst 2, 1) := by decide +kernel
theorem kdX5_unntt_99 : decode prog_8_method_45_code 99 = .ok (.iload_n 2, 1) := by decide +kernel
theorem kdX5_unntt_100 : decode prog_8_method_45_code 100 = .ok (.imul, 1) := by decide +kernel
theorem kdX5_unntt_101 : decode prog_8_method_45_code 101 = .ok (.lload_n 3, 1) := by decide +kernel
theorem kdX5_unntt_102 : decode prog_8_method_45_code 102 = .ok (.ldc2_w 224, 3) := by decide +kernel
theorem kdX5_unntt_105 : decode prog_8_method_45_code 105 = .ok (.lrem, 1) := by decide +kernel
theorem kdX5_unntt_106 : decode prog_8_method_45_code 106 = .ok (.ldc2_w 226, 3) := by decide +kernel
theorem kdX5_unntt_109 : decode prog_8_method_45_code 109 = .ok (.lmul, 1) := by decide +kernel
theorem kdX5_unntt_110 : decode prog_8_method_45_code 110 = .ok (.ldc2_w 224, 3) := by decide +kernel
theorem kdX5_unntt_113 : decode prog_8_method_45_code 113 = .ok (.lrem, 1) := by decide +kernel
theorem kdX5_unntt_114 : decode prog_8_method_45_code 114 = .ok (.lastore, 1) := by decide +kernel
theorem kdX5_unntt_115 : decode prog_8_method_45_code 115 = .ok (.aload_n 0, 1) := by decide +kernel
theorem kdX5_unntt_116 : decode prog_8_method_45_code 116 = .ok (.getfield 62, 3) := by decide +kernel
theorem kdX5_unntt_119 : decode prog_8_method_45_code 119 = .ok (.iconst 2, 1) := by decide +kernel
theorem kdX5_unntt_120 : decode prog_8_method_45_code 120 = .ok (.iload_n 2, 1) := by decide +kernel
theorem kdX5_unntt_121 : decode prog_8_method_45_code 121 = .ok (.imul, 1) := by decide +kernel
theorem kdX5_unntt_122 : decode prog_8_method_45_code 122 = .ok (.iconst 1, 1) := by decide +kernel
theorem kdX5_unntt_123 : decode prog_8_method_45_code 123 = .ok (.iadd, 1) := by decide +kernel
theorem kdX5_unntt_124 : decode prog_8_method_45_code 124 = .ok (.lload 5, 2) := by decide +kernel
theorem kdX5_unntt_126 : decode prog_8_method_45_code 126 = .ok (.ldc2_w 224, 3) := by decide +kernel
theorem kdX5_unntt_129 : decode prog_8_method_45_code 129 = .ok (.lrem, 1) := by decide +kernel
theorem kdX5_unntt_130 : decode prog_8_method_45_code 130 = .ok (.ldc2_w 226, 3) := by decide +kernel
theorem kdX5_unntt_133 : decode prog_8_method_45_code 133 = .ok (.lmul, 1) := by decide +kernel
theorem kdX5_unntt_134 : decode prog_8_method_45_code 134 = .ok (.ldc2_w 224, 3) := by decide +kernel
theorem kdX5_unntt_137 : decode prog_8_method_45_code 137 = .ok (.lrem, 1) := by decide +kernel
theorem kdX5_unntt_138 : decode prog_8_method_45_code 138 = .ok (.lastore, 1) := by decide +kernel
theorem kdX5_unntt_139 : decode prog_8_method_45_code 139 = .ok (.iinc 2 1, 3) := by decide +kernel
theorem kdX5_unntt_142 : decode prog_8_method_45_code 142 = .ok (.goto (-140), 3) := by decide +kernel
theorem kdX5_unntt_145 : decode prog_8_method_45_code 145 = .ok (.iconst 0, 1) := by decide +kernel
theorem kdX5_unntt_146 : decode prog_8_method_45_code 146 = .ok (.istore_n 2, 1) := by decide +kernel
theorem kdX5_unntt_147 : decode prog_8_method_45_code 147 = .ok (.iload_n 2, 1) := by decide +kernel
theorem kdX5_unntt_148 : decode prog_8_method_45_code 148 = .ok (.sipush 256, 3) := by decide +kernel
theorem kdX5_unntt_151 : decode prog_8_method_45_code 151 = .ok (.if_icmp .ge 19, 3) := by decide +kernel
theorem kdX5_unntt_154 : decode prog_8_method_45_code 154 = .ok (.aload_n 1, 1) := by decide +kernel
theorem kdX5_unntt_155 : decode prog_8_method_45_code 155 = .ok (.iload_n 2, 1) := by decide +kernel
theorem kdX5_unntt_156 : decode prog_8_method_45_code 156 = .ok (.aload_n 0, 1) := by decide +kernel
theorem kdX5_unntt_157 : decode prog_8_method_45_code 157 = .ok (.getfield 62, 3) := by decide +kernel
theorem kdX5_unntt_160 : decode prog_8_method_45_code 160 = .ok (.iload_n 2, 1) := by decide +kernel
theorem kdX5_unntt_161 : decode prog_8_method_45_code 161 = .ok (.laload, 1) := by decide +kernel
theorem kdX5_unntt_162 : decode prog_8_method_45_code 162 = .ok (.l2i, 1) := by decide +kernel
theorem kdX5_unntt_163 : decode prog_8_method_45_code 163 = .ok (.iastore, 1) := by decide +kernel
theorem kdX5_unntt_164 : decode prog_8_method_45_code 164 = .ok (.iinc 2 1, 3) := by decide +kernel
theorem kdX5_unntt_167 : decode prog_8_method_45_code 167 = .ok (.goto (-20), 3) := by decide +kernel
theorem kdX5_unntt_170 : decode prog_8_method_45_code 170 = .ok (.return_, 1) := by decide +kernel
theorem kdX5_addProduct_0 : decode prog_8_method_46_code 0 = .ok (.iconst 0, 1) := by decide +kernel
theorem kdX5_addProduct_1 : decode prog_8_method_46_code 1 = .ok (.istore 4, 2) := by decide +kernel
theorem kdX5_addProduct_3 : decode prog_8_method_46_code 3 = .ok (.iload 4, 2) := by decide +kernel
theorem kdX5_addProduct_5 : decode prog_8_method_46_code 5 = .ok (.sipush 128, 3) := by decide +kernel
theorem kdX5_addProduct_8 : decode prog_8_method_46_code 8 = .ok (.if_icmp .ge 139, 3) := by decide +kernel
theorem kdX5_addProduct_11 : decode prog_8_method_46_code 11 = .ok (.aload_n 0, 1) := by decide +kernel
theorem kdX5_addProduct_12 : decode prog_8_method_46_code 12 = .ok (.getfield 65, 3) := by decide +kernel
theorem kdX5_addProduct_15 : decode prog_8_method_46_code 15 = .ok (.iconst 2, 1) := by decide +kernel
theorem kdX5_addProduct_16 : decode prog_8_method_46_code 16 = .ok (.iload 4, 2) := by decide +kernel
theorem kdX5_addProduct_18 : decode prog_8_method_46_code 18 = .ok (.bipush 7, 2) := by decide +kernel
theorem kdX5_addProduct_20 : decode prog_8_method_46_code 20 = .ok (.invokestatic 221, 3) := by decide +kernel
theorem kdX5_addProduct_23 : decode prog_8_method_46_code 23 = .ok (.imul, 1) := by decide +kernel
theorem kdX5_addProduct_24 : decode prog_8_method_46_code 24 = .ok (.iconst 1, 1) := by decide +kernel
theorem kdX5_addProduct_25 : decode prog_8_method_46_code 25 = .ok (.iadd, 1) := by decide +kernel
theorem kdX5_addProduct_26 : decode prog_8_method_46_code 26 = .ok (.iaload, 1) := by decide +kernel
theorem kdX5_addProduct_27 : decode prog_8_method_46_code 27 = .ok (.i2l, 1) := by decide +kernel
theorem kdX5_addProduct_28 : decode prog_8_method_46_code 28 = .ok (.lstore 5, 2) := by decide +kernel
theorem kdX5_addProduct_30 : decode prog_8_method_46_code 30 = .ok (.aload_n 2, 1) := by decide +kernel
theorem kdX5_addProduct_31 : decode prog_8_method_46_code 31 = .ok (.iconst 2, 1) := by decide +kernel
theorem kdX5_addProduct_32 : decode prog_8_method_46_code 32 = .ok (.iload 4, 2) := by decide +kernel
theorem kdX5_addProduct_34 : decode prog_8_method_46_code 34 = .ok (.imul, 1) := by decide +kernel
theorem kdX5_addProduct_35 : decode prog_8_method_46_code 35 = .ok (.iaload, 1) := by decide +kernel
theorem kdX5_addProduct_36 : decode prog_8_method_46_code 36 = .ok (.i2l, 1) := by decide +kernel
theorem kdX5_addProduct_37 : decode prog_8_method_46_code 37 = .ok (.lstore 7, 2) := by decide +kernel
theorem kdX5_addProduct_39 : decode prog_8_method_46_code 39 = .ok (.aload_n 2, 1) := by decide +kernel
theorem kdX5_addProduct_40 : decode prog_8_method_46_code 40 = .ok (.iconst 2, 1) := by decide +kernel
theorem kdX5_addProduct_41 : decode prog_8_method_46_code 41 = .ok (.iload 4, 2) := by decide +kernel
theorem kdX5_addProduct_43 : decode prog_8_method_46_code 43 = .ok (.imul, 1) := by decide +kernel
theorem kdX5_addProduct_44 : decode prog_8_method_46_code 44 = .ok (.iconst 1, 1) := by decide +kernel
theorem kdX5_addProduct_45 : decode prog_8_method_46_code 45 = .ok (.iadd, 1) := by decide +kernel
theorem kdX5_addProduct_46 : decode prog_8_method_46_code 46 = .ok (.iaload, 1) := by decide +kernel
theorem kdX5_addProduct_47 : decode prog_8_method_46_code 47 = .ok (.i2l, 1) := by decide +kernel
theorem kdX5_addProduct_48 : decode prog_8_method_46_code 48 = .ok (.lstore 9, 2) := by decide +kernel
theorem kdX5_addProduct_50 : decode prog_8_method_46_code 50 = .ok (.aload_n 3, 1) := by decide +kernel
theorem kdX5_addProduct_51 : decode prog_8_method_46_code 51 = .ok (.iconst 2, 1) := by decide +kernel
theorem kdX5_addProduct_52 : decode prog_8_method_46_code 52 = .ok (.iload 4, 2) := by decide +kernel
theorem kdX5_addProduct_54 : decode prog_8_method_46_code 54 = .ok (.imul, 1) := by decide +kernel
theorem kdX5_addProduct_55 : decode prog_8_method_46_code 55 = .ok (.iaload, 1) := by decide +kernel
theorem kdX5_addProduct_56 : decode prog_8_method_46_code 56 = .ok (.i2l, 1) := by decide +kernel
theorem kdX5_addProduct_57 : decode prog_8_method_46_code 57 = .ok (.lstore 11, 2) := by decide +kernel
theorem kdX5_addProduct_59 : decode prog_8_method_46_code 59 = .ok (.aload_n 3, 1) := by decide +kernel
theorem kdX5_addProduct_60 : decode prog_8_method_46_code 60 = .ok (.iconst 2, 1) := by decide +kernel
theorem kdX5_addProduct_61 : decode prog_8_method_46_code 61 = .ok (.iload 4, 2) := by decide +kernel
theorem kdX5_addProduct_63 : decode prog_8_method_46_code 63 = .ok (.imul, 1) := by decide +kernel
theorem kdX5_addProduct_64 : decode prog_8_method_46_code 64 = .ok (.iconst 1, 1) := by decide +kernel
theorem kdX5_addProduct_65 : decode prog_8_method_46_code 65 = .ok (.iadd, 1) := by decide +kernel
theorem kdX5_addProduct_66 : decode prog_8_method_46_code 66 = .ok (.iaload, 1) := by decide +kernel
theorem kdX5_addProduct_67 : decode prog_8_method_46_code 67 = .ok (.i2l, 1) := by decide +kernel
theorem kdX5_addProduct_68 : decode prog_8_method_46_code 68 = .ok (.lstore 13, 2) := by decide +kernel
theorem kdX5_addProduct_70 : decode prog_8_method_46_code 70 = .ok (.aload_n 1, 1) := by decide +kernel
theorem kdX5_addProduct_71 : decode prog_8_method_46_code 71 = .ok (.iconst 2, 1) := by decide +kernel
theorem kdX5_addProduct_72 : decode prog_8_method_46_code 72 = .ok (.iload 4, 2) := by decide +kernel
theorem kdX5_addProduct_74 : decode prog_8_method_46_code 74 = .ok (.imul, 1) := by decide +kernel
theorem kdX5_addProduct_75 : decode prog_8_method_46_code 75 = .ok (.aload_n 1, 1) := by decide +kernel
theorem kdX5_addProduct_76 : decode prog_8_method_46_code 76 = .ok (.iconst 2, 1) := by decide +kernel
theorem kdX5_addProduct_77 : decode prog_8_method_46_code 77 = .ok (.iload 4, 2) := by decide +kernel
theorem kdX5_addProduct_79 : decode prog_8_method_46_code 79 = .ok (.imul, 1) := by decide +kernel
theorem kdX5_addProduct_80 : decode prog_8_method_46_code 80 = .ok (.iaload, 1) := by decide +kernel
theorem kdX5_addProduct_81 : decode prog_8_method_46_code 81 = .ok (.i2l, 1) := by decide +kernel
theorem kdX5_addProduct_82 : decode prog_8_method_46_code 82 = .ok (.lload 7, 2) := by decide +kernel
theorem kdX5_addProduct_84 : decode prog_8_method_46_code 84 = .ok (.lload 11, 2) := by decide +kernel
theorem kdX5_addProduct_86 : decode prog_8_method_46_code 86 = .ok (.lmul, 1) := by decide +kernel
theorem kdX5_addProduct_87 : decode prog_8_method_46_code 87 = .ok (.ladd, 1) := by decide +kernel
theorem kdX5_addProduct_88 : decode prog_8_method_46_code 88 = .ok (.lload 9, 2) := by decide +kernel
theorem kdX5_addProduct_90 : decode prog_8_method_46_code 90 = .ok (.lload 13, 2) := by decide +kernel
theorem kdX5_addProduct_92 : decode prog_8_method_46_code 92 = .ok (.lmul, 1) := by decide +kernel
theorem kdX5_addProduct_93 : decode prog_8_method_46_code 93 = .ok (.ldc2_w 224, 3) := by decide +kernel
theorem kdX5_addProduct_96 : decode prog_8_method_46_code 96 = .ok (.lrem, 1) := by decide +kernel
theorem kdX5_addProduct_97 : decode prog_8_method_46_code 97 = .ok (.lload 5, 2) := by decide +kernel
theorem kdX5_addProduct_99 : decode prog_8_method_46_code 99 = .ok (.lmul, 1) := by decide +kernel
theorem kdX5_addProduct_100 : decode prog_8_method_46_code 100 = .ok (.ladd, 1) := by decide +kernel
theorem kdX5_addProduct_101 : decode prog_8_method_46_code 101 = .ok (.ldc2_w 224, 3) := by decide +kernel
theorem kdX5_addProduct_104 : decode prog_8_method_46_code 104 = .ok (.lrem, 1) := by decide +kernel
theorem kdX5_addProduct_105 : decode prog_8_method_46_code 105 = .ok (.l2i, 1) := by decide +kernel
theorem kdX5_addProduct_106 : decode prog_8_method_46_code 106 = .ok (.iastore, 1) := by decide +kernel
theorem kdX5_addProduct_107 : decode prog_8_method_46_code 107 = .ok (.aload_n 1, 1) := by decide +kernel
theorem kdX5_addProduct_108 : decode prog_8_method_46_code 108 = .ok (.iconst 2, 1) := by decide +kernel
theorem kdX5_addProduct_109 : decode prog_8_method_46_code 109 = .ok (.iload 4, 2) := by decide +kernel
theorem kdX5_addProduct_111 : decode prog_8_method_46_code 111 = .ok (.imul, 1) := by decide +kernel
theorem kdX5_addProduct_112 : decode prog_8_method_46_code 112 = .ok (.iconst 1, 1) := by decide +kernel
theorem kdX5_addProduct_113 : decode prog_8_method_46_code 113 = .ok (.iadd, 1) := by decide +kernel
theorem kdX5_addProduct_114 : decode prog_8_method_46_code 114 = .ok (.aload_n 1, 1) := by decide +kernel
theorem kdX5_addProduct_115 : decode prog_8_method_46_code 115 = .ok (.iconst 2, 1) := by decide +kernel
theorem kdX5_addProduct_116 : decode prog_8_method_46_code 116 = .ok (.iload 4, 2) := by decide +kernel
theorem kdX5_addProduct_118 : decode prog_8_method_46_code 118 = .ok (.imul, 1) := by decide +kernel
theorem kdX5_addProduct_119 : decode prog_8_method_46_code 119 = .ok (.iconst 1, 1) := by decide +kernel
theorem kdX5_addProduct_120 : decode prog_8_method_46_code 120 = .ok (.iadd, 1) := by decide +kernel
theorem kdX5_addProduct_121 : decode prog_8_method_46_code 121 = .ok (.iaload, 1) := by decide +kernel
theorem kdX5_addProduct_122 : decode prog_8_method_46_code 122 = .ok (.i2l, 1) := by decide +kernel
theorem kdX5_addProduct_123 : decode prog_8_method_46_code 123 = .ok (.lload 7, 2) := by decide +kernel
theorem kdX5_addProduct_125 : decode prog_8_method_46_code 125 = .ok (.lload 13, 2) := by decide +kernel
theorem kdX5_addProduct_127 : decode prog_8_method_46_code 127 = .ok (.lmul, 1) := by decide +kernel
theorem kdX5_addProduct_128 : decode prog_8_method_46_code 128 = .ok (.ladd, 1) := by decide +kernel
theorem kdX5_addProduct_129 : decode prog_8_method_46_code 129 = .ok (.lload 9, 2) := by decide +kernel
theorem kdX5_addProduct_131 : decode prog_8_method_46_code 131 = .ok (.lload 11, 2) := by decide +kernel
theorem kdX5_addProduct_133 : decode prog_8_method_46_code 133 = .ok (.lmul, 1) := by decide +kernel
theorem kdX5_addProduct_134 : decode prog_8_method_46_code 134 = .ok (.ladd, 1) := by decide +kernel
theorem kdX5_addProduct_135 : decode prog_8_method_46_code 135 = .ok (.ldc2_w 224, 3) := by decide +kernel
theorem kdX5_addProduct_138 : decode prog_8_method_46_code 138 = .ok (.lrem, 1) := by decide +kernel
theorem kdX5_addProduct_139 : decode prog_8_method_46_code 139 = .ok (.l2i, 1) := by decide +kernel
theorem kdX5_addProduct_140 : decode prog_8_method_46_code 140 = .ok (.iastore, 1) := by decide +kernel
theorem kdX5_addProduct_141 : decode prog_8_method_46_code 141 = .ok (.iinc 4 1, 3) := by decide +kernel
theorem kdX5_addProduct_144 : decode prog_8_method_46_code 144 = .ok (.goto (-141), 3) := by decide +kernel
theorem kdX5_addProduct_147 : decode prog_8_method_46_code 147 = .ok (.return_, 1) := by decide +kernel
theorem kdX5_sample_0 : decode prog_8_method_47_code 0 = .ok (.aload_n 0, 1) := by decide +kernel
theorem kdX5_sample_1 : decode prog_8_method_47_code 1 = .ok (.bipush 11, 2) := by decide +kernel
theorem kdX5_sample_3 : decode prog_8_method_47_code 3 = .ok (.invokevirtual 134, 3) := by decide +kernel
theorem kdX5_sample_6 : decode prog_8_method_47_code 6 = .ok (.aload_n 0, 1) := by decide +kernel
theorem kdX5_sample_7 : decode prog_8_method_47_code 7 = .ok (.aload_n 2, 1) := by decide +kernel
theorem kdX5_sample_8 : decode prog_8_method_47_code 8 = .ok (.iload_n 3, 1) := by decide +kernel
theorem kdX5_sample_9 : decode prog_8_method_47_code 9 = .ok (.bipush 32, 2) := by decide +kernel
theorem kdX5_sample_11 : decode prog_8_method_47_code 11 = .ok (.invokevirtual 228, 3) := by decide +kernel
theorem kdX5_sample_14 : decode prog_8_method_47_code 14 = .ok (.aload_n 0, 1) := by decide +kernel
theorem kdX5_sample_15 : decode prog_8_method_47_code 15 = .ok (.iload 4, 2) := by decide +kernel
theorem kdX5_sample_17 : decode prog_8_method_47_code 17 = .ok (.invokevirtual 139, 3) := by decide +kernel
theorem kdX5_sample_20 : decode prog_8_method_47_code 20 = .ok (.aload_n 0, 1) := by decide +kernel
theorem kdX5_sample_21 : decode prog_8_method_47_code 21 = .ok (.iload 5, 2) := by decide +kernel
theorem kdX5_sample_23 : decode prog_8_method_47_code 23 = .ok (.invokevirtual 139, 3) := by decide +kernel
theorem kdX5_sample_26 : decode prog_8_method_47_code 26 = .ok (.aload_n 0, 1) := by decide +kernel
theorem kdX5_sample_27 : decode prog_8_method_47_code 27 = .ok (.invokevirtual 142, 3) := by decide +kernel
theorem kdX5_sample_30 : decode prog_8_method_47_code 30 = .ok (.iconst 0, 1) := by decide +kernel
theorem kdX5_sample_31 : decode prog_8_method_47_code 31 = .ok (.istore 6, 2) := by decide +kernel
theorem kdX5_sample_33 : decode prog_8_method_47_code 33 = .ok (.iconst 0, 1) := by decide +kernel
theorem kdX5_sample_34 : decode prog_8_method_47_code 34 = .ok (.istore 7, 2) := by decide +kernel
theorem kdX5_sample_36 : decode prog_8_method_47_code 36 = .ok (.iload 7, 2) := by decide +kernel
theorem kdX5_sample_38 : decode prog_8_method_47_code 38 = .ok (.sipush 280, 3) := by decide +kernel
theorem kdX5_sample_41 : decode prog_8_method_47_code 41 = .ok (.if_icmp .ge 115, 3) := by decide +kernel
theorem kdX5_sample_44 : decode prog_8_method_47_code 44 = .ok (.iload 6, 2) := by decide +kernel
theorem kdX5_sample_46 : decode prog_8_method_47_code 46 = .ok (.sipush 256, 3) := by decide +kernel
theorem kdX5_sample_49 : decode prog_8_method_47_code 49 = .ok (.if_icmp .ge 107, 3) := by decide +kernel
theorem kdX5_sample_52 : decode prog_8_method_47_code 52 = .ok (.aload_n 0, 1) := by decide +kernel
theorem kdX5_sample_53 : decode prog_8_method_47_code 53 = .ok (.invokevirtual 198, 3) := by decide +kernel
theorem kdX5_sample_56 : decode prog_8_method_47_code 56 = .ok (.istore 8, 2) := by decide +kernel
theorem kdX5_sample_58 : decode prog_8_method_47_code 58 = .ok (.aload_n 0, 1) := by decide +kernel
theorem kdX5_sample_59 : decode prog_8_method_47_code 59 = .ok (.invokevirtual 198, 3) := by decide +kernel
theorem kdX5_sample_62 : decode prog_8_method_47_code 62 = .ok (.istore 9, 2) := by decide +kernel
theorem kdX5_sample_64 : decode prog_8_method_47_code 64 = .ok (.aload_n 0, 1) := by decide +kernel
theorem kdX5_sample_65 : decode prog_8_method_47_code 65 = .ok (.invokevirtual 198, 3) := by decide +kernel
theorem kdX5_sample_68 : decode prog_8_method_47_code 68 = .ok (.istore 10, 2) := by decide +kernel
theorem kdX5_sample_70 : decode prog_8_method_47_code 70 = .ok (.iload 8, 2) := by decide +kernel
theorem kdX5_sample_72 : decode prog_8_method_47_code 72 = .ok (.sipush 256, 3) := by decide +kernel
theorem kdX5_sample_75 : decode prog_8_method_47_code 75 = .ok (.iload 9, 2) := by decide +kernel
theorem kdX5_sample_77 : decode prog_8_method_47_code 77 = .ok (.bipush 16, 2) := by decide +kernel
theorem kdX5_sample_79 : decode prog_8_method_47_code 79 = .ok (.irem, 1) := by decide +kernel
theorem kdX5_sample_80 : decode prog_8_method_47_code 80 = .ok (.imul, 1) := by decide +kernel
theorem kdX5_sample_81 : decode prog_8_method_47_code 81 = .ok (.iadd, 1) := by decide +kernel
theorem kdX5_sample_82 : decode prog_8_method_47_code 82 = .ok (.sipush 3329, 3) := by decide +kernel
theorem kdX5_sample_85 : decode prog_8_method_47_code 85 = .ok (.if_icmp .ge 22, 3) := by decide +kernel
theorem kdX5_sample_88 : decode prog_8_method_47_code 88 = .ok (.aload_n 1, 1) := by decide +kernel
theorem kdX5_sample_89 : decode prog_8_method_47_code 89 = .ok (.iload 6, 2) := by decide +kernel
theorem kdX5_sample_91 : decode prog_8_method_47_code 91 = .ok (.iload 8, 2) := by decide +kernel
theorem kdX5_sample_93 : decode prog_8_method_47_code 93 = .ok (.sipush 256, 3) := by decide +kernel
theorem kdX5_sample_96 : decode prog_8_method_47_code 96 = .ok (.iload 9, 2) := by decide +kernel
theorem kdX5_sample_98 : decode prog_8_method_47_code 98 = .ok (.bipush 16, 2) := by decide +kernel
theorem kdX5_sample_100 : decode prog_8_method_47_code 100 = .ok (.irem, 1) := by decide +kernel
theorem kdX5_sample_101 : decode prog_8_method_47_code 101 = .ok (.imul, 1) := by decide +kernel
theorem kdX5_sample_102 : decode prog_8_method_47_code 102 = .ok (.iadd, 1) := by decide +kernel
theorem kdX5_sample_103 : decode prog_8_method_47_code 103 = .ok (.iastore, 1) := by decide +kernel
theorem kdX5_sample_104 : decode prog_8_method_47_code 104 = .ok (.iinc 6 1, 3) := by decide +kernel
theorem kdX5_sample_107 : decode prog_8_method_47_code 107 = .ok (.iload 6, 2) := by decide +kernel
theorem kdX5_sample_109 : decode prog_8_method_47_code 109 = .ok (.sipush 256, 3) := by decide +kernel
theorem kdX5_sample_112 : decode prog_8_method_47_code 112 = .ok (.if_icmp .ge 38, 3) := by decide +kernel
theorem kdX5_sample_115 : decode prog_8_method_47_code 115 = .ok (.iload 9, 2) := by decide +kernel
theorem kdX5_sample_117 : decode prog_8_method_47_code 117 = .ok (.bipush 16, 2) := by decide +kernel
theorem kdX5_sample_119 : decode prog_8_method_47_code 119 = .ok (.idiv, 1) := by decide +kernel
theorem kdX5_sample_120 : decode prog_8_method_47_code 120 = .ok (.bipush 16, 2) := by decide +kernel
theorem kdX5_sample_122 : decode prog_8_method_47_code 122 = .ok (.iload 10, 2) := by decide +kernel
theorem kdX5_sample_124 : decode prog_8_method_47_code 124 = .ok (.imul, 1) := by decide +kernel
theorem kdX5_sample_125 : decode prog_8_method_47_code 125 = .ok (.iadd, 1) := by decide +kernel
theorem kdX5_sample_126 : decode prog_8_method_47_code 126 = .ok (.sipush 3329, 3) := by decide +kernel
theorem kdX5_sample_129 : decode prog_8_method_47_code 129 = .ok (.if_icmp .ge 21, 3) := by decide +kernel
theorem kdX5_sample_132 : decode prog_8_method_47_code 132 = .ok (.aload_n 1, 1) := by decide +kernel
theorem kdX5_sample_133 : decode prog_8_method_47_code 133 = .ok (.iload 6, 2) := by decide +kernel
theorem kdX5_sample_135 : decode prog_8_method_47_code 135 = .ok (.iload 9, 2) := by decide +kernel
theorem kdX5_sample_137 : decode prog_8_method_47_code 137 = .ok (.bipush 16, 2) := by decide +kernel
theorem kdX5_sample_139 : decode prog_8_method_47_code 139 = .ok (.idiv, 1) := by decide +kernel
theorem kdX5_sample_140 : decode prog_8_method_47_code 140 = .ok (.bipush 16, 2) := by decide +kernel
theorem kdX5_sample_142 : decode prog_8_method_47_code 142 = .ok (.iload 10, 2) := by decide +kernel
theorem kdX5_sample_144 : decode prog_8_method_47_code 144 = .ok (.imul, 1) := by decide +kernel
theorem kdX5_sample_145 : decode prog_8_method_47_code 145 = .ok (.iadd, 1) := by decide +kernel
theorem kdX5_sample_146 : decode prog_8_method_47_code 146 = .ok (.iastore, 1) := by decide +kernel
theorem kdX5_sample_147 : decode prog_8_method_47_code 147 = .ok (.iinc 6 1, 3) := by decide +kernel
theorem kdX5_sample_150 : decode prog_8_method_47_code 150 = .ok (.iinc 7 1, 3) := by decide +kernel
theorem kdX5_sample_153 : decode prog_8_method_47_code 153 = .ok (.goto (-117), 3) := by decide +kernel
theorem kdX5_sample_156 : decode prog_8_method_47_code 156 = .ok (.iload 6, 2) := by decide +kernel
theorem kdX5_sample_158 : decode prog_8_method_47_code 158 = .ok (.sipush 256, 3) := by decide +kernel
theorem kdX5_sample_161 : decode prog_8_method_47_code 161 = .ok (.if_icmp .ne 7, 3) := by decide +kernel
theorem kdX5_sample_164 : decode prog_8_method_47_code 164 = .ok (.iconst 1, 1) := by decide +kernel
theorem kdX5_sample_165 : decode prog_8_method_47_code 165 = .ok (.goto 4, 3) := by decide +kernel
theorem kdX5_sample_168 : decode prog_8_method_47_code 168 = .ok (.iconst 0, 1) := by decide +kernel
theorem kdX5_sample_169 : decode prog_8_method_47_code 169 = .ok (.ireturn, 1) := by decide +kernel
theorem kdX5_binomial_0 : decode prog_8_method_48_code 0 = .ok (.aload_n 0, 1) := by decide +kernel
theorem kdX5_binomial_1 : decode prog_8_method_48_code 1 = .ok (.bipush 12, 2) := by decide +kernel
theorem kdX5_binomial_3 : decode prog_8_method_48_code 3 = .ok (.invokevirtual 134, 3) := by decide +kernel
theorem kdX5_binomial_6 : decode prog_8_method_48_code 6 = .ok (.aload_n 0, 1) := by decide +kernel
theorem kdX5_binomial_7 : decode prog_8_method_48_code 7 = .ok (.aload_n 3, 1) := by decide +kernel
theorem kdX5_binomial_8 : decode prog_8_method_48_code 8 = .ok (.iload 4, 2) := by decide +kernel
theorem kdX5_binomial_10 : decode prog_8_method_48_code 10 = .ok (.bipush 32, 2) := by decide +kernel
theorem kdX5_binomial_12 : decode prog_8_method_48_code 12 = .ok (.invokevirtual 228, 3) := by decide +kernel
theorem kdX5_binomial_15 : decode prog_8_method_48_code 15 = .ok (.aload_n 0, 1) := by decide +kernel
theorem kdX5_binomial_16 : decode prog_8_method_48_code 16 = .ok (.iload 5, 2) := by decide +kernel
theorem kdX5_binomial_18 : decode prog_8_method_48_code 18 = .ok (.invokevirtual 139, 3) := by decide +kernel
theorem kdX5_binomial_21 : decode prog_8_method_48_code 21 = .ok (.aload_n 0, 1) := by decide +kernel
theorem kdX5_binomial_22 : decode prog_8_method_48_code 22 = .ok (.aload_n 0, 1) := by decide +kernel
theorem kdX5_binomial_23 : decode prog_8_method_48_code 23 = .ok (.getfield 76, 3) := by decide +kernel
theorem kdX5_binomial_26 : decode prog_8_method_48_code 26 = .ok (.iconst 0, 1) := by decide +kernel
theorem kdX5_binomial_27 : decode prog_8_method_48_code 27 = .ok (.bipush 64, 2) := by decide +kernel
theorem kdX5_binomial_29 : decode prog_8_method_48_code 29 = .ok (.iload_n 2, 1) := by decide +kernel
theorem kdX5_binomial_30 : decode prog_8_method_48_code 30 = .ok (.imul, 1) := by decide +kernel
theorem kdX5_binomial_31 : decode prog_8_method_48_code 31 = .ok (.invokevirtual 231, 3) := by decide +kernel
theorem kdX5_binomial_34 : decode prog_8_method_48_code 34 = .ok (.iconst 0, 1) := by decide +kernel
theorem kdX5_binomial_35 : decode prog_8_method_48_code 35 = .ok (.istore 6, 2) := by decide +kernel
theorem kdX5_binomial_37 : decode prog_8_method_48_code 37 = .ok (.iload 6, 2) := by decide +kernel
theorem kdX5_binomial_39 : decode prog_8_method_48_code 39 = .ok (.sipush 256, 3) := by decide +kernel
theorem kdX5_binomial_42 : decode prog_8_method_48_code 42 = .ok (.if_icmp .ge 83, 3) := by decide +kernel
theorem kdX5_binomial_45 : decode prog_8_method_48_code 45 = .ok (.iconst 0, 1) := by decide +kernel
theorem kdX5_binomial_46 : decode prog_8_method_48_code 46 = .ok (.istore 7, 2) := by decide +kernel
theorem kdX5_binomial_48 : decode prog_8_method_48_code 48 = .ok (.iconst 0, 1) := by decide +kernel
theorem kdX5_binomial_49 : decode prog_8_method_48_code 49 = .ok (.istore 8, 2) := by decide +kernel
theorem kdX5_binomial_51 : decode prog_8_method_48_code 51 = .ok (.iload 8, 2) := by decide +kernel
theorem kdX5_binomial_53 : decode prog_8_method_48_code 53 = .ok (.iload_n 2, 1) := by decide +kernel
theorem kdX5_binomial_54 : decode prog_8_method_48_code 54 = .ok (.if_icmp .ge 51, 3) := by decide +kernel
theorem kdX5_binomial_57 : decode prog_8_method_48_code 57 = .ok (.iload 7, 2) := by decide +kernel
theorem kdX5_binomial_59 : decode prog_8_method_48_code 59 = .ok (.aload_n 0, 1) := by decide +kernel
theorem kdX5_binomial_60 : decode prog_8_method_48_code 60 = .ok (.getfield 76, 3) := by decide +kernel
theorem kdX5_binomial_63 : decode prog_8_method_48_code 63 = .ok (.iconst 0, 1) := by decide +kernel
theorem kdX5_binomial_64 : decode prog_8_method_48_code 64 = .ok (.iconst 2, 1) := by decide +kernel
theorem kdX5_binomial_65 : decode prog_8_method_48_code 65 = .ok (.iload 6, 2) := by decide +kernel
theorem kdX5_binomial_67 : decode prog_8_method_48_code 67 = .ok (.imul, 1) := by decide +kernel
theorem kdX5_binomial_68 : decode prog_8_method_48_code 68 = .ok (.iload_n 2, 1) := by decide +kernel
theorem kdX5_binomial_69 : decode prog_8_method_48_code 69 = .ok (.imul, 1) := by decide +kernel
theorem kdX5_binomial_70 : decode prog_8_method_48_code 70 = .ok (.iload 8, 2) := by decide +kernel
theorem kdX5_binomial_72 : decode prog_8_method_48_code 72 = .ok (.iadd, 1) := by decide +kernel
theorem kdX5_binomial_73 : decode prog_8_method_48_code 73 = .ok (.invokestatic 205, 3) := by decide +kernel
theorem kdX5_binomial_76 : decode prog_8_method_48_code 76 = .ok (.aload_n 0, 1) := by decide +kernel
theorem kdX5_binomial_77 : decode prog_8_method_48_code 77 = .ok (.getfield 76, 3) := by decide +kernel
theorem kdX5_binomial_80 : decode prog_8_method_48_code 80 = .ok (.iconst 0, 1) := by decide +kernel
theorem kdX5_binomial_81 : decode prog_8_method_48_code 81 = .ok (.iconst 2, 1) := by decide +kernel
theorem kdX5_binomial_82 : decode prog_8_method_48_code 82 = .ok (.iload 6, 2) := by decide +kernel
theorem kdX5_binomial_84 : decode prog_8_method_48_code 84 = .ok (.imul, 1) := by decide +kernel
theorem kdX5_binomial_85 : decode prog_8_method_48_code 85 = .ok (.iload_n 2, 1) := by decide +kernel
theorem kdX5_binomial_86 : decode prog_8_method_48_code 86 = .ok (.imul, 1) := by decide +kernel
theorem kdX5_binomial_87 : decode prog_8_method_48_code 87 = .ok (.iload_n 2, 1) := by decide +kernel
theorem kdX5_binomial_88 : decode prog_8_method_48_code 88 = .ok (.iadd, 1) := by decide +kernel
theorem kdX5_binomial_89 : decode prog_8_method_48_code 89 = .ok (.iload 8, 2) := by decide +kernel
theorem kdX5_binomial_91 : decode prog_8_method_48_code 91 = .ok (.iadd, 1) := by decide +kernel
theorem kdX5_binomial_92 : decode prog_8_method_48_code 92 = .ok (.invokestatic 205, 3) := by decide +kernel
theorem kdX5_binomial_95 : decode prog_8_method_48_code 95 = .ok (.isub, 1) := by decide +kernel
theorem kdX5_binomial_96 : decode prog_8_method_48_code 96 = .ok (.iadd, 1) := by decide +kernel
theorem kdX5_binomial_97 : decode prog_8_method_48_code 97 = .ok (.istore 7, 2) := by decide +kernel
theorem kdX5_binomial_99 : decode prog_8_method_48_code 99 = .ok (.iinc 8 1, 3) := by decide +kernel
theorem kdX5_binomial_102 : decode prog_8_method_48_code 102 = .ok (.goto (-51), 3) := by decide +kernel
theorem kdX5_binomial_105 : decode prog_8_method_48_code 105 = .ok (.aload_n 1, 1) := by decide +kernel
theorem kdX5_binomial_106 : decode prog_8_method_48_code 106 = .ok (.iload 6, 2) := by decide +kernel
theorem kdX5_binomial_108 : decode prog_8_method_48_code 108 = .ok (.iload 7, 2) := by decide +kernel
theorem kdX5_binomial_110 : decode prog_8_method_48_code 110 = .ok (.sipush 3329, 3) := by decide +kernel
theorem kdX5_binomial_113 : decode prog_8_method_48_code 113 = .ok (.iadd, 1) := by decide +kernel
theorem kdX5_binomial_114 : decode prog_8_method_48_code 114 = .ok (.sipush 3329, 3) := by decide +kernel
theorem kdX5_binomial_117 : decode prog_8_method_48_code 117 = .ok (.irem, 1) := by decide +kernel
theorem kdX5_binomial_118 : decode prog_8_method_48_code 118 = .ok (.iastore, 1) := by decide +kernel
theorem kdX5_binomial_119 : decode prog_8_method_48_code 119 = .ok (.iinc 6 1, 3) := by decide +kernel
theorem kdX5_binomial_122 : decode prog_8_method_48_code 122 = .ok (.goto (-85), 3) := by decide +kernel
theorem kdX5_binomial_125 : decode prog_8_method_48_code 125 = .ok (.return_, 1) := by decide +kernel
theorem kdX5_compress_0 : decode prog_8_method_49_code 0 = .ok (.ldc2_w 234, 3) := by decide +kernel
theorem kdX5_compress_3 : decode prog_8_method_49_code 3 = .ok (.iload_n 0, 1) := by decide +kernel
theorem kdX5_compress_4 : decode prog_8_method_49_code 4 = .ok (.i2l, 1) := by decide +kernel
theorem kdX5_compress_5 : decode prog_8_method_49_code 5 = .ok (.lmul, 1) := by decide +kernel
theorem kdX5_compress_6 : decode prog_8_method_49_code 6 = .ok (.iload_n 1, 1) := by decide +kernel
theorem kdX5_compress_7 : decode prog_8_method_49_code 7 = .ok (.lshl, 1) := by decide +kernel
theorem kdX5_compress_8 : decode prog_8_method_49_code 8 = .ok (.ldc2_w 224, 3) := by decide +kernel
theorem kdX5_compress_11 : decode prog_8_method_49_code 11 = .ok (.ladd, 1) := by decide +kernel
theorem kdX5_compress_12 : decode prog_8_method_49_code 12 = .ok (.ldc2_w 236, 3) := by decide +kernel
theorem kdX5_compress_15 : decode prog_8_method_49_code 15 = .ok (.ldiv, 1) := by decide +kernel
theorem kdX5_compress_16 : decode prog_8_method_49_code 16 = .ok (.l2i, 1) := by decide +kernel
theorem kdX5_compress_17 : decode prog_8_method_49_code 17 = .ok (.iconst 1, 1) := by decide +kernel
theorem kdX5_compress_18 : decode prog_8_method_49_code 18 = .ok (.iload_n 1, 1) := by decide +kernel
theorem kdX5_compress_19 : decode prog_8_method_49_code 19 = .ok (.ishl, 1) := by decide +kernel
theorem kdX5_compress_20 : decode prog_8_method_49_code 20 = .ok (.iconst 1, 1) := by decide +kernel
theorem kdX5_compress_21 : decode prog_8_method_49_code 21 = .ok (.isub, 1) := by decide +kernel
theorem kdX5_compress_22 : decode prog_8_method_49_code 22 = .ok (.iand, 1) := by decide +kernel
theorem kdX5_compress_23 : decode prog_8_method_49_code 23 = .ok (.ireturn, 1) := by decide +kernel
theorem kdX5_expand_0 : decode prog_8_method_50_code 0 = .ok (.sipush 6658, 3) := by decide +kernel
theorem kdX5_expand_3 : decode prog_8_method_50_code 3 = .ok (.iload_n 0, 1) := by decide +kernel
theorem kdX5_expand_4 : decode prog_8_method_50_code 4 = .ok (.imul, 1) := by decide +kernel
theorem kdX5_expand_5 : decode prog_8_method_50_code 5 = .ok (.iconst 1, 1) := by decide +kernel
theorem kdX5_expand_6 : decode prog_8_method_50_code 6 = .ok (.iload_n 1, 1) := by decide +kernel
theorem kdX5_expand_7 : decode prog_8_method_50_code 7 = .ok (.ishl, 1) := by decide +kernel
theorem kdX5_expand_8 : decode prog_8_method_50_code 8 = .ok (.iadd, 1) := by decide +kernel
theorem kdX5_expand_9 : decode prog_8_method_50_code 9 = .ok (.iload_n 1, 1) := by decide +kernel
theorem kdX5_expand_10 : decode prog_8_method_50_code 10 = .ok (.iconst 1, 1) := by decide +kernel
theorem kdX5_expand_11 : decode prog_8_method_50_code 11 = .ok (.iadd, 1) := by decide +kernel
theorem kdX5_expand_12 : decode prog_8_method_50_code 12 = .ok (.ishr, 1) := by decide +kernel
theorem kdX5_expand_13 : decode prog_8_method_50_code 13 = .ok (.ireturn, 1) := by decide +kernel
theorem kdX5_kemKeys_0 : decode prog_8_method_51_code 0 = .ok (.aload_n 0, 1) := by decide +kernel
theorem kdX5_kemKeys_1 : decode prog_8_method_51_code 1 = .ok (.iload_n 1, 1) := by decide +kernel
theorem kdX5_kemKeys_2 : decode prog_8_method_51_code 2 = .ok (.iconst 0, 1) := by decide +kernel
theorem kdX5_kemKeys_3 : decode prog_8_method_51_code 3 = .ok (.iconst 2, 1) := by decide +kernel
theorem kdX5_kemKeys_4 : decode prog_8_method_51_code 4 = .ok (.invokestatic 106, 3) := by decide +kernel
theorem kdX5_kemKeys_7 : decode prog_8_method_51_code 7 = .ok (.iconst 1, 1) := by decide +kernel
theorem kdX5_kemKeys_8 : decode prog_8_method_51_code 8 = .ok (.invokevirtual 98, 3) := by decide +kernel
theorem kdX5_kemKeys_11 : decode prog_8_method_51_code 11 = .ok (.ifCond .eq 27, 3) := by decide +kernel
theorem kdX5_kemKeys_14 : decode prog_8_method_51_code 14 = .ok (.aload_n 0, 1) := by decide +kernel
theorem kdX5_kemKeys_15 : decode prog_8_method_51_code 15 = .ok (.aload_n 0, 1) := by decide +kernel
theorem kdX5_kemKeys_16 : decode prog_8_method_51_code 16 = .ok (.getfield 18, 3) := by decide +kernel
theorem kdX5_kemKeys_19 : decode prog_8_method_51_code 19 = .ok (.iconst 0, 1) := by decide +kernel
theorem kdX5_kemKeys_20 : decode prog_8_method_51_code 20 = .ok (.iaload, 1) := by decide +kernel
theorem kdX5_kemKeys_21 : decode prog_8_method_51_code 21 = .ok (.bipush 64, 2) := by decide +kernel
theorem kdX5_kemKeys_23 : decode prog_8_method_51_code 23 = .ok (.if_icmp .ne 7, 3) := by decide +kernel
theorem kdX5_kemKeys_26 : decode prog_8_method_51_code 26 = .ok (.iconst 1, 1) := by decide +kernel
theorem kdX5_kemKeys_27 : decode prog_8_method_51_code 27 = .ok (.goto 4, 3) := by decide +kernel
theorem kdX5_kemKeys_30 : decode prog_8_method_51_code 30 = .ok (.iconst 0, 1) := by decide +kernel
theorem kdX5_kemKeys_31 : decode prog_8_method_51_code 31 = .ok (.iconst 2, 1) := by decide +kernel
theorem kdX5_kemKeys_32 : decode prog_8_method_51_code 32 = .ok (.invokevirtual 98, 3) := by decide +kernel
theorem kdX5_kemKeys_35 : decode prog_8_method_51_code 35 = .ok (.ifCond .ne 5, 3) := by decide +kernel
theorem kdX5_kemKeys_38 : decode prog_8_method_51_code 38 = .ok (.iconst 0, 1) := by decide +kernel
theorem kdX5_kemKeys_39 : decode prog_8_method_51_code 39 = .ok (.ireturn, 1) := by decide +kernel
theorem kdX5_kemKeys_40 : decode prog_8_method_51_code 40 = .ok (.aload_n 0, 1) := by decide +kernel
theorem kdX5_kemKeys_41 : decode prog_8_method_51_code 41 = .ok (.iload_n 1, 1) := by decide +kernel
theorem kdX5_kemKeys_42 : decode prog_8_method_51_code 42 = .ok (.invokevirtual 238, 3) := by decide +kernel
theorem kdX5_kemKeys_45 : decode prog_8_method_51_code 45 = .ok (.aload_n 0, 1) := by decide +kernel
theorem kdX5_kemKeys_46 : decode prog_8_method_51_code 46 = .ok (.bipush 10, 2) := by decide +kernel
theorem kdX5_kemKeys_48 : decode prog_8_method_51_code 48 = .ok (.invokevirtual 134, 3) := by decide +kernel
theorem kdX5_kemKeys_51 : decode prog_8_method_51_code 51 = .ok (.aload_n 0, 1) := by decide +kernel
theorem kdX5_kemKeys_52 : decode prog_8_method_51_code 52 = .ok (.aload_n 0, 1) := by decide +kernel
theorem kdX5_kemKeys_53 : decode prog_8_method_51_code 53 = .ok (.getfield 15, 3) := by decide +kernel
theorem kdX5_kemKeys_56 : decode prog_8_method_51_code 56 = .ok (.iconst 0, 1) := by decide +kernel
theorem kdX5_kemKeys_57 : decode prog_8_method_51_code 57 = .ok (.aaload, 1) := by decide +kernel
theorem kdX5_kemKeys_58 : decode prog_8_method_51_code 58 = .ok (.iconst 0, 1) := by decide +kernel
theorem kdX5_kemKeys_59 : decode prog_8_method_51_code 59 = .ok (.bipush 32, 2) := by decide +kernel
theorem kdX5_kemKeys_61 : decode prog_8_method_51_code 61 = .ok (.invokevirtual 228, 3) := by decide +kernel
theorem kdX5_kemKeys_64 : decode prog_8_method_51_code 64 = .ok (.aload_n 0, 1) := by decide +kernel
theorem kdX5_kemKeys_65 : decode prog_8_method_51_code 65 = .ok (.aload_n 0, 1) := by decide +kernel
theorem kdX5_kemKeys_66 : decode prog_8_method_51_code 66 = .ok (.getfield 209, 3) := by decide +kernel
theorem kdX5_kemKeys_69 : decode prog_8_method_51_code 69 = .ok (.invokevirtual 139, 3) := by decide +kernel
theorem kdX5_kemKeys_72 : decode prog_8_method_51_code 72 = .ok (.aload_n 0, 1) := by decide +kernel
theorem kdX5_kemKeys_73 : decode prog_8_method_51_code 73 = .ok (.aload_n 0, 1) := by decide +kernel
theorem kdX5_kemKeys_74 : decode prog_8_method_51_code 74 = .ok (.getfield 73, 3) := by decide +kernel
theorem kdX5_kemKeys_77 : decode prog_8_method_51_code 77 = .ok (.iconst 0, 1) := by decide +kernel
theorem kdX5_kemKeys_78 : decode prog_8_method_51_code 78 = .ok (.bipush 64, 2) := by decide +kernel
theorem kdX5_kemKeys_80 : decode prog_8_method_51_code 80 = .ok (.invokevirtual 231, 3) := by decide +kernel
theorem kdX5_kemKeys_83 : decode prog_8_method_51_code 83 = .ok (.iconst 0, 1) := by decide +kernel
theorem kdX5_kemKeys_84 : decode prog_8_method_51_code 84 = .ok (.istore_n 2, 1) := by decide +kernel
theorem kdX5_kemKeys_85 : decode prog_8_method_51_code 85 = .ok (.iload_n 2, 1) := by decide +kernel
theorem kdX5_kemKeys_86 : decode prog_8_method_51_code 86 = .ok (.aload_n 0, 1) := by decide +kernel
theorem kdX5_kemKeys_87 : decode prog_8_method_51_code 87 = .ok (.getfield 209, 3) := by decide +kernel
theorem kdX5_kemKeys_90 : decode prog_8_method_51_code 90 = .ok (.if_icmp .ge 40, 3) := by decide +kernel
theorem kdX5_kemKeys_93 : decode prog_8_method_51_code 93 = .ok (.aload_n 0, 1) := by decide +kernel
theorem kdX5_kemKeys_94 : decode prog_8_method_51_code 94 = .ok (.aload_n 0, 1) := by decide +kernel
theorem kdX5_kemKeys_95 : decode prog_8_method_51_code 95 = .ok (.getfield 70, 3) := by decide +kernel
theorem kdX5_kemKeys_98 : decode prog_8_method_51_code 98 = .ok (.iload_n 2, 1) := by decide +kernel
theorem kdX5_kemKeys_99 : decode prog_8_method_51_code 99 = .ok (.aaload, 1) := by decide +kernel
theorem kdX5_kemKeys_100 : decode prog_8_method_51_code 100 = .ok (.aload_n 0, 1) := by decide +kernel
theorem kdX5_kemKeys_101 : decode prog_8_method_51_code 101 = .ok (.getfield 212, 3) := by decide +kernel
theorem kdX5_kemKeys_104 : decode prog_8_method_51_code 104 = .ok (.aload_n 0, 1) := by decide +kernel
theorem kdX5_kemKeys_105 : decode prog_8_method_51_code 105 = .ok (.getfield 73, 3) := by decide +kernel
theorem kdX5_kemKeys_108 : decode prog_8_method_51_code 108 = .ok (.bipush 32, 2) := by decide +kernel
theorem kdX5_kemKeys_110 : decode prog_8_method_51_code 110 = .ok (.iload_n 2, 1) := by decide +kernel
theorem kdX5_kemKeys_111 : decode prog_8_method_51_code 111 = .ok (.invokevirtual 241, 3) := by decide +kernel
theorem kdX5_kemKeys_114 : decode prog_8_method_51_code 114 = .ok (.aload_n 0, 1) := by decide +kernel
theorem kdX5_kemKeys_115 : decode prog_8_method_51_code 115 = .ok (.aload_n 0, 1) := by decide +kernel
theorem kdX5_kemKeys_116 : decode prog_8_method_51_code 116 = .ok (.getfield 70, 3) := by decide +kernel
theorem kdX5_kemKeys_119 : decode prog_8_method_51_code 119 = .ok (.iload_n 2, 1) := by decide +kernel
theorem kdX5_kemKeys_120 : decode prog_8_method_51_code 120 = .ok (.aaload, 1) := by decide +kernel
theorem kdX5_kemKeys_121 : decode prog_8_method_51_code 121 = .ok (.invokevirtual 245, 3) := by decide +kernel
theorem kdX5_kemKeys_124 : decode prog_8_method_51_code 124 = .ok (.iinc 2 1, 3) := by decide +kernel
theorem kdX5_kemKeys_127 : decode prog_8_method_51_code 127 = .ok (.goto (-42), 3) := by decide +kernel
theorem kdX5_kemKeys_130 : decode prog_8_method_51_code 130 = .ok (.aload_n 0, 1) := by decide +kernel
theorem kdX5_kemKeys_131 : decode prog_8_method_51_code 131 = .ok (.iconst 0, 1) := by decide +kernel
theorem kdX5_kemKeys_132 : decode prog_8_method_51_code 132 = .ok (.putfield 202, 3) := by decide +kernel
theorem kdX5_kemKeys_135 : decode prog_8_method_51_code 135 = .ok (.iconst 0, 1) := by decide +kernel
theorem kdX5_kemKeys_136 : decode prog_8_method_51_code 136 = .ok (.istore_n 2, 1) := by decide +kernel
theorem kdX5_kemKeys_137 : decode prog_8_method_51_code 137 = .ok (.iload_n 2, 1) := by decide +kernel
theorem kdX5_kemKeys_138 : decode prog_8_method_51_code 138 = .ok (.aload_n 0, 1) := by decide +kernel
theorem kdX5_kemKeys_139 : decode prog_8_method_51_code 139 = .ok (.getfield 209, 3) := by decide +kernel
theorem kdX5_kemKeys_142 : decode prog_8_method_51_code 142 = .ok (.if_icmp .ge 150, 3) := by decide +kernel
theorem kdX5_kemKeys_145 : decode prog_8_method_51_code 145 = .ok (.aload_n 0, 1) := by decide +kernel
theorem kdX5_kemKeys_146 : decode prog_8_method_51_code 146 = .ok (.aload_n 0, 1) := by decide +kernel
theorem kdX5_kemKeys_147 : decode prog_8_method_51_code 147 = .ok (.getfield 70, 3) := by decide +kernel
theorem kdX5_kemKeys_150 : decode prog_8_method_51_code 150 = .ok (.bipush 10, 2) := by decide +kernel
theorem kdX5_kemKeys_152 : decode prog_8_method_51_code 152 = .ok (.aaload, 1) := by decide +kernel
theorem kdX5_kemKeys_153 : decode prog_8_method_51_code 153 = .ok (.aload_n 0, 1) := by decide +kernel
theorem kdX5_kemKeys_154 : decode prog_8_method_51_code 154 = .ok (.getfield 212, 3) := by decide +kernel
theorem kdX5_kemKeys_157 : decode prog_8_method_51_code 157 = .ok (.aload_n 0, 1) := by decide +kernel
theorem kdX5_kemKeys_158 : decode prog_8_method_51_code 158 = .ok (.getfield 73, 3) := by decide +kernel
theorem kdX5_kemKeys_161 : decode prog_8_method_51_code 161 = .ok (.bipush 32, 2) := by decide +kernel
theorem kdX5_kemKeys_163 : decode prog_8_method_51_code 163 = .ok (.aload_n 0, 1) := by decide +kernel
theorem kdX5_kemKeys_164 : decode prog_8_method_51_code 164 = .ok (.getfield 209, 3) := by decide +kernel
theorem kdX5_kemKeys_167 : decode prog_8_method_51_code 167 = .ok (.iload_n 2, 1) := by decide +kernel
theorem kdX5_kemKeys_168 : decode prog_8_method_51_code 168 = .ok (.iadd, 1) := by decide +kernel
theorem kdX5_kemKeys_169 : decode prog_8_method_51_code 169 = .ok (.invokevirtual 241, 3) := by decide +kernel
theorem kdX5_kemKeys_172 : decode prog_8_method_51_code 172 = .ok (.aload_n 0, 1) := by decide +kernel
theorem kdX5_kemKeys_173 : decode prog_8_method_51_code 173 = .ok (.aload_n 0, 1) := by decide +kernel
theorem kdX5_kemKeys_174 : decode prog_8_method_51_code 174 = .ok (.getfield 70, 3) := by decide +kernel
theorem kdX5_kemKeys_177 : decode prog_8_method_51_code 177 = .ok (.bipush 10, 2) := by decide +kernel
theorem kdX5_kemKeys_179 : decode prog_8_method_51_code 179 = .ok (.aaload, 1) := by decide +kernel
theorem kdX5_kemKeys_180 : decode prog_8_method_51_code 180 = .ok (.invokevirtual 245, 3) := by decide +kernel
theorem kdX5_kemKeys_183 : decode prog_8_method_51_code 183 = .ok (.iconst 0, 1) := by decide +kernel
theorem kdX5_kemKeys_184 : decode prog_8_method_51_code 184 = .ok (.istore_n 3, 1) := by decide +kernel
theorem kdX5_kemKeys_185 : decode prog_8_method_51_code 185 = .ok (.iload_n 3, 1) := by decide +kernel
theorem kdX5_kemKeys_186 : decode prog_8_method_51_code 186 = .ok (.aload_n 0, 1) := by decide +kernel
theorem kdX5_kemKeys_187 : decode prog_8_method_51_code 187 = .ok (.getfield 209, 3) := by decide +kernel
theorem kdX5_kemKeys_190 : decode prog_8_method_51_code 190 = .ok (.if_icmp .ge 61, 3) := by decide +kernel
theorem kdX5_kemKeys_193 : decode prog_8_method_51_code 193 = .ok (.aload_n 0, 1) := by decide +kernel
theorem kdX5_kemKeys_194 : decode prog_8_method_51_code 194 = .ok (.aload_n 0, 1) := by decide +kernel
theorem kdX5_kemKeys_195 : decode prog_8_method_51_code 195 = .ok (.aload_n 0, 1) := by decide +kernel
theorem kdX5_kemKeys_196 : decode prog_8_method_51_code 196 = .ok (.getfield 70, 3) := by decide +kernel
theorem kdX5_kemKeys_199 : decode prog_8_method_51_code 199 = .ok (.bipush 11, 2) := by decide +kernel
theorem kdX5_kemKeys_201 : decode prog_8_method_51_code 201 = .ok (.aaload, 1) := by decide +kernel
theorem kdX5_kemKeys_202 : decode prog_8_method_51_code 202 = .ok (.aload_n 0, 1) := by decide +kernel
theorem kdX5_kemKeys_203 : decode prog_8_method_51_code 203 = .ok (.getfield 73, 3) := by decide +kernel
theorem kdX5_kemKeys_206 : decode prog_8_method_51_code 206 = .ok (.iconst 0, 1) := by decide +kernel
theorem kdX5_kemKeys_207 : decode prog_8_method_51_code 207 = .ok (.iload_n 3, 1) := by decide +kernel
theorem kdX5_kemKeys_208 : decode prog_8_method_51_code 208 = .ok (.iload_n 2, 1) := by decide +kernel
theorem kdX5_kemKeys_209 : decode prog_8_method_51_code 209 = .ok (.invokevirtual 249, 3) := by decide +kernel
theorem kdX5_kemKeys_212 : decode prog_8_method_51_code 212 = .ok (.iconst 3, 1) := by decide +kernel
theorem kdX5_kemKeys_213 : decode prog_8_method_51_code 213 = .ok (.invokevirtual 98, 3) := by decide +kernel
theorem kdX5_kemKeys_216 : decode prog_8_method_51_code 216 = .ok (.ifCond .ne 5, 3) := by decide +kernel
theorem kdX5_kemKeys_219 : decode prog_8_method_51_code 219 = .ok (.iconst 0, 1) := by decide +kernel
theorem kdX5_kemKeys_220 : decode prog_8_method_51_code 220 = .ok (.ireturn, 1) := by decide +kernel
theorem kdX5_kemKeys_221 : decode prog_8_method_51_code 221 = .ok (.aload_n 0, 1) := by decide +kernel
theorem kdX5_kemKeys_222 : decode prog_8_method_51_code 222 = .ok (.aload_n 0, 1) := by decide +kernel
theorem kdX5_kemKeys_223 : decode prog_8_method_51_code 223 = .ok (.getfield 70, 3) := by decide +kernel
theorem kdX5_kemKeys_226 : decode prog_8_method_51_code 226 = .ok (.bipush 10, 2) := by decide +kernel
theorem kdX5_kemKeys_228 : decode prog_8_method_51_code 228 = .ok (.aaload, 1) := by decide +kernel
theorem kdX5_kemKeys_229 : decode prog_8_method_51_code 229 = .ok (.aload_n 0, 1) := by decide +kernel
theorem kdX5_kemKeys_230 : decode prog_8_method_51_code 230 = .ok (.getfield 70, 3) := by decide +kernel
theorem kdX5_kemKeys_233 : decode prog_8_method_51_code 233 = .ok (.bipush 11, 2) := by decide +kernel
theorem kdX5_kemKeys_235 : decode prog_8_method_51_code 235 = .ok (.aaload, 1) := by decide +kernel
theorem kdX5_kemKeys_236 : decode prog_8_method_51_code 236 = .ok (.aload_n 0, 1) := by decide +kernel
theorem kdX5_kemKeys_237 : decode prog_8_method_51_code 237 = .ok (.getfield 70, 3) := by decide +kernel
theorem kdX5_kemKeys_240 : decode prog_8_method_51_code 240 = .ok (.iload_n 3, 1) := by decide +kernel
theorem kdX5_kemKeys_241 : decode prog_8_method_51_code 241 = .ok (.aaload, 1) := by decide +kernel
theorem kdX5_kemKeys_242 : decode prog_8_method_51_code 242 = .ok (.invokevirtual 253, 3) := by decide +kernel
theorem kdX5_kemKeys_245 : decode prog_8_method_51_code 245 = .ok (.iinc 3 1, 3) := by decide +kernel
theorem kdX5_kemKeys_248 : decode prog_8_method_51_code 248 = .ok (.goto (-63), 3) := by decide +kernel
theorem kdX5_kemKeys_251 : decode prog_8_method_51_code 251 = .ok (.iconst 0, 1) := by decide +kernel
theorem kdX5_kemKeys_252 : decode prog_8_method_51_code 252 = .ok (.istore_n 3, 1) := by decide +kernel
theorem kdX5_kemKeys_253 : decode prog_8_method_51_code 253 = .ok (.iload_n 3, 1) := by decide +kernel
theorem kdX5_kemKeys_254 : decode prog_8_method_51_code 254 = .ok (.sipush 256, 3) := by decide +kernel
theorem kdX5_kemKeys_257 : decode prog_8_method_51_code 257 = .ok (.if_icmp .ge 29, 3) := by decide +kernel
theorem kdX5_kemKeys_260 : decode prog_8_method_51_code 260 = .ok (.aload_n 0, 1) := by decide +kernel
theorem kdX5_kemKeys_261 : decode prog_8_method_51_code 261 = .ok (.aload_n 0, 1) := by decide +kernel
theorem kdX5_kemKeys_262 : decode prog_8_method_51_code 262 = .ok (.getfield 79, 3) := by decide +kernel
theorem kdX5_kemKeys_265 : decode prog_8_method_51_code 265 = .ok (.iconst 0, 1) := by decide +kernel
theorem kdX5_kemKeys_266 : decode prog_8_method_51_code 266 = .ok (.aload_n 0, 1) := by decide +kernel
theorem kdX5_kemKeys_267 : decode prog_8_method_51_code 267 = .ok (.getfield 70, 3) := by decide +kernel
theorem kdX5_kemKeys_270 : decode prog_8_method_51_code 270 = .ok (.bipush 10, 2) := by decide +kernel
theorem kdX5_kemKeys_272 : decode prog_8_method_51_code 272 = .ok (.aaload, 1) := by decide +kernel
theorem kdX5_kemKeys_273 : decode prog_8_method_51_code 273 = .ok (.iload_n 3, 1) := by decide +kernel
theorem kdX5_kemKeys_274 : decode prog_8_method_51_code 274 = .ok (.iaload, 1) := by decide +kernel
theorem kdX5_kemKeys_275 : decode prog_8_method_51_code 275 = .ok (.bipush 12, 2) := by decide +kernel
theorem kdX5_kemKeys_277 : decode prog_8_method_51_code 277 = .ok (.invokevirtual 257, 3) := by decide +kernel
theorem kdX5_kemKeys_280 : decode prog_8_method_51_code 280 = .ok (.iinc 3 1, 3) := by decide +kernel
theorem kdX5_kemKeys_283 : decode prog_8_method_51_code 283 = .ok (.goto (-30), 3) := by decide +kernel
theorem kdX5_kemKeys_286 : decode prog_8_method_51_code 286 = .ok (.iinc 2 1, 3) := by decide +kernel
theorem kdX5_kemKeys_289 : decode prog_8_method_51_code 289 = .ok (.goto (-152), 3) := by decide +kernel
theorem kdX5_kemKeys_292 : decode prog_8_method_51_code 292 = .ok (.aload_n 0, 1) := by decide +kernel
theorem kdX5_kemKeys_293 : decode prog_8_method_51_code 293 = .ok (.getfield 73, 3) := by decide +kernel
theorem kdX5_kemKeys_296 : decode prog_8_method_51_code 296 = .ok (.iconst 0, 1) := by decide +kernel
theorem kdX5_kemKeys_297 : decode prog_8_method_51_code 297 = .ok (.aload_n 0, 1) := by decide +kernel
theorem kdX5_kemKeys_298 : decode prog_8_method_51_code 298 = .ok (.getfield 79, 3) := by decide +kernel
theorem kdX5_kemKeys_301 : decode prog_8_method_51_code 301 = .ok (.sipush 384, 3) := by decide +kernel
theorem kdX5_kemKeys_304 : decode prog_8_method_51_code 304 = .ok (.aload_n 0, 1) := by decide +kernel
theorem kdX5_kemKeys_305 : decode prog_8_method_51_code 305 = .ok (.getfield 209, 3) := by decide +kernel
theorem kdX5_kemKeys_308 : decode prog_8_method_51_code 308 = .ok (.imul, 1) := by decide +kernel
theorem kdX5_kemKeys_309 : decode prog_8_method_51_code 309 = .ok (.bipush 32, 2) := by decide +kernel
theorem kdX5_kemKeys_311 : decode prog_8_method_51_code 311 = .ok (.invokestatic 261, 3) := by decide +kernel
theorem kdX5_kemKeys_314 : decode prog_8_method_51_code 314 = .ok (.sipush 384, 3) := by decide +kernel
theorem kdX5_kemKeys_317 : decode prog_8_method_51_code 317 = .ok (.aload_n 0, 1) := by decide +kernel
theorem kdX5_kemKeys_318 : decode prog_8_method_51_code 318 = .ok (.getfield 209, 3) := by decide +kernel
theorem kdX5_kemKeys_321 : decode prog_8_method_51_code 321 = .ok (.imul, 1) := by decide +kernel
theorem kdX5_kemKeys_322 : decode prog_8_method_51_code 322 = .ok (.bipush 32, 2) := by decide +kernel
theorem kdX5_kemKeys_324 : decode prog_8_method_51_code 324 = .ok (.iadd, 1) := by decide +kernel
theorem kdX5_kemKeys_325 : decode prog_8_method_51_code 325 = .ok (.istore_n 2, 1) := by decide +kernel
theorem kdX5_kemKeys_326 : decode prog_8_method_51_code 326 = .ok (.aload_n 0, 1) := by decide +kernel
theorem kdX5_kemKeys_327 : decode prog_8_method_51_code 327 = .ok (.getfield 79, 3) := by decide +kernel
theorem kdX5_kemKeys_330 : decode prog_8_method_51_code 330 = .ok (.iconst 0, 1) := by decide +kernel
theorem kdX5_kemKeys_331 : decode prog_8_method_51_code 331 = .ok (.aload_n 0, 1) := by decide +kernel
theorem kdX5_kemKeys_332 : decode prog_8_method_51_code 332 = .ok (.getfield 15, 3) := by decide +kernel
theorem kdX5_kemKeys_335 : decode prog_8_method_51_code 335 = .ok (.iconst 1, 1) := by decide +kernel
theorem kdX5_kemKeys_336 : decode prog_8_method_51_code 336 = .ok (.aaload, 1) := by decide +kernel
theorem kdX5_kemKeys_337 : decode prog_8_method_51_code 337 = .ok (.iconst 0, 1) := by decide +kernel
theorem kdX5_kemKeys_338 : decode prog_8_method_51_code 338 = .ok (.iload_n 2, 1) := by decide +kernel
theorem kdX5_kemKeys_339 : decode prog_8_method_51_code 339 = .ok (.invokestatic 261, 3) := by decide +kernel
theorem kdX5_kemKeys_342 : decode prog_8_method_51_code 342 = .ok (.aload_n 0, 1) := by decide +kernel
theorem kdX5_kemKeys_343 : decode prog_8_method_51_code 343 = .ok (.getfield 18, 3) := by decide +kernel
theorem kdX5_kemKeys_346 : decode prog_8_method_51_code 346 = .ok (.iconst 1, 1) := by decide +kernel
theorem kdX5_kemKeys_347 : decode prog_8_method_51_code 347 = .ok (.iload_n 2, 1) := by decide +kernel
theorem kdX5_kemKeys_348 : decode prog_8_method_51_code 348 = .ok (.iastore, 1) := by decide +kernel
theorem kdX5_kemKeys_349 : decode prog_8_method_51_code 349 = .ok (.aload_n 0, 1) := by decide +kernel
theorem kdX5_kemKeys_350 : decode prog_8_method_51_code 350 = .ok (.iconst 0, 1) := by decide +kernel
theorem kdX5_kemKeys_351 : decode prog_8_method_51_code 351 = .ok (.putfield 202, 3) := by decide +kernel
theorem kdX5_kemKeys_354 : decode prog_8_method_51_code 354 = .ok (.iconst 0, 1) := by decide +kernel
theorem kdX5_kemKeys_355 : decode prog_8_method_51_code 355 = .ok (.istore_n 3, 1) := by decide +kernel
theorem kdX5_kemKeys_356 : decode prog_8_method_51_code 356 = .ok (.iload_n 3, 1) := by decide +kernel
theorem kdX5_kemKeys_357 : decode prog_8_method_51_code 357 = .ok (.aload_n 0, 1) := by decide +kernel
theorem kdX5_kemKeys_358 : decode prog_8_method_51_code 358 = .ok (.getfield 209, 3) := by decide +kernel
theorem kdX5_kemKeys_361 : decode prog_8_method_51_code 361 = .ok (.if_icmp .ge 48, 3) := by decide +kernel
theorem kdX5_kemKeys_364 : decode prog_8_method_51_code 364 = .ok (.iconst 0, 1) := by decide +kernel
theorem kdX5_kemKeys_365 : decode prog_8_method_51_code 365 = .ok (.istore 4, 2) := by decide +kernel
theorem kdX5_kemKeys_367 : decode prog_8_method_51_code 367 = .ok (.iload 4, 2) := by decide +kernel
theorem kdX5_kemKeys_369 : decode prog_8_method_51_code 369 = .ok (.sipush 256, 3) := by decide +kernel
theorem kdX5_kemKeys_372 : decode prog_8_method_51_code 372 = .ok (.if_icmp .ge 31, 3) := by decide +kernel
theorem kdX5_kemKeys_375 : decode prog_8_method_51_code 375 = .ok (.aload_n 0, 1) := by decide +kernel
theorem kdX5_kemKeys_376 : decode prog_8_method_51_code 376 = .ok (.aload_n 0, 1) := by decide +kernel
theorem kdX5_kemKeys_377 : decode prog_8_method_51_code 377 = .ok (.getfield 15, 3) := by decide +kernel
theorem kdX5_kemKeys_380 : decode prog_8_method_51_code 380 = .ok (.iconst 2, 1) := by decide +kernel
theorem kdX5_kemKeys_381 : decode prog_8_method_51_code 381 = .ok (.aaload, 1) := by decide +kernel
theorem kdX5_kemKeys_382 : decode prog_8_method_51_code 382 = .ok (.iconst 0, 1) := by decide +kernel
theorem kdX5_kemKeys_383 : decode prog_8_method_51_code 383 = .ok (.aload_n 0, 1) := by decide +kernel
theorem kdX5_kemKeys_384 : decode prog_8_method_51_code 384 = .ok (.getfield 70, 3) := by decide +kernel
theorem kdX5_kemKeys_387 : decode prog_8_method_51_code 387 = .ok (.iload_n 3, 1) := by decide +kernel
theorem kdX5_kemKeys_388 : decode prog_8_method_51_code 388 = .ok (.aaload, 1) := by decide +kernel
theorem kdX5_kemKeys_389 : decode prog_8_method_51_code 389 = .ok (.iload 4, 2) := by decide +kernel
theorem kdX5_kemKeys_391 : decode prog_8_method_51_code 391 = .ok (.iaload, 1) := by decide +kernel
theorem kdX5_kemKeys_392 : decode prog_8_method_51_code 392 = .ok (.bipush 12, 2) := by decide +kernel
theorem kdX5_kemKeys_394 : decode prog_8_method_51_code 394 = .ok (.invokevirtual 257, 3) := by decide +kernel
theorem kdX5_kemKeys_397 : decode prog_8_method_51_code 397 = .ok (.iinc 4 1, 3) := by decide +kernel
theorem kdX5_kemKeys_400 : decode prog_8_method_51_code 400 = .ok (.goto (-33), 3) := by decide +kernel
theorem kdX5_kemKeys_403 : decode prog_8_method_51_code 403 = .ok (.iinc 3 1, 3) := by decide +kernel
theorem kdX5_kemKeys_406 : decode prog_8_method_51_code 406 = .ok (.goto (-50), 3) := by decide +kernel
theorem kdX5_kemKeys_409 : decode prog_8_method_51_code 409 = .ok (.aload_n 0, 1) := by decide +kernel
theorem kdX5_kemKeys_410 : decode prog_8_method_51_code 410 = .ok (.getfield 79, 3) := by decide +kernel
theorem kdX5_kemKeys_413 : decode prog_8_method_51_code 413 = .ok (.iconst 0, 1) := by decide +kernel
theorem kdX5_kemKeys_414 : decode prog_8_method_51_code 414 = .ok (.aload_n 0, 1) := by decide +kernel
theorem kdX5_kemKeys_415 : decode prog_8_method_51_code 415 = .ok (.getfield 15, 3) := by decide +kernel
theorem kdX5_kemKeys_418 : decode prog_8_method_51_code 418 = .ok (.iconst 2, 1) := by decide +kernel
theorem kdX5_kemKeys_419 : decode prog_8_method_51_code 419 = .ok (.aaload, 1) := by decide +kernel
theorem kdX5_kemKeys_420 : decode prog_8_method_51_code 420 = .ok (.sipush 384, 3) := by decide +kernel
theorem kdX5_kemKeys_423 : decode prog_8_method_51_code 423 = .ok (.aload_n 0, 1) := by decide +kernel
theorem kdX5_kemKeys_424 : decode prog_8_method_51_code 424 = .ok (.getfield 209, 3) := by decide +kernel
theorem kdX5_kemKeys_427 : decode prog_8_method_51_code 427 = .ok (.imul, 1) := by decide +kernel
theorem kdX5_kemKeys_428 : decode prog_8_method_51_code 428 = .ok (.iload_n 2, 1) := by decide +kernel
theorem kdX5_kemKeys_429 : decode prog_8_method_51_code 429 = .ok (.invokestatic 261, 3) := by decide +kernel
theorem kdX5_kemKeys_432 : decode prog_8_method_51_code 432 = .ok (.aload_n 0, 1) := by decide +kernel
theorem kdX5_kemKeys_433 : decode prog_8_method_51_code 433 = .ok (.bipush 8, 2) := by decide +kernel
theorem kdX5_kemKeys_435 : decode prog_8_method_51_code 435 = .ok (.invokevirtual 134, 3) := by decide +kernel
theorem kdX5_kemKeys_438 : decode prog_8_method_51_code 438 = .ok (.aload_n 0, 1) := by decide +kernel
theorem kdX5_kemKeys_439 : decode prog_8_method_51_code 439 = .ok (.aload_n 0, 1) := by decide +kernel
theorem kdX5_kemKeys_440 : decode prog_8_method_51_code 440 = .ok (.getfield 79, 3) := by decide +kernel
theorem kdX5_kemKeys_443 : decode prog_8_method_51_code 443 = .ok (.iconst 0, 1) := by decide +kernel
theorem kdX5_kemKeys_444 : decode prog_8_method_51_code 444 = .ok (.iload_n 2, 1) := by decide +kernel
theorem kdX5_kemKeys_445 : decode prog_8_method_51_code 445 = .ok (.invokevirtual 228, 3) := by decide +kernel
theorem kdX5_kemKeys_448 : decode prog_8_method_51_code 448 = .ok (.aload_n 0, 1) := by decide +kernel
theorem kdX5_kemKeys_449 : decode prog_8_method_51_code 449 = .ok (.aload_n 0, 1) := by decide +kernel
theorem kdX5_kemKeys_450 : decode prog_8_method_51_code 450 = .ok (.getfield 15, 3) := by decide +kernel
theorem kdX5_kemKeys_453 : decode prog_8_method_51_code 453 = .ok (.iconst 2, 1) := by decide +kernel
theorem kdX5_kemKeys_454 : decode prog_8_method_51_code 454 = .ok (.aaload, 1) := by decide +kernel
theorem kdX5_kemKeys_455 : decode prog_8_method_51_code 455 = .ok (.sipush 384, 3) := by decide +kernel
theorem kdX5_kemKeys_458 : decode prog_8_method_51_code 458 = .ok (.aload_n 0, 1) := by decide +kernel
theorem kdX5_kemKeys_459 : decode prog_8_method_51_code 459 = .ok (.getfield 209, 3) := by decide +kernel
theorem kdX5_kemKeys_462 : decode prog_8_method_51_code 462 = .ok (.imul, 1) := by decide +kernel
theorem kdX5_kemKeys_463 : decode prog_8_method_51_code 463 = .ok (.iload_n 2, 1) := by decide +kernel
theorem kdX5_kemKeys_464 : decode prog_8_method_51_code 464 = .ok (.iadd, 1) := by decide +kernel
theorem kdX5_kemKeys_465 : decode prog_8_method_51_code 465 = .ok (.bipush 32, 2) := by decide +kernel
theorem kdX5_kemKeys_467 : decode prog_8_method_51_code 467 = .ok (.invokevirtual 231, 3) := by decide +kernel
theorem kdX5_kemKeys_470 : decode prog_8_method_51_code 470 = .ok (.aload_n 0, 1) := by decide +kernel
theorem kdX5_kemKeys_471 : decode prog_8_method_51_code 471 = .ok (.getfield 15, 3) := by decide +kernel
theorem kdX5_kemKeys_474 : decode prog_8_method_51_code 474 = .ok (.iconst 0, 1) := by decide +kernel
theorem kdX5_kemKeys_475 : decode prog_8_method_51_code 475 = .ok (.aaload, 1) := by decide +kernel
theorem kdX5_kemKeys_476 : decode prog_8_method_51_code 476 = .ok (.bipush 32, 2) := by decide +kernel
theorem kdX5_kemKeys_478 : decode prog_8_method_51_code 478 = .ok (.aload_n 0, 1) := by decide +kernel
theorem kdX5_kemKeys_479 : decode prog_8_method_51_code 479 = .ok (.getfield 15, 3) := by decide +kernel
theorem kdX5_kemKeys_482 : decode prog_8_method_51_code 482 = .ok (.iconst 2, 1) := by decide +kernel
theorem kdX5_kemKeys_483 : decode prog_8_method_51_code 483 = .ok (.aaload, 1) := by decide +kernel
theorem kdX5_kemKeys_484 : decode prog_8_method_51_code 484 = .ok (.sipush 384, 3) := by decide +kernel
theorem kdX5_kemKeys_487 : decode prog_8_method_51_code 487 = .ok (.aload_n 0, 1) := by decide +kernel
theorem kdX5_kemKeys_488 : decode prog_8_method_51_code 488 = .ok (.getfield 209, 3) := by decide +kernel
theorem kdX5_kemKeys_491 : decode prog_8_method_51_code 491 = .ok (.imul, 1) := by decide +kernel
theorem kdX5_kemKeys_492 : decode prog_8_method_51_code 492 = .ok (.iload_n 2, 1) := by decide +kernel
theorem kdX5_kemKeys_493 : decode prog_8_method_51_code 493 = .ok (.iadd, 1) := by decide +kernel
theorem kdX5_kemKeys_494 : decode prog_8_method_51_code 494 = .ok (.bipush 32, 2) := by decide +kernel
theorem kdX5_kemKeys_496 : decode prog_8_method_51_code 496 = .ok (.iadd, 1) := by decide +kernel
theorem kdX5_kemKeys_497 : decode prog_8_method_51_code 497 = .ok (.bipush 32, 2) := by decide +kernel
theorem kdX5_kemKeys_499 : decode prog_8_method_51_code 499 = .ok (.invokestatic 261, 3) := by decide +kernel
theorem kdX5_kemKeys_502 : decode prog_8_method_51_code 502 = .ok (.aload_n 0, 1) := by decide +kernel
theorem kdX5_kemKeys_503 : decode prog_8_method_51_code 503 = .ok (.getfield 18, 3) := by decide +kernel
theorem kdX5_kemKeys_506 : decode prog_8_method_51_code 506 = .ok (.iconst 2, 1) := by decide +kernel
theorem kdX5_kemKeys_507 : decode prog_8_method_51_code 507 = .ok (.sipush 768, 3) := by decide +kernel
theorem kdX5_kemKeys_510 : decode prog_8_method_51_code 510 = .ok (.aload_n 0, 1) := by decide +kernel
theorem kdX5_kemKeys_511 : decode prog_8_method_51_code 511 = .ok (.getfield 209, 3) := by decide +kernel
theorem kdX5_kemKeys_514 : decode prog_8_method_51_code 514 = .ok (.imul, 1) := by decide +kernel
theorem kdX5_kemKeys_515 : decode prog_8_method_51_code 515 = .ok (.bipush 96, 2) := by decide +kernel
theorem kdX5_kemKeys_517 : decode prog_8_method_51_code 517 = .ok (.iadd, 1) := by decide +kernel
theorem kdX5_kemKeys_518 : decode prog_8_method_51_code 518 = .ok (.iastore, 1) := by decide +kernel
theorem kdX5_kemKeys_519 : decode prog_8_method_51_code 519 = .ok (.aload_n 0, 1) := by decide +kernel
theorem kdX5_kemKeys_520 : decode prog_8_method_51_code 520 = .ok (.getfield 18, 3) := by decide +kernel
theorem kdX5_kemKeys_523 : decode prog_8_method_51_code 523 = .ok (.iconst 2, 1) := by decide +kernel
theorem kdX5_kemKeys_524 : decode prog_8_method_51_code 524 = .ok (.iaload, 1) := by decide +kernel
theorem kdX5_kemKeys_525 : decode prog_8_method_51_code 525 = .ok (.ireturn, 1) := by decide +kernel
theorem kdX5_encrypt_0 : decode prog_8_method_52_code 0 = .ok (.iconst 0, 1) := by decide +kernel
theorem kdX5_encrypt_1 : decode prog_8_method_52_code 1 = .ok (.istore 6, 2) := by decide +kernel
theorem kdX5_encrypt_3 : decode prog_8_method_52_code 3 = .ok (.iload 6, 2) := by decide +kernel
theorem kdX5_encrypt_5 : decode prog_8_method_52_code 5 = .ok (.aload_n 0, 1) := by decide +kernel
theorem kdX5_encrypt_6 : decode prog_8_method_52_code 6 = .ok (.getfield 209, 3) := by decide +kernel
theorem kdX5_encrypt_9 : decode prog_8_method_52_code 9 = .ok (.if_icmp .ge 41, 3) := by decide +kernel
theorem kdX5_encrypt_12 : decode prog_8_method_52_code 12 = .ok (.aload_n 0, 1) := by decide +kernel
theorem kdX5_encrypt_13 : decode prog_8_method_52_code 13 = .ok (.aload_n 0, 1) := by decide +kernel
theorem kdX5_encrypt_14 : decode prog_8_method_52_code 14 = .ok (.getfield 70, 3) := by decide +kernel
theorem kdX5_encrypt_17 : decode prog_8_method_52_code 17 = .ok (.iload 6, 2) := by decide +kernel
theorem kdX5_encrypt_19 : decode prog_8_method_52_code 19 = .ok (.aaload, 1) := by decide +kernel
theorem kdX5_encrypt_20 : decode prog_8_method_52_code 20 = .ok (.aload_n 0, 1) := by decide +kernel
theorem kdX5_encrypt_21 : decode prog_8_method_52_code 21 = .ok (.getfield 212, 3) := by decide +kernel
theorem kdX5_encrypt_24 : decode prog_8_method_52_code 24 = .ok (.aload 4, 2) := by decide +kernel
theorem kdX5_encrypt_26 : decode prog_8_method_52_code 26 = .ok (.iload 5, 2) := by decide +kernel
theorem kdX5_encrypt_28 : decode prog_8_method_52_code 28 = .ok (.iload 6, 2) := by decide +kernel
theorem kdX5_encrypt_30 : decode prog_8_method_52_code 30 = .ok (.invokevirtual 241, 3) := by decide +kernel
theorem kdX5_encrypt_33 : decode prog_8_method_52_code 33 = .ok (.aload_n 0, 1) := by decide +kernel
theorem kdX5_encrypt_34 : decode prog_8_method_52_code 34 = .ok (.aload_n 0, 1) := by decide +kernel
theorem kdX5_encrypt_35 : decode prog_8_method_52_code 35 = .ok (.getfield 70, 3) := by decide +kernel
theorem kdX5_encrypt_38 : decode prog_8_method_52_code 38 = .ok (.iload 6, 2) := by decide +kernel
theorem kdX5_encrypt_40 : decode prog_8_method_52_code 40 = .ok (.aaload, 1) := by decide +kernel
theorem kdX5_encrypt_41 : decode prog_8_method_52_code 41 = .ok (.invokevirtual 245, 3) := by decide +kernel
theorem kdX5_encrypt_44 : decode prog_8_method_52_code 44 = .ok (.iinc 6 1, 3) := by decide +kernel
theorem kdX5_encrypt_47 : decode prog_8_method_52_code 47 = .ok (.goto (-44), 3) := by decide +kernel
theorem kdX5_encrypt_50 : decode prog_8_method_52_code 50 = .ok (.aload_n 0, 1) := by decide +kernel
theorem kdX5_encrypt_51 : decode prog_8_method_52_code 51 = .ok (.iconst 0, 1) := by decide +kernel
theorem kdX5_encrypt_52 : decode prog_8_method_52_code 52 = .ok (.putfield 202, 3) := by decide +kernel
theorem kdX5_encrypt_55 : decode prog_8_method_52_code 55 = .ok (.iconst 0, 1) := by decide +kernel
theorem kdX5_encrypt_56 : decode prog_8_method_52_code 56 = .ok (.istore 6, 2) := by decide +kernel
theorem kdX5_encrypt_58 : decode prog_8_method_52_code 58 = .ok (.iconst 0, 1) := by decide +kernel
theorem kdX5_encrypt_59 : decode prog_8_method_52_code 59 = .ok (.istore 7, 2) := by decide +kernel
theorem kdX5_encrypt_61 : decode prog_8_method_52_code 61 = .ok (.iload 7, 2) := by decide +kernel
theorem kdX5_encrypt_63 : decode prog_8_method_52_code 63 = .ok (.aload_n 0, 1) := by decide +kernel
theorem kdX5_encrypt_64 : decode prog_8_method_52_code 64 = .ok (.getfield 209, 3) := by decide +kernel
theorem kdX5_encrypt_67 : decode prog_8_method_52_code 67 = .ok (.if_icmp .ge 210, 3) := by decide +kernel
theorem kdX5_encrypt_70 : decode prog_8_method_52_code 70 = .ok (.aload_n 0, 1) := by decide +kernel
theorem kdX5_encrypt_71 : decode prog_8_method_52_code 71 = .ok (.getfield 70, 3) := by decide +kernel
theorem kdX5_encrypt_74 : decode prog_8_method_52_code 74 = .ok (.bipush 10, 2) := by decide +kernel
theorem kdX5_encrypt_76 : decode prog_8_method_52_code 76 = .ok (.aaload, 1) := by decide +kernel
theorem kdX5_encrypt_77 : decode prog_8_method_52_code 77 = .ok (.invokestatic 265, 3) := by decide +kernel
theorem kdX5_encrypt_80 : decode prog_8_method_52_code 80 = .ok (.iconst 0, 1) := by decide +kernel
theorem kdX5_encrypt_81 : decode prog_8_method_52_code 81 = .ok (.istore 8, 2) := by decide +kernel
theorem kdX5_encrypt_83 : decode prog_8_method_52_code 83 = .ok (.iload 8, 2) := by decide +kernel
theorem kdX5_encrypt_85 : decode prog_8_method_52_code 85 = .ok (.aload_n 0, 1) := by decide +kernel
theorem kdX5_encrypt_86 : decode prog_8_method_52_code 86 = .ok (.getfield 209, 3) := by decide +kernel
theorem kdX5_encrypt_89 : decode prog_8_method_52_code 89 = .ok (.if_icmp .ge 65, 3) := by decide +kernel
theorem kdX5_encrypt_92 : decode prog_8_method_52_code 92 = .ok (.aload_n 0, 1) := by decide +kernel
theorem kdX5_encrypt_93 : decode prog_8_method_52_code 93 = .ok (.aload_n 0, 1) := by decide +kernel
theorem kdX5_encrypt_94 : decode prog_8_method_52_code 94 = .ok (.getfield 70, 3) := by decide +kernel
theorem kdX5_encrypt_97 : decode prog_8_method_52_code 97 = .ok (.bipush 11, 2) := by decide +kernel
theorem kdX5_encrypt_99 : decode prog_8_method_52_code 99 = .ok (.aaload, 1) := by decide +kernel
theorem kdX5_encrypt_100 : decode prog_8_method_52_code 100 = .ok (.aload_n 1, 1) := by decide +kernel
theorem kdX5_encrypt_101 : decode prog_8_method_52_code 101 = .ok (.iload_n 2, 1) := by decide +kernel
theorem kdX5_encrypt_102 : decode prog_8_method_52_code 102 = .ok (.sipush 384, 3) := by decide +kernel
theorem kdX5_encrypt_105 : decode prog_8_method_52_code 105 = .ok (.aload_n 0, 1) := by decide +kernel
theorem kdX5_encrypt_106 : decode prog_8_method_52_code 106 = .ok (.getfield 209, 3) := by decide +kernel
theorem kdX5_encrypt_109 : decode prog_8_method_52_code 109 = .ok (.imul, 1) := by decide +kernel
theorem kdX5_encrypt_110 : decode prog_8_method_52_code 110 = .ok (.iadd, 1) := by decide +kernel
theorem kdX5_encrypt_111 : decode prog_8_method_52_code 111 = .ok (.iload 7, 2) := by decide +kernel
theorem kdX5_encrypt_113 : decode prog_8_method_52_code 113 = .ok (.iload 8, 2) := by decide +kernel
theorem kdX5_encrypt_115 : decode prog_8_method_52_code 115 = .ok (.invokevirtual 249, 3) := by decide +kernel
theorem kdX5_encrypt_118 : decode prog_8_method_52_code 118 = .ok (.ifCond .ne 5, 3) := by decide +kernel
theorem kdX5_encrypt_121 : decode prog_8_method_52_code 121 = .ok (.iconst 0, 1) := by decide +kernel
theorem kdX5_encrypt_122 : decode prog_8_method_52_code 122 = .ok (.ireturn, 1) := by decide +kernel
theorem kdX5_encrypt_123 : decode prog_8_method_52_code 123 = .ok (.aload_n 0, 1) := by decide +kernel
theorem kdX5_encrypt_124 : decode prog_8_method_52_code 124 = .ok (.aload_n 0, 1) := by decide +kernel
theorem kdX5_encrypt_125 : decode prog_8_method_52_code 125 = .ok (.getfield 70, 3) := by decide +kernel
theorem kdX5_encrypt_128 : decode prog_8_method_52_code 128 = .ok (.bipush 10, 2) := by decide +kernel
theorem kdX5_encrypt_130 : decode prog_8_method_52_code 130 = .ok (.aaload, 1) := by decide +kernel
theorem kdX5_encrypt_131 : decode prog_8_method_52_code 131 = .ok (.aload_n 0, 1) := by decide +kernel
theorem kdX5_encrypt_132 : decode prog_8_method_52_code 132 = .ok (.getfield 70, 3) := by decide +kernel
theorem kdX5_encrypt_135 : decode prog_8_method_52_code 135 = .ok (.bipush 11, 2) := by decide +kernel
theorem kdX5_encrypt_137 : decode prog_8_method_52_code 137 = .ok (.aaload, 1) := by decide +kernel
theorem kdX5_encrypt_138 : decode prog_8_method_52_code 138 = .ok (.aload_n 0, 1) := by decide +kernel
theorem kdX5_encrypt_139 : decode prog_8_method_52_code 139 = .ok (.getfield 70, 3) := by decide +kernel
theorem kdX5_encrypt_142 : decode prog_8_method_52_code 142 = .ok (.iload 8, 2) := by decide +kernel
theorem kdX5_encrypt_144 : decode prog_8_method_52_code 144 = .ok (.aaload, 1) := by decide +kernel
theorem kdX5_encrypt_145 : decode prog_8_method_52_code 145 = .ok (.invokevirtual 253, 3) := by decide +kernel
theorem kdX5_encrypt_148 : decode prog_8_method_52_code 148 = .ok (.iinc 8 1, 3) := by decide +kernel
theorem kdX5_encrypt_151 : decode prog_8_method_52_code 151 = .ok (.goto (-68), 3) := by decide +kernel
theorem kdX5_encrypt_154 : decode prog_8_method_52_code 154 = .ok (.aload_n 0, 1) := by decide +kernel
theorem kdX5_encrypt_155 : decode prog_8_method_52_code 155 = .ok (.aload_n 0, 1) := by decide +kernel
theorem kdX5_encrypt_156 : decode prog_8_method_52_code 156 = .ok (.getfield 70, 3) := by decide +kernel
theorem kdX5_encrypt_159 : decode prog_8_method_52_code 159 = .ok (.bipush 10, 2) := by decide +kernel
theorem kdX5_encrypt_161 : decode prog_8_method_52_code 161 = .ok (.aaload, 1) := by decide +kernel
theorem kdX5_encrypt_162 : decode prog_8_method_52_code 162 = .ok (.invokevirtual 268, 3) := by decide +kernel
theorem kdX5_encrypt_165 : decode prog_8_method_52_code 165 = .ok (.aload_n 0, 1) := by decide +kernel
theorem kdX5_encrypt_166 : decode prog_8_method_52_code 166 = .ok (.aload_n 0, 1) := by decide +kernel
theorem kdX5_encrypt_167 : decode prog_8_method_52_code 167 = .ok (.getfield 70, 3) := by decide +kernel
theorem kdX5_encrypt_170 : decode prog_8_method_52_code 170 = .ok (.bipush 12, 2) := by decide +kernel
theorem kdX5_encrypt_172 : decode prog_8_method_52_code 172 = .ok (.aaload, 1) := by decide +kernel
theorem kdX5_encrypt_173 : decode prog_8_method_52_code 173 = .ok (.iconst 2, 1) := by decide +kernel
theorem kdX5_encrypt_174 : decode prog_8_method_52_code 174 = .ok (.aload 4, 2) := by decide +kernel
theorem kdX5_encrypt_176 : decode prog_8_method_52_code 176 = .ok (.iload 5, 2) := by decide +kernel
theorem kdX5_encrypt_178 : decode prog_8_method_52_code 178 = .ok (.aload_n 0, 1) := by decide +kernel
theorem kdX5_encrypt_179 : decode prog_8_method_52_code 179 = .ok (.getfield 209, 3) := by decide +kernel
theorem kdX5_encrypt_182 : decode prog_8_method_52_code 182 = .ok (.iload 7, 2) := by decide +kernel
theorem kdX5_encrypt_184 : decode prog_8_method_52_code 184 = .ok (.iadd, 1) := by decide +kernel
theorem kdX5_encrypt_185 : decode prog_8_method_52_code 185 = .ok (.invokevirtual 241, 3) := by decide +kernel
theorem kdX5_encrypt_188 : decode prog_8_method_52_code 188 = .ok (.aload_n 0, 1) := by decide +kernel
theorem kdX5_encrypt_189 : decode prog_8_method_52_code 189 = .ok (.sipush 256, 3) := by decide +kernel
theorem kdX5_encrypt_192 : decode prog_8_method_52_code 192 = .ok (.aload_n 0, 1) := by decide +kernel
theorem kdX5_encrypt_193 : decode prog_8_method_52_code 193 = .ok (.getfield 215, 3) := by decide +kernel
theorem kdX5_encrypt_196 : decode prog_8_method_52_code 196 = .ok (.imul, 1) := by decide +kernel
theorem kdX5_encrypt_197 : decode prog_8_method_52_code 197 = .ok (.iload 7, 2) := by decide +kernel
theorem kdX5_encrypt_199 : decode prog_8_method_52_code 199 = .ok (.imul, 1) := by decide +kernel
theorem kdX5_encrypt_200 : decode prog_8_method_52_code 200 = .ok (.putfield 202, 3) := by decide +kernel
theorem kdX5_encrypt_203 : decode prog_8_method_52_code 203 = .ok (.iconst 0, 1) := by decide +kernel
theorem kdX5_encrypt_204 : decode prog_8_method_52_code 204 = .ok (.istore 8, 2) := by decide +kernel
theorem kdX5_encrypt_206 : decode prog_8_method_52_code 206 = .ok (.iload 8, 2) := by decide +kernel
theorem kdX5_encrypt_208 : decode prog_8_method_52_code 208 = .ok (.sipush 256, 3) := by decide +kernel
theorem kdX5_encrypt_211 : decode prog_8_method_52_code 211 = .ok (.if_icmp .ge 54, 3) := by decide +kernel
theorem kdX5_encrypt_214 : decode prog_8_method_52_code 214 = .ok (.aload_n 0, 1) := by decide +kernel
theorem kdX5_encrypt_215 : decode prog_8_method_52_code 215 = .ok (.aload_n 0, 1) := by decide +kernel
theorem kdX5_encrypt_216 : decode prog_8_method_52_code 216 = .ok (.getfield 82, 3) := by decide +kernel
theorem kdX5_encrypt_219 : decode prog_8_method_52_code 219 = .ok (.iconst 0, 1) := by decide +kernel
theorem kdX5_encrypt_220 : decode prog_8_method_52_code 220 = .ok (.aload_n 0, 1) := by decide +kernel
theorem kdX5_encrypt_221 : decode prog_8_method_52_code 221 = .ok (.getfield 70, 3) := by decide +kernel
theorem kdX5_encrypt_224 : decode prog_8_method_52_code 224 = .ok (.bipush 10, 2) := by decide +kernel
theorem kdX5_encrypt_226 : decode prog_8_method_52_code 226 = .ok (.aaload, 1) := by decide +kernel
theorem kdX5_encrypt_227 : decode prog_8_method_52_code 227 = .ok (.iload 8, 2) := by decide +kernel
theorem kdX5_encrypt_229 : decode prog_8_method_52_code 229 = .ok (.iaload, 1) := by decide +kernel
theorem kdX5_encrypt_230 : decode prog_8_method_52_code 230 = .ok (.aload_n 0, 1) := by decide +kernel
theorem kdX5_encrypt_231 : decode prog_8_method_52_code 231 = .ok (.getfield 70, 3) := by decide +kernel
theorem kdX5_encrypt_234 : decode prog_8_method_52_code 234 = .ok (.bipush 12, 2) := by decide +kernel
theorem kdX5_encrypt_236 : decode prog_8_method_52_code 236 = .ok (.aaload, 1) := by decide +kernel
theorem kdX5_encrypt_237 : decode prog_8_method_52_code 237 = .ok (.iload 8, 2) := by decide +kernel
theorem kdX5_encrypt_239 : decode prog_8_method_52_code 239 = .ok (.iaload, 1) := by decide +kernel
theorem kdX5_encrypt_240 : decode prog_8_method_52_code 240 = .ok (.iadd, 1) := by decide +kernel
theorem kdX5_encrypt_241 : decode prog_8_method_52_code 241 = .ok (.sipush 3329, 3) := by decide +kernel
theorem kdX5_encrypt_244 : decode prog_8_method_52_code 244 = .ok (.irem, 1) := by decide +kernel
theorem kdX5_encrypt_245 : decode prog_8_method_52_code 245 = .ok (.aload_n 0, 1) := by decide +kernel
theorem kdX5_encrypt_246 : decode prog_8_method_52_code 246 = .ok (.getfield 215, 3) := by decide +kernel
theorem kdX5_encrypt_249 : decode prog_8_method_52_code 249 = .ok (.invokestatic 271, 3) := by decide +kernel
theorem kdX5_encrypt_252 : decode prog_8_method_52_code 252 = .ok (.aload_n 0, 1) := by decide +kernel
theorem kdX5_encrypt_253 : decode prog_8_method_52_code 253 = .ok (.getfield 215, 3) := by decide +kernel
theorem kdX5_encrypt_256 : decode prog_8_method_52_code 256 = .ok (.invokevirtual 257, 3) := by decide +kernel
theorem kdX5_encrypt_259 : decode prog_8_method_52_code 259 = .ok (.iinc 8 1, 3) := by decide +kernel
theorem kdX5_encrypt_262 : decode prog_8_method_52_code 262 = .ok (.goto (-56), 3) := by decide +kernel
theorem kdX5_encrypt_265 : decode prog_8_method_52_code 265 = .ok (.aload_n 0, 1) := by decide +kernel
theorem kdX5_encrypt_266 : decode prog_8_method_52_code 266 = .ok (.getfield 202, 3) := by decide +kernel
theorem kdX5_encrypt_269 : decode prog_8_method_52_code 269 = .ok (.istore 6, 2) := by decide +kernel
theorem kdX5_encrypt_271 : decode prog_8_method_52_code 271 = .ok (.iinc 7 1, 3) := by decide +kernel
theorem kdX5_encrypt_274 : decode prog_8_method_52_code 274 = .ok (.goto (-213), 3) := by decide +kernel
theorem kdX5_encrypt_277 : decode prog_8_method_52_code 277 = .ok (.aload_n 0, 1) := by decide +kernel
theorem kdX5_encrypt_278 : decode prog_8_method_52_code 278 = .ok (.getfield 70, 3) := by decide +kernel
theorem kdX5_encrypt_281 : decode prog_8_method_52_code 281 = .ok (.bipush 10, 2) := by decide +kernel
theorem kdX5_encrypt_283 : decode prog_8_method_52_code 283 = .ok (.aaload, 1) := by decide +kernel
theorem kdX5_encrypt_284 : decode prog_8_method_52_code 284 = .ok (.invokestatic 265, 3) := by decide +kernel
theorem kdX5_encrypt_287 : decode prog_8_method_52_code 287 = .ok (.iconst 0, 1) := by decide +kernel
theorem kdX5_encrypt_288 : decode prog_8_method_52_code 288 = .ok (.istore 7, 2) := by decide +kernel
theorem kdX5_encrypt_290 : decode prog_8_method_52_code 290 = .ok (.iload 7, 2) := by decide +kernel
theorem kdX5_encrypt_292 : decode prog_8_method_52_code 292 = .ok (.aload_n 0, 1) := by decide +kernel
theorem kdX5_encrypt_293 : decode prog_8_method_52_code 293 = .ok (.getfield 209, 3) := by decide +kernel
theorem kdX5_encrypt_296 : decode prog_8_method_52_code 296 = .ok (.if_icmp .ge 83, 3) := by decide +kernel
theorem kdX5_encrypt_299 : decode prog_8_method_52_code 299 = .ok (.aload_n 0, 1) := by decide +kernel
theorem kdX5_encrypt_300 : decode prog_8_method_52_code 300 = .ok (.sipush 3072, 3) := by decide +kernel
theorem kdX5_encrypt_303 : decode prog_8_method_52_code 303 = .ok (.iload 7, 2) := by decide +kernel
theorem kdX5_encrypt_305 : decode prog_8_method_52_code 305 = .ok (.imul, 1) := by decide +kernel
theorem kdX5_encrypt_306 : decode prog_8_method_52_code 306 = .ok (.putfield 202, 3) := by decide +kernel
theorem kdX5_encrypt_309 : decode prog_8_method_52_code 309 = .ok (.iconst 0, 1) := by decide +kernel
theorem kdX5_encrypt_310 : decode prog_8_method_52_code 310 = .ok (.istore 8, 2) := by decide +kernel
theorem kdX5_encrypt_312 : decode prog_8_method_52_code 312 = .ok (.iload 8, 2) := by decide +kernel
theorem kdX5_encrypt_314 : decode prog_8_method_52_code 314 = .ok (.sipush 256, 3) := by decide +kernel
theorem kdX5_encrypt_317 : decode prog_8_method_52_code 317 = .ok (.if_icmp .ge 31, 3) := by decide +kernel
theorem kdX5_encrypt_320 : decode prog_8_method_52_code 320 = .ok (.aload_n 0, 1) := by decide +kernel
theorem kdX5_encrypt_321 : decode prog_8_method_52_code 321 = .ok (.getfield 70, 3) := by decide +kernel
theorem kdX5_encrypt_324 : decode prog_8_method_52_code 324 = .ok (.bipush 11, 2) := by decide +kernel
theorem kdX5_encrypt_326 : decode prog_8_method_52_code 326 = .ok (.aaload, 1) := by decide +kernel
theorem kdX5_encrypt_327 : decode prog_8_method_52_code 327 = .ok (.iload 8, 2) := by decide +kernel
theorem kdX5_encrypt_329 : decode prog_8_method_52_code 329 = .ok (.aload_n 0, 1) := by decide +kernel
theorem kdX5_encrypt_330 : decode prog_8_method_52_code 330 = .ok (.aload_n 1, 1) := by decide +kernel
theorem kdX5_encrypt_331 : decode prog_8_method_52_code 331 = .ok (.iload_n 2, 1) := by decide +kernel
theorem kdX5_encrypt_332 : decode prog_8_method_52_code 332 = .ok (.bipush 12, 2) := by decide +kernel
theorem kdX5_encrypt_334 : decode prog_8_method_52_code 334 = .ok (.invokevirtual 274, 3) := by decide +kernel
theorem kdX5_encrypt_337 : decode prog_8_method_52_code 337 = .ok (.sipush 3329, 3) := by decide +kernel
theorem kdX5_encrypt_340 : decode prog_8_method_52_code 340 = .ok (.irem, 1) := by decide +kernel
theorem kdX5_encrypt_341 : decode prog_8_method_52_code 341 = .ok (.iastore, 1) := by decide +kernel
theorem kdX5_encrypt_342 : decode prog_8_method_52_code 342 = .ok (.iinc 8 1, 3) := by decide +kernel
theorem kdX5_encrypt_345 : decode prog_8_method_52_code 345 = .ok (.goto (-33), 3) := by decide +kernel
theorem kdX5_encrypt_348 : decode prog_8_method_52_code 348 = .ok (.aload_n 0, 1) := by decide +kernel
theorem kdX5_encrypt_349 : decode prog_8_method_52_code 349 = .ok (.aload_n 0, 1) := by decide +kernel
theorem kdX5_encrypt_350 : decode prog_8_method_52_code 350 = .ok (.getfield 70, 3) := by decide +kernel
theorem kdX5_encrypt_353 : decode prog_8_method_52_code 353 = .ok (.bipush 10, 2) := by decide +kernel
theorem kdX5_encrypt_355 : decode prog_8_method_52_code 355 = .ok (.aaload, 1) := by decide +kernel
theorem kdX5_encrypt_356 : decode prog_8_method_52_code 356 = .ok (.aload_n 0, 1) := by decide +kernel
theorem kdX5_encrypt_357 : decode prog_8_method_52_code 357 = .ok (.getfield 70, 3) := by decide +kernel
theorem kdX5_encrypt_360 : decode prog_8_method_52_code 360 = .ok (.bipush 11, 2) := by decide +kernel
theorem kdX5_encrypt_362 : decode prog_8_method_52_code 362 = .ok (.aaload, 1) := by decide +kernel
theorem kdX5_encrypt_363 : decode prog_8_method_52_code 363 = .ok (.aload_n 0, 1) := by decide +kernel
theorem kdX5_encrypt_364 : decode prog_8_method_52_code 364 = .ok (.getfield 70, 3) := by decide +kernel
theorem kdX5_encrypt_367 : decode prog_8_method_52_code 367 = .ok (.iload 7, 2) := by decide +kernel
theorem kdX5_encrypt_369 : decode prog_8_method_52_code 369 = .ok (.aaload, 1) := by decide +kernel
theorem kdX5_encrypt_370 : decode prog_8_method_52_code 370 = .ok (.invokevirtual 253, 3) := by decide +kernel
theorem kdX5_encrypt_373 : decode prog_8_method_52_code 373 = .ok (.iinc 7 1, 3) := by decide +kernel
theorem kdX5_encrypt_376 : decode prog_8_method_52_code 376 = .ok (.goto (-86), 3) := by decide +kernel
theorem kdX5_encrypt_379 : decode prog_8_method_52_code 379 = .ok (.aload_n 0, 1) := by decide +kernel
theorem kdX5_encrypt_380 : decode prog_8_method_52_code 380 = .ok (.aload_n 0, 1) := by decide +kernel
theorem kdX5_encrypt_381 : decode prog_8_method_52_code 381 = .ok (.getfield 70, 3) := by decide +kernel
theorem kdX5_encrypt_384 : decode prog_8_method_52_code 384 = .ok (.bipush 10, 2) := by decide +kernel
theorem kdX5_encrypt_386 : decode prog_8_method_52_code 386 = .ok (.aaload, 1) := by decide +kernel
theorem kdX5_encrypt_387 : decode prog_8_method_52_code 387 = .ok (.invokevirtual 268, 3) := by decide +kernel
theorem kdX5_encrypt_390 : decode prog_8_method_52_code 390 = .ok (.aload_n 0, 1) := by decide +kernel
theorem kdX5_encrypt_391 : decode prog_8_method_52_code 391 = .ok (.aload_n 0, 1) := by decide +kernel
theorem kdX5_encrypt_392 : decode prog_8_method_52_code 392 = .ok (.getfield 70, 3) := by decide +kernel
theorem kdX5_encrypt_395 : decode prog_8_method_52_code 395 = .ok (.bipush 12, 2) := by decide +kernel
theorem kdX5_encrypt_397 : decode prog_8_method_52_code 397 = .ok (.aaload, 1) := by decide +kernel
theorem kdX5_encrypt_398 : decode prog_8_method_52_code 398 = .ok (.iconst 2, 1) := by decide +kernel
theorem kdX5_encrypt_399 : decode prog_8_method_52_code 399 = .ok (.aload 4, 2) := by decide +kernel
theorem kdX5_encrypt_401 : decode prog_8_method_52_code 401 = .ok (.iload 5, 2) := by decide +kernel
theorem kdX5_encrypt_403 : decode prog_8_method_52_code 403 = .ok (.iconst 2, 1) := by decide +kernel
theorem kdX5_encrypt_404 : decode prog_8_method_52_code 404 = .ok (.aload_n 0, 1) := by decide +kernel
theorem kdX5_encrypt_405 : decode prog_8_method_52_code 405 = .ok (.getfield 209, 3) := by decide +kernel
theorem kdX5_encrypt_408 : decode prog_8_method_52_code 408 = .ok (.imul, 1) := by decide +kernel
theorem kdX5_encrypt_409 : decode prog_8_method_52_code 409 = .ok (.invokevirtual 241, 3) := by decide +kernel
theorem kdX5_encrypt_412 : decode prog_8_method_52_code 412 = .ok (.aload_n 0, 1) := by decide +kernel
theorem kdX5_encrypt_413 : decode prog_8_method_52_code 413 = .ok (.iload 6, 2) := by decide +kernel
theorem kdX5_encrypt_415 : decode prog_8_method_52_code 415 = .ok (.putfield 202, 3) := by decide +kernel
theorem kdX5_encrypt_418 : decode prog_8_method_52_code 418 = .ok (.iconst 0, 1) := by decide +kernel
theorem kdX5_encrypt_419 : decode prog_8_method_52_code 419 = .ok (.istore 7, 2) := by decide +kernel
theorem kdX5_encrypt_421 : decode prog_8_method_52_code 421 = .ok (.iload 7, 2) := by decide +kernel
theorem kdX5_encrypt_423 : decode prog_8_method_52_code 423 = .ok (.sipush 256, 3) := by decide +kernel
theorem kdX5_encrypt_426 : decode prog_8_method_52_code 426 = .ok (.if_icmp .ge 66, 3) := by decide +kernel
theorem kdX5_encrypt_429 : decode prog_8_method_52_code 429 = .ok (.aload_n 0, 1) := by decide +kernel
theorem kdX5_encrypt_430 : decode prog_8_method_52_code 430 = .ok (.aload_n 0, 1) := by decide +kernel
theorem kdX5_encrypt_431 : decode prog_8_method_52_code 431 = .ok (.getfield 82, 3) := by decide +kernel
theorem kdX5_encrypt_434 : decode prog_8_method_52_code 434 = .ok (.iconst 0, 1) := by decide +kernel
theorem kdX5_encrypt_435 : decode prog_8_method_52_code 435 = .ok (.aload_n 0, 1) := by decide +kernel
theorem kdX5_encrypt_436 : decode prog_8_method_52_code 436 = .ok (.getfield 70, 3) := by decide +kernel
theorem kdX5_encrypt_439 : decode prog_8_method_52_code 439 = .ok (.bipush 10, 2) := by decide +kernel
theorem kdX5_encrypt_441 : decode prog_8_method_52_code 441 = .ok (.aaload, 1) := by decide +kernel
theorem kdX5_encrypt_442 : decode prog_8_method_52_code 442 = .ok (.iload 7, 2) := by decide +kernel
theorem kdX5_encrypt_444 : decode prog_8_method_52_code 444 = .ok (.iaload, 1) := by decide +kernel
theorem kdX5_encrypt_445 : decode prog_8_method_52_code 445 = .ok (.aload_n 0, 1) := by decide +kernel
theorem kdX5_encrypt_446 : decode prog_8_method_52_code 446 = .ok (.getfield 70, 3) := by decide +kernel
theorem kdX5_encrypt_449 : decode prog_8_method_52_code 449 = .ok (.bipush 12, 2) := by decide +kernel
theorem kdX5_encrypt_451 : decode prog_8_method_52_code 451 = .ok (.aaload, 1) := by decide +kernel
theorem kdX5_encrypt_452 : decode prog_8_method_52_code 452 = .ok (.iload 7, 2) := by decide +kernel
theorem kdX5_encrypt_454 : decode prog_8_method_52_code 454 = .ok (.iaload, 1) := by decide +kernel
theorem kdX5_encrypt_455 : decode prog_8_method_52_code 455 = .ok (.iadd, 1) := by decide +kernel
theorem kdX5_encrypt_456 : decode prog_8_method_52_code 456 = .ok (.aload_n 3, 1) := by decide +kernel
theorem kdX5_encrypt_457 : decode prog_8_method_52_code 457 = .ok (.iconst 0, 1) := by decide +kernel
theorem kdX5_encrypt_458 : decode prog_8_method_52_code 458 = .ok (.iload 7, 2) := by decide +kernel
theorem kdX5_encrypt_460 : decode prog_8_method_52_code 460 = .ok (.invokestatic 205, 3) := by decide +kernel
theorem kdX5_encrypt_463 : decode prog_8_method_52_code 463 = .ok (.iconst 1, 1) := by decide +kernel
theorem kdX5_encrypt_464 : decode prog_8_method_52_code 464 = .ok (.invokestatic 277, 3) := by decide +kernel
theorem kdX5_encrypt_467 : decode prog_8_method_52_code 467 = .ok (.iadd, 1) := by decide +kernel
theorem kdX5_encrypt_468 : decode prog_8_method_52_code 468 = .ok (.sipush 3329, 3) := by decide +kernel
theorem kdX5_encrypt_471 : decode prog_8_method_52_code 471 = .ok (.irem, 1) := by decide +kernel
theorem kdX5_encrypt_472 : decode prog_8_method_52_code 472 = .ok (.aload_n 0, 1) := by decide +kernel
theorem kdX5_encrypt_473 : decode prog_8_method_52_code 473 = .ok (.getfield 218, 3) := by decide +kernel
theorem kdX5_encrypt_476 : decode prog_8_method_52_code 476 = .ok (.invokestatic 271, 3) := by decide +kernel
theorem kdX5_encrypt_479 : decode prog_8_method_52_code 479 = .ok (.aload_n 0, 1) := by decide +kernel
theorem kdX5_encrypt_480 : decode prog_8_method_52_code 480 = .ok (.getfield 218, 3) := by decide +kernel
theorem kdX5_encrypt_483 : decode prog_8_method_52_code 483 = .ok (.invokevirtual 257, 3) := by decide +kernel
theorem kdX5_encrypt_486 : decode prog_8_method_52_code 486 = .ok (.iinc 7 1, 3) := by decide +kernel
theorem kdX5_encrypt_489 : decode prog_8_method_52_code 489 = .ok (.goto (-68), 3) := by decide +kernel
theorem kdX5_encrypt_492 : decode prog_8_method_52_code 492 = .ok (.iconst 1, 1) := by decide +kernel
theorem kdX5_encrypt_493 : decode prog_8_method_52_code 493 = .ok (.ireturn, 1) := by decide +kernel
theorem kdX5_kemWrap_0 : decode prog_8_method_53_code 0 = .ok (.aload_n 0, 1) := by decide +kernel
theorem kdX5_kemWrap_1 : decode prog_8_method_53_code 1 = .ok (.iload_n 1, 1) := by decide +kernel
theorem kdX5_kemWrap_2 : decode prog_8_method_53_code 2 = .ok (.iconst 0, 1) := by decide +kernel
theorem kdX5_kemWrap_3 : decode prog_8_method_53_code 3 = .ok (.iconst 2, 1) := by decide +kernel
theorem kdX5_kemWrap_4 : decode prog_8_method_53_code 4 = .ok (.invokestatic 106, 3) := by decide +kernel
theorem kdX5_kemWrap_7 : decode prog_8_method_53_code 7 = .ok (.iconst 1, 1) := by decide +kernel
theorem kdX5_kemWrap_8 : decode prog_8_method_53_code 8 = .ok (.invokevirtual 98, 3) := by decide +kernel
theorem kdX5_kemWrap_11 : decode prog_8_method_53_code 11 = .ok (.ifCond .eq 27, 3) := by decide +kernel
theorem kdX5_kemWrap_14 : decode prog_8_method_53_code 14 = .ok (.aload_n 0, 1) := by decide +kernel
theorem kdX5_kemWrap_15 : decode prog_8_method_53_code 15 = .ok (.aload_n 0, 1) := by decide +kernel
theorem kdX5_kemWrap_16 : decode prog_8_method_53_code 16 = .ok (.getfield 18, 3) := by decide +kernel
theorem kdX5_kemWrap_19 : decode prog_8_method_53_code 19 = .ok (.iconst 0, 1) := by decide +kernel
theorem kdX5_kemWrap_20 : decode prog_8_method_53_code 20 = .ok (.iaload, 1) := by decide +kernel
theorem kdX5_kemWrap_21 : decode prog_8_method_53_code 21 = .ok (.bipush 32, 2) := by decide +kernel
theorem kdX5_kemWrap_23 : decode prog_8_method_53_code 23 = .ok (.if_icmp .ne 7, 3) := by decide +kernel
theorem kdX5_kemWrap_26 : decode prog_8_method_53_code 26 = .ok (.iconst 1, 1) := by decide +kernel
theorem kdX5_kemWrap_27 : decode prog_8_method_53_code 27 = .ok (.goto 4, 3) := by decide +kernel
theorem kdX5_kemWrap_30 : decode prog_8_method_53_code 30 = .ok (.iconst 0, 1) := by decide +kernel
theorem kdX5_kemWrap_31 : decode prog_8_method_53_code 31 = .ok (.iconst 2, 1) := by decide +kernel
theorem kdX5_kemWrap_32 : decode prog_8_method_53_code 32 = .ok (.invokevirtual 98, 3) := by decide +kernel
theorem kdX5_kemWrap_35 : decode prog_8_method_53_code 35 = .ok (.ifCond .ne 5, 3) := by decide +kernel
theorem kdX5_kemWrap_38 : decode prog_8_method_53_code 38 = .ok (.iconst 0, 1) := by decide +kernel
theorem kdX5_kemWrap_39 : decode prog_8_method_53_code 39 = .ok (.ireturn, 1) := by decide +kernel
theorem kdX5_kemWrap_40 : decode prog_8_method_53_code 40 = .ok (.aload_n 0, 1) := by decide +kernel
theorem kdX5_kemWrap_41 : decode prog_8_method_53_code 41 = .ok (.iload_n 1, 1) := by decide +kernel
theorem kdX5_kemWrap_42 : decode prog_8_method_53_code 42 = .ok (.invokevirtual 238, 3) := by decide +kernel
theorem kdX5_kemWrap_45 : decode prog_8_method_53_code 45 = .ok (.aload_n 0, 1) := by decide +kernel
theorem kdX5_kemWrap_46 : decode prog_8_method_53_code 46 = .ok (.getfield 18, 3) := by decide +kernel
theorem kdX5_kemWrap_49 : decode prog_8_method_53_code 49 = .ok (.iconst 1, 1) := by decide +kernel
theorem kdX5_kemWrap_50 : decode prog_8_method_53_code 50 = .ok (.iaload, 1) := by decide +kernel
theorem kdX5_kemWrap_51 : decode prog_8_method_53_code 51 = .ok (.sipush 384, 3) := by decide +kernel
theorem kdX5_kemWrap_54 : decode prog_8_method_53_code 54 = .ok (.aload_n 0, 1) := by decide +kernel
theorem kdX5_kemWrap_55 : decode prog_8_method_53_code 55 = .ok (.getfield 209, 3) := by decide +kernel
theorem kdX5_kemWrap_58 : decode prog_8_method_53_code 58 = .ok (.imul, 1) := by decide +kernel
theorem kdX5_kemWrap_59 : decode prog_8_method_53_code 59 = .ok (.bipush 32, 2) := by decide +kernel
theorem kdX5_kemWrap_61 : decode prog_8_method_53_code 61 = .ok (.iadd, 1) := by decide +kernel
theorem kdX5_kemWrap_62 : decode prog_8_method_53_code 62 = .ok (.if_icmp .ne 7, 3) := by decide +kernel
theorem kdX5_kemWrap_65 : decode prog_8_method_53_code 65 = .ok (.iconst 1, 1) := by decide +kernel
theorem kdX5_kemWrap_66 : decode prog_8_method_53_code 66 = .ok (.goto 4, 3) := by decide +kernel
theorem kdX5_kemWrap_69 : decode prog_8_method_53_code 69 = .ok (.iconst 0, 1) := by decide +kernel
theorem kdX5_kemWrap_70 : decode prog_8_method_53_code 70 = .ok (.istore_n 2, 1) := by decide +kernel
theorem kdX5_kemWrap_71 : decode prog_8_method_53_code 71 = .ok (.aload_n 0, 1) := by decide +kernel
theorem kdX5_kemWrap_72 : decode prog_8_method_53_code 72 = .ok (.iconst 0, 1) := by decide +kernel
theorem kdX5_kemWrap_73 : decode prog_8_method_53_code 73 = .ok (.putfield 202, 3) := by decide +kernel
theorem kdX5_kemWrap_76 : decode prog_8_method_53_code 76 = .ok (.iconst 0, 1) := by decide +kernel
theorem kdX5_kemWrap_77 : decode prog_8_method_53_code 77 = .ok (.istore_n 3, 1) := by decide +kernel
theorem kdX5_kemWrap_78 : decode prog_8_method_53_code 78 = .ok (.iload_n 3, 1) := by decide +kernel
theorem kdX5_kemWrap_79 : decode prog_8_method_53_code 79 = .ok (.sipush 256, 3) := by decide +kernel
theorem kdX5_kemWrap_82 : decode prog_8_method_53_code 82 = .ok (.aload_n 0, 1) := by decide +kernel
theorem kdX5_kemWrap_83 : decode prog_8_method_53_code 83 = .ok (.getfield 209, 3) := by decide +kernel
theorem kdX5_kemWrap_86 : decode prog_8_method_53_code 86 = .ok (.imul, 1) := by decide +kernel
theorem kdX5_kemWrap_87 : decode prog_8_method_53_code 87 = .ok (.if_icmp .ge 34, 3) := by decide +kernel
theorem kdX5_kemWrap_90 : decode prog_8_method_53_code 90 = .ok (.iload_n 2, 1) := by decide +kernel
theorem kdX5_kemWrap_91 : decode prog_8_method_53_code 91 = .ok (.ifCond .eq 30, 3) := by decide +kernel
theorem kdX5_kemWrap_94 : decode prog_8_method_53_code 94 = .ok (.aload_n 0, 1) := by decide +kernel
theorem kdX5_kemWrap_95 : decode prog_8_method_53_code 95 = .ok (.aload_n 0, 1) := by decide +kernel
theorem kdX5_kemWrap_96 : decode prog_8_method_53_code 96 = .ok (.getfield 15, 3) := by decide +kernel
theorem kdX5_kemWrap_99 : decode prog_8_method_53_code 99 = .ok (.iconst 1, 1) := by decide +kernel
theorem kdX5_kemWrap_100 : decode prog_8_method_53_code 100 = .ok (.aaload, 1) := by decide +kernel
theorem kdX5_kemWrap_101 : decode prog_8_method_53_code 101 = .ok (.iconst 0, 1) := by decide +kernel
theorem kdX5_kemWrap_102 : decode prog_8_method_53_code 102 = .ok (.bipush 12, 2) := by decide +kernel
theorem kdX5_kemWrap_104 : decode prog_8_method_53_code 104 = .ok (.invokevirtual 274, 3) := by decide +kernel
theorem kdX5_kemWrap_107 : decode prog_8_method_53_code 107 = .ok (.sipush 3329, 3) := by decide +kernel
theorem kdX5_kemWrap_110 : decode prog_8_method_53_code 110 = .ok (.if_icmp .lt 5, 3) := by decide +kernel
theorem kdX5_kemWrap_113 : decode prog_8_method_53_code 113 = .ok (.iconst 0, 1) := by decide +kernel
theorem kdX5_kemWrap_114 : decode prog_8_method_53_code 114 = .ok (.istore_n 2, 1) := by decide +kernel
theorem kdX5_kemWrap_115 : decode prog_8_method_53_code 115 = .ok (.iinc 3 1, 3) := by decide +kernel
theorem kdX5_kemWrap_118 : decode prog_8_method_53_code 118 = .ok (.goto (-40), 3) := by decide +kernel
theorem kdX5_kemWrap_121 : decode prog_8_method_53_code 121 = .ok (.aload_n 0, 1) := by decide +kernel
theorem kdX5_kemWrap_122 : decode prog_8_method_53_code 122 = .ok (.iload_n 2, 1) := by decide +kernel
theorem kdX5_kemWrap_123 : decode prog_8_method_53_code 123 = .ok (.iconst 3, 1) := by decide +kernel
theorem kdX5_kemWrap_124 : decode prog_8_method_53_code 124 = .ok (.invokevirtual 98, 3) := by decide +kernel
theorem kdX5_kemWrap_127 : decode prog_8_method_53_code 127 = .ok (.ifCond .ne 5, 3) := by decide +kernel
theorem kdX5_kemWrap_130 : decode prog_8_method_53_code 130 = .ok (.iconst 0, 1) := by decide +kernel
theorem kdX5_kemWrap_131 : decode prog_8_method_53_code 131 = .ok (.ireturn, 1) := by decide +kernel
theorem kdX5_kemWrap_132 : decode prog_8_method_53_code 132 = .ok (.aload_n 0, 1) := by decide +kernel
theorem kdX5_kemWrap_133 : decode prog_8_method_53_code 133 = .ok (.bipush 8, 2) := by decide +kernel
theorem kdX5_kemWrap_135 : decode prog_8_method_53_code 135 = .ok (.invokevirtual 134, 3) := by decide +kernel
theorem kdX5_kemWrap_138 : decode prog_8_method_53_code 138 = .ok (.aload_n 0, 1) := by decide +kernel
theorem kdX5_kemWrap_139 : decode prog_8_method_53_code 139 = .ok (.aload_n 0, 1) := by decide +kernel
theorem kdX5_kemWrap_140 : decode prog_8_method_53_code 140 = .ok (.getfield 15, 3) := by decide +kernel
theorem kdX5_kemWrap_143 : decode prog_8_method_53_code 143 = .ok (.iconst 1, 1) := by decide +kernel
theorem kdX5_kemWrap_144 : decode prog_8_method_53_code 144 = .ok (.aaload, 1) := by decide +kernel
theorem kdX5_kemWrap_145 : decode prog_8_method_53_code 145 = .ok (.iconst 0, 1) := by decide +kernel
theorem kdX5_kemWrap_146 : decode prog_8_method_53_code 146 = .ok (.aload_n 0, 1) := by decide +kernel
theorem kdX5_kemWrap_147 : decode prog_8_method_53_code 147 = .ok (.getfield 18, 3) := by decide +kernel
theorem kdX5_kemWrap_150 : decode prog_8_method_53_code 150 = .ok (.iconst 1, 1) := by decide +kernel
theorem kdX5_kemWrap_151 : decode prog_8_method_53_code 151 = .ok (.iaload, 1) := by decide +kernel
theorem kdX5_kemWrap_152 : decode prog_8_method_53_code 152 = .ok (.invokevirtual 228, 3) := by decide +kernel
theorem kdX5_kemWrap_155 : decode prog_8_method_53_code 155 = .ok (.aload_n 0, 1) := by decide +kernel
theorem kdX5_kemWrap_156 : decode prog_8_method_53_code 156 = .ok (.aload_n 0, 1) := by decide +kernel
theorem kdX5_kemWrap_157 : decode prog_8_method_53_code 157 = .ok (.getfield 73, 3) := by decide +kernel
theorem kdX5_kemWrap_160 : decode prog_8_method_53_code 160 = .ok (.sipush 128, 3) := by decide +kernel
theorem kdX5_kemWrap_163 : decode prog_8_method_53_code 163 = .ok (.bipush 32, 2) := by decide +kernel
theorem kdX5_kemWrap_165 : decode prog_8_method_53_code 165 = .ok (.invokevirtual 231, 3) := by decide +kernel
theorem kdX5_kemWrap_168 : decode prog_8_method_53_code 168 = .ok (.aload_n 0, 1) := by decide +kernel
theorem kdX5_kemWrap_169 : decode prog_8_method_53_code 169 = .ok (.bipush 10, 2) := by decide +kernel
theorem kdX5_kemWrap_171 : decode prog_8_method_53_code 171 = .ok (.invokevirtual 134, 3) := by decide +kernel
theorem kdX5_kemWrap_174 : decode prog_8_method_53_code 174 = .ok (.aload_n 0, 1) := by decide +kernel
theorem kdX5_kemWrap_175 : decode prog_8_method_53_code 175 = .ok (.aload_n 0, 1) := by decide +kernel
theorem kdX5_kemWrap_176 : decode prog_8_method_53_code 176 = .ok (.getfield 15, 3) := by decide +kernel
theorem kdX5_kemWrap_179 : decode prog_8_method_53_code 179 = .ok (.iconst 0, 1) := by decide +kernel
theorem kdX5_kemWrap_180 : decode prog_8_method_53_code 180 = .ok (.aaload, 1) := by decide +kernel
theorem kdX5_kemWrap_181 : decode prog_8_method_53_code 181 = .ok (.iconst 0, 1) := by decide +kernel
theorem kdX5_kemWrap_182 : decode prog_8_method_53_code 182 = .ok (.bipush 32, 2) := by decide +kernel
theorem kdX5_kemWrap_184 : decode prog_8_method_53_code 184 = .ok (.invokevirtual 228, 3) := by decide +kernel
theorem kdX5_kemWrap_187 : decode prog_8_method_53_code 187 = .ok (.aload_n 0, 1) := by decide +kernel
theorem kdX5_kemWrap_188 : decode prog_8_method_53_code 188 = .ok (.aload_n 0, 1) := by decide +kernel
theorem kdX5_kemWrap_189 : decode prog_8_method_53_code 189 = .ok (.getfield 73, 3) := by decide +kernel
theorem kdX5_kemWrap_192 : decode prog_8_method_53_code 192 = .ok (.sipush 128, 3) := by decide +kernel
theorem kdX5_kemWrap_195 : decode prog_8_method_53_code 195 = .ok (.bipush 32, 2) := by decide +kernel
theorem kdX5_kemWrap_197 : decode prog_8_method_53_code 197 = .ok (.invokevirtual 228, 3) := by decide +kernel
theorem kdX5_kemWrap_200 : decode prog_8_method_53_code 200 = .ok (.aload_n 0, 1) := by decide +kernel
theorem kdX5_kemWrap_201 : decode prog_8_method_53_code 201 = .ok (.aload_n 0, 1) := by decide +kernel
theorem kdX5_kemWrap_202 : decode prog_8_method_53_code 202 = .ok (.getfield 73, 3) := by decide +kernel
theorem kdX5_kemWrap_205 : decode prog_8_method_53_code 205 = .ok (.bipush 64, 2) := by decide +kernel
theorem kdX5_kemWrap_207 : decode prog_8_method_53_code 207 = .ok (.bipush 64, 2) := by decide +kernel
theorem kdX5_kemWrap_209 : decode prog_8_method_53_code 209 = .ok (.invokevirtual 231, 3) := by decide +kernel
theorem kdX5_kemWrap_212 : decode prog_8_method_53_code 212 = .ok (.aload_n 0, 1) := by decide +kernel
theorem kdX5_kemWrap_213 : decode prog_8_method_53_code 213 = .ok (.aload_n 0, 1) := by decide +kernel
theorem kdX5_kemWrap_214 : decode prog_8_method_53_code 214 = .ok (.aload_n 0, 1) := by decide +kernel
theorem kdX5_kemWrap_215 : decode prog_8_method_53_code 215 = .ok (.getfield 15, 3) := by decide +kernel
theorem kdX5_kemWrap_218 : decode prog_8_method_53_code 218 = .ok (.iconst 1, 1) := by decide +kernel
theorem kdX5_kemWrap_219 : decode prog_8_method_53_code 219 = .ok (.aaload, 1) := by decide +kernel
theorem kdX5_kemWrap_220 : decode prog_8_method_53_code 220 = .ok (.iconst 0, 1) := by decide +kernel
theorem kdX5_kemWrap_221 : decode prog_8_method_53_code 221 = .ok (.aload_n 0, 1) := by decide +kernel
theorem kdX5_kemWrap_222 : decode prog_8_method_53_code 222 = .ok (.getfield 15, 3) := by decide +kernel
theorem kdX5_kemWrap_225 : decode prog_8_method_53_code 225 = .ok (.iconst 0, 1) := by decide +kernel
theorem kdX5_kemWrap_226 : decode prog_8_method_53_code 226 = .ok (.aaload, 1) := by decide +kernel
theorem kdX5_kemWrap_227 : decode prog_8_method_53_code 227 = .ok (.aload_n 0, 1) := by decide +kernel
theorem kdX5_kemWrap_228 : decode prog_8_method_53_code 228 = .ok (.getfield 73, 3) := by decide +kernel
theorem kdX5_kemWrap_231 : decode prog_8_method_53_code 231 = .ok (.bipush 96, 2) := by decide +kernel
theorem kdX5_kemWrap_233 : decode prog_8_method_53_code 233 = .ok (.invokevirtual 280, 3) := by decide +kernel
theorem kdX5_kemWrap_236 : decode prog_8_method_53_code 236 = .ok (.iconst 4, 1) := by decide +kernel
theorem kdX5_kemWrap_237 : decode prog_8_method_53_code 237 = .ok (.invokevirtual 98, 3) := by decide +kernel
theorem kdX5_kemWrap_240 : decode prog_8_method_53_code 240 = .ok (.ifCond .ne 5, 3) := by decide +kernel
theorem kdX5_kemWrap_243 : decode prog_8_method_53_code 243 = .ok (.iconst 0, 1) := by decide +kernel
theorem kdX5_kemWrap_244 : decode prog_8_method_53_code 244 = .ok (.ireturn, 1) := by decide +kernel
theorem kdX5_kemWrap_245 : decode prog_8_method_53_code 245 = .ok (.bipush 32, 2) := by decide +kernel
theorem kdX5_kemWrap_247 : decode prog_8_method_53_code 247 = .ok (.aload_n 0, 1) := by decide +kernel
theorem kdX5_kemWrap_248 : decode prog_8_method_53_code 248 = .ok (.getfield 215, 3) := by decide +kernel
theorem kdX5_kemWrap_251 : decode prog_8_method_53_code 251 = .ok (.aload_n 0, 1) := by decide +kernel
theorem kdX5_kemWrap_252 : decode prog_8_method_53_code 252 = .ok (.getfield 209, 3) := by decide +kernel
theorem kdX5_kemWrap_255 : decode prog_8_method_53_code 255 = .ok (.imul, 1) := by decide +kernel
theorem kdX5_kemWrap_256 : decode prog_8_method_53_code 256 = .ok (.aload_n 0, 1) := by decide +kernel
theorem kdX5_kemWrap_257 : decode prog_8_method_53_code 257 = .ok (.getfield 218, 3) := by decide +kernel
theorem kdX5_kemWrap_260 : decode prog_8_method_53_code 260 = .ok (.iadd, 1) := by decide +kernel
theorem kdX5_kemWrap_261 : decode prog_8_method_53_code 261 = .ok (.imul, 1) := by decide +kernel
theorem kdX5_kemWrap_262 : decode prog_8_method_53_code 262 = .ok (.istore_n 3, 1) := by decide +kernel
theorem kdX5_kemWrap_263 : decode prog_8_method_53_code 263 = .ok (.aload_n 0, 1) := by decide +kernel
theorem kdX5_kemWrap_264 : decode prog_8_method_53_code 264 = .ok (.getfield 82, 3) := by decide +kernel
theorem kdX5_kemWrap_267 : decode prog_8_method_53_code 267 = .ok (.iconst 0, 1) := by decide +kernel
theorem kdX5_kemWrap_268 : decode prog_8_method_53_code 268 = .ok (.aload_n 0, 1) := by decide +kernel
theorem kdX5_kemWrap_269 : decode prog_8_method_53_code 269 = .ok (.getfield 15, 3) := by decide +kernel
theorem kdX5_kemWrap_272 : decode prog_8_method_53_code 272 = .ok (.iconst 5, 1) := by decide +kernel
theorem kdX5_kemWrap_273 : decode prog_8_method_53_code 273 = .ok (.aaload, 1) := by decide +kernel
theorem kdX5_kemWrap_274 : decode prog_8_method_53_code 274 = .ok (.iconst 0, 1) := by decide +kernel
theorem kdX5_kemWrap_275 : decode prog_8_method_53_code 275 = .ok (.iload_n 3, 1) := by decide +kernel
theorem kdX5_kemWrap_276 : decode prog_8_method_53_code 276 = .ok (.invokestatic 261, 3) := by decide +kernel
theorem kdX5_kemWrap_279 : decode prog_8_method_53_code 279 = .ok (.aload_n 0, 1) := by decide +kernel
theorem kdX5_kemWrap_280 : decode prog_8_method_53_code 280 = .ok (.getfield 18, 3) := by decide +kernel
theorem kdX5_kemWrap_283 : decode prog_8_method_53_code 283 = .ok (.iconst 5, 1) := by decide +kernel
theorem kdX5_kemWrap_284 : decode prog_8_method_53_code 284 = .ok (.iload_n 3, 1) := by decide +kernel
theorem kdX5_kemWrap_285 : decode prog_8_method_53_code 285 = .ok (.iastore, 1) := by decide +kernel
theorem kdX5_kemWrap_286 : decode prog_8_method_53_code 286 = .ok (.aload_n 0, 1) := by decide +kernel
theorem kdX5_kemWrap_287 : decode prog_8_method_53_code 287 = .ok (.getfield 73, 3) := by decide +kernel
theorem kdX5_kemWrap_290 : decode prog_8_method_53_code 290 = .ok (.bipush 64, 2) := by decide +kernel
theorem kdX5_kemWrap_292 : decode prog_8_method_53_code 292 = .ok (.aload_n 0, 1) := by decide +kernel
theorem kdX5_kemWrap_293 : decode prog_8_method_53_code 293 = .ok (.getfield 15, 3) := by decide +kernel
theorem kdX5_kemWrap_296 : decode prog_8_method_53_code 296 = .ok (.bipush 6, 2) := by decide +kernel
theorem kdX5_kemWrap_298 : decode prog_8_method_53_code 298 = .ok (.aaload, 1) := by decide +kernel
theorem kdX5_kemWrap_299 : decode prog_8_method_53_code 299 = .ok (.iconst 0, 1) := by decide +kernel
theorem kdX5_kemWrap_300 : decode prog_8_method_53_code 300 = .ok (.bipush 32, 2) := by decide +kernel
theorem kdX5_kemWrap_302 : decode prog_8_method_53_code 302 = .ok (.invokestatic 261, 3) := by decide +kernel
theorem kdX5_kemWrap_305 : decode prog_8_method_53_code 305 = .ok (.aload_n 0, 1) := by decide +kernel
theorem kdX5_kemWrap_306 : decode prog_8_method_53_code 306 = .ok (.getfield 18, 3) := by decide +kernel
theorem kdX5_kemWrap_309 : decode prog_8_method_53_code 309 = .ok (.bipush 6, 2) := by decide +kernel
theorem kdX5_kemWrap_311 : decode prog_8_method_53_code 311 = .ok (.bipush 32, 2) := by decide +kernel
theorem kdX5_kemWrap_313 : decode prog_8_method_53_code 313 = .ok (.iastore, 1) := by decide +kernel
theorem kdX5_kemWrap_314 : decode prog_8_method_53_code 314 = .ok (.iload_n 3, 1) := by decide +kernel
theorem kdX5_kemWrap_315 : decode prog_8_method_53_code 315 = .ok (.ireturn, 1) := by decide +kernel
theorem kdX5_kemOpen_0 : decode prog_8_method_54_code 0 = .ok (.aload_n 0, 1) := by decide +kernel
theorem kdX5_kemOpen_1 : decode prog_8_method_54_code 1 = .ok (.iload_n 1, 1) := by decide +kernel
theorem kdX5_kemOpen_2 : decode prog_8_method_54_code 2 = .ok (.iconst 0, 1) := by decide +kernel
theorem kdX5_kemOpen_3 : decode prog_8_method_54_code 3 = .ok (.iconst 2, 1) := by decide +kernel
theorem kdX5_kemOpen_4 : decode prog_8_method_54_code 4 = .ok (.invokestatic 106, 3) := by decide +kernel
theorem kdX5_kemOpen_7 : decode prog_8_method_54_code 7 = .ok (.iconst 1, 1) := by decide +kernel
theorem kdX5_kemOpen_8 : decode prog_8_method_54_code 8 = .ok (.invokevirtual 98, 3) := by decide +kernel
theorem kdX5_kemOpen_11 : decode prog_8_method_54_code 11 = .ok (.ifCond .ne 5, 3) := by decide +kernel
theorem kdX5_kemOpen_14 : decode prog_8_method_54_code 14 = .ok (.iconst 0, 1) := by decide +kernel
theorem kdX5_kemOpen_15 : decode prog_8_method_54_code 15 = .ok (.ireturn, 1) := by decide +kernel
theorem kdX5_kemOpen_16 : decode prog_8_method_54_code 16 = .ok (.aload_n 0, 1) := by decide +kernel
theorem kdX5_kemOpen_17 : decode prog_8_method_54_code 17 = .ok (.iload_n 1, 1) := by decide +kernel
theorem kdX5_kemOpen_18 : decode prog_8_method_54_code 18 = .ok (.invokevirtual 238, 3) := by decide +kernel
theorem kdX5_kemOpen_21 : decode prog_8_method_54_code 21 = .ok (.sipush 384, 3) := by decide +kernel
theorem kdX5_kemOpen_24 : decode prog_8_method_54_code 24 = .ok (.aload_n 0, 1) := by decide +kernel
theorem kdX5_kemOpen_25 : decode prog_8_method_54_code 25 = .ok (.getfield 209, 3) := by decide +kernel
theorem kdX5_kemOpen_28 : decode prog_8_method_54_code 28 = .ok (.imul, 1) := by decide +kernel
theorem kdX5_kemOpen_29 : decode prog_8_method_54_code 29 = .ok (.istore_n 2, 1) := by decide +kernel
theorem kdX5_kemOpen_30 : decode prog_8_method_54_code 30 = .ok (.bipush 32, 2) := by decide +kernel
theorem kdX5_kemOpen_32 : decode prog_8_method_54_code 32 = .ok (.aload_n 0, 1) := by decide +kernel
theorem kdX5_kemOpen_33 : decode prog_8_method_54_code 33 = .ok (.getfield 215, 3) := by decide +kernel
theorem kdX5_kemOpen_36 : decode prog_8_method_54_code 36 = .ok (.aload_n 0, 1) := by decide +kernel
theorem kdX5_kemOpen_37 : decode prog_8_method_54_code 37 = .ok (.getfield 209, 3) := by decide +kernel
theorem kdX5_kemOpen_40 : decode prog_8_method_54_code 40 = .ok (.imul, 1) := by decide +kernel
theorem kdX5_kemOpen_41 : decode prog_8_method_54_code 41 = .ok (.aload_n 0, 1) := by decide +kernel
theorem kdX5_kemOpen_42 : decode prog_8_method_54_code 42 = .ok (.getfield 218, 3) := by decide +kernel
theorem kdX5_kemOpen_45 : decode prog_8_method_54_code 45 = .ok (.iadd, 1) := by decide +kernel
theorem kdX5_kemOpen_46 : decode prog_8_method_54_code 46 = .ok (.imul, 1) := by decide +kernel
theorem kdX5_kemOpen_47 : decode prog_8_method_54_code 47 = .ok (.istore_n 3, 1) := by decide +kernel
theorem kdX5_kemOpen_48 : decode prog_8_method_54_code 48 = .ok (.aload_n 0, 1) := by decide +kernel
theorem kdX5_kemOpen_49 : decode prog_8_method_54_code 49 = .ok (.getfield 18, 3) := by decide +kernel
theorem kdX5_kemOpen_52 : decode prog_8_method_54_code 52 = .ok (.iconst 5, 1) := by decide +kernel
theorem kdX5_kemOpen_53 : decode prog_8_method_54_code 53 = .ok (.iaload, 1) := by decide +kernel
theorem kdX5_kemOpen_54 : decode prog_8_method_54_code 54 = .ok (.iload_n 3, 1) := by decide +kernel
theorem kdX5_kemOpen_55 : decode prog_8_method_54_code 55 = .ok (.if_icmp .ne 27, 3) := by decide +kernel
theorem kdX5_kemOpen_58 : decode prog_8_method_54_code 58 = .ok (.aload_n 0, 1) := by decide +kernel
theorem kdX5_kemOpen_59 : decode prog_8_method_54_code 59 = .ok (.getfield 18, 3) := by decide +kernel
theorem kdX5_kemOpen_62 : decode prog_8_method_54_code 62 = .ok (.iconst 2, 1) := by decide +kernel
theorem kdX5_kemOpen_63 : decode prog_8_method_54_code 63 = .ok (.iaload, 1) := by decide +kernel
theorem kdX5_kemOpen_64 : decode prog_8_method_54_code 64 = .ok (.sipush 768, 3) := by decide +kernel
theorem kdX5_kemOpen_67 : decode prog_8_method_54_code 67 = .ok (.aload_n 0, 1) := by decide +kernel
theorem kdX5_kemOpen_68 : decode prog_8_method_54_code 68 = .ok (.getfield 209, 3) := by decide +kernel
theorem kdX5_kemOpen_71 : decode prog_8_method_54_code 71 = .ok (.imul, 1) := by decide +kernel
theorem kdX5_kemOpen_72 : decode prog_8_method_54_code 72 = .ok (.bipush 96, 2) := by decide +kernel
theorem kdX5_kemOpen_74 : decode prog_8_method_54_code 74 = .ok (.iadd, 1) := by decide +kernel
theorem kdX5_kemOpen_75 : decode prog_8_method_54_code 75 = .ok (.if_icmp .ne 7, 3) := by decide +kernel
theorem kdX5_kemOpen_78 : decode prog_8_method_54_code 78 = .ok (.iconst 1, 1) := by decide +kernel
theorem kdX5_kemOpen_79 : decode prog_8_method_54_code 79 = .ok (.goto 4, 3) := by decide +kernel
theorem kdX5_kemOpen_82 : decode prog_8_method_54_code 82 = .ok (.iconst 0, 1) := by decide +kernel
theorem kdX5_kemOpen_83 : decode prog_8_method_54_code 83 = .ok (.istore 4, 2) := by decide +kernel
theorem kdX5_kemOpen_85 : decode prog_8_method_54_code 85 = .ok (.iload 4, 2) := by decide +kernel
theorem kdX5_kemOpen_87 : decode prog_8_method_54_code 87 = .ok (.ifCond .eq 59, 3) := by decide +kernel
theorem kdX5_kemOpen_90 : decode prog_8_method_54_code 90 = .ok (.aload_n 0, 1) := by decide +kernel
theorem kdX5_kemOpen_91 : decode prog_8_method_54_code 91 = .ok (.bipush 8, 2) := by decide +kernel
theorem kdX5_kemOpen_93 : decode prog_8_method_54_code 93 = .ok (.invokevirtual 134, 3) := by decide +kernel
theorem kdX5_kemOpen_96 : decode prog_8_method_54_code 96 = .ok (.aload_n 0, 1) := by decide +kernel
theorem kdX5_kemOpen_97 : decode prog_8_method_54_code 97 = .ok (.aload_n 0, 1) := by decide +kernel
theorem kdX5_kemOpen_98 : decode prog_8_method_54_code 98 = .ok (.getfield 15, 3) := by decide +kernel
theorem kdX5_kemOpen_101 : decode prog_8_method_54_code 101 = .ok (.iconst 2, 1) := by decide +kernel
theorem kdX5_kemOpen_102 : decode prog_8_method_54_code 102 = .ok (.aaload, 1) := by decide +kernel
theorem kdX5_kemOpen_103 : decode prog_8_method_54_code 103 = .ok (.iload_n 2, 1) := by decide +kernel
theorem kdX5_kemOpen_104 : decode prog_8_method_54_code 104 = .ok (.iload_n 2, 1) := by decide +kernel
theorem kdX5_kemOpen_105 : decode prog_8_method_54_code 105 = .ok (.bipush 32, 2) := by decide +kernel
theorem kdX5_kemOpen_107 : decode prog_8_method_54_code 107 = .ok (.iadd, 1) := by decide +kernel
theorem kdX5_kemOpen_108 : decode prog_8_method_54_code 108 = .ok (.invokevirtual 228, 3) := by decide +kernel
theorem kdX5_kemOpen_111 : decode prog_8_method_54_code 111 = .ok (.aload_n 0, 1) := by decide +kernel
theorem kdX5_kemOpen_112 : decode prog_8_method_54_code 112 = .ok (.aload_n 0, 1) := by decide +kernel
theorem kdX5_kemOpen_113 : decode prog_8_method_54_code 113 = .ok (.getfield 73, 3) := by decide +kernel
theorem kdX5_kemOpen_116 : decode prog_8_method_54_code 116 = .ok (.iconst 0, 1) := by decide +kernel
theorem kdX5_kemOpen_117 : decode prog_8_method_54_code 117 = .ok (.bipush 32, 2) := by decide +kernel
theorem kdX5_kemOpen_119 : decode prog_8_method_54_code 119 = .ok (.invokevirtual 231, 3) := by decide +kernel
theorem kdX5_kemOpen_122 : decode prog_8_method_54_code 122 = .ok (.aload_n 0, 1) := by decide +kernel
theorem kdX5_kemOpen_123 : decode prog_8_method_54_code 123 = .ok (.getfield 73, 3) := by decide +kernel
theorem kdX5_kemOpen_126 : decode prog_8_method_54_code 126 = .ok (.iconst 0, 1) := by decide +kernel
theorem kdX5_kemOpen_127 : decode prog_8_method_54_code 127 = .ok (.aload_n 0, 1) := by decide +kernel
theorem kdX5_kemOpen_128 : decode prog_8_method_54_code 128 = .ok (.getfield 15, 3) := by decide +kernel
theorem kdX5_kemOpen_131 : decode prog_8_method_54_code 131 = .ok (.iconst 2, 1) := by decide +kernel
theorem kdX5_kemOpen_132 : decode prog_8_method_54_code 132 = .ok (.aaload, 1) := by decide +kernel
theorem kdX5_kemOpen_133 : decode prog_8_method_54_code 133 = .ok (.iconst 2, 1) := by decide +kernel
theorem kdX5_kemOpen_134 : decode prog_8_method_54_code 134 = .ok (.iload_n 2, 1) := by decide +kernel
theorem kdX5_kemOpen_135 : decode prog_8_method_54_code 135 = .ok (.imul, 1) := by decide +kernel
theorem kdX5_kemOpen_136 : decode prog_8_method_54_code 136 = .ok (.bipush 32, 2) := by decide +kernel
theorem kdX5_kemOpen_138 : decode prog_8_method_54_code 138 = .ok (.iadd, 1) := by decide +kernel
theorem kdX5_kemOpen_139 : decode prog_8_method_54_code 139 = .ok (.bipush 32, 2) := by decide +kernel
theorem kdX5_kemOpen_141 : decode prog_8_method_54_code 141 = .ok (.invokestatic 284, 3) := by decide +kernel
theorem kdX5_kemOpen_144 : decode prog_8_method_54_code 144 = .ok (.istore 4, 2) := by decide +kernel
theorem kdX5_kemOpen_146 : decode prog_8_method_54_code 146 = .ok (.aload_n 0, 1) := by decide +kernel
theorem kdX5_kemOpen_147 : decode prog_8_method_54_code 147 = .ok (.iload 4, 2) := by decide +kernel
theorem kdX5_kemOpen_149 : decode prog_8_method_54_code 149 = .ok (.iconst 2, 1) := by decide +kernel
theorem kdX5_kemOpen_150 : decode prog_8_method_54_code 150 = .ok (.invokevirtual 98, 3) := by decide +kernel
theorem kdX5_kemOpen_153 : decode prog_8_method_54_code 153 = .ok (.ifCond .ne 5, 3) := by decide +kernel
theorem kdX5_kemOpen_156 : decode prog_8_method_54_code 156 = .ok (.iconst 0, 1) := by decide +kernel
theorem kdX5_kemOpen_157 : decode prog_8_method_54_code 157 = .ok (.ireturn, 1) := by decide +kernel
theorem kdX5_kemOpen_158 : decode prog_8_method_54_code 158 = .ok (.aload_n 0, 1) := by decide +kernel
theorem kdX5_kemOpen_159 : decode prog_8_method_54_code 159 = .ok (.getfield 70, 3) := by decide +kernel
theorem kdX5_kemOpen_162 : decode prog_8_method_54_code 162 = .ok (.bipush 10, 2) := by decide +kernel
theorem kdX5_kemOpen_164 : decode prog_8_method_54_code 164 = .ok (.aaload, 1) := by decide +kernel
theorem kdX5_kemOpen_165 : decode prog_8_method_54_code 165 = .ok (.invokestatic 265, 3) := by decide +kernel
theorem kdX5_kemOpen_168 : decode prog_8_method_54_code 168 = .ok (.iconst 0, 1) := by decide +kernel
theorem kdX5_kemOpen_169 : decode prog_8_method_54_code 169 = .ok (.istore 5, 2) := by decide +kernel
theorem kdX5_kemOpen_171 : decode prog_8_method_54_code 171 = .ok (.iload 5, 2) := by decide +kernel
theorem kdX5_kemOpen_173 : decode prog_8_method_54_code 173 = .ok (.aload_n 0, 1) := by decide +kernel
theorem kdX5_kemOpen_174 : decode prog_8_method_54_code 174 = .ok (.getfield 209, 3) := by decide +kernel
theorem kdX5_kemOpen_177 : decode prog_8_method_54_code 177 = .ok (.if_icmp .ge 163, 3) := by decide +kernel
theorem kdX5_kemOpen_180 : decode prog_8_method_54_code 180 = .ok (.aload_n 0, 1) := by decide +kernel
theorem kdX5_kemOpen_181 : decode prog_8_method_54_code 181 = .ok (.sipush 256, 3) := by decide +kernel
theorem kdX5_kemOpen_184 : decode prog_8_method_54_code 184 = .ok (.aload_n 0, 1) := by decide +kernel
theorem kdX5_kemOpen_185 : decode prog_8_method_54_code 185 = .ok (.getfield 215, 3) := by decide +kernel
theorem kdX5_kemOpen_188 : decode prog_8_method_54_code 188 = .ok (.imul, 1) := by decide +kernel
theorem kdX5_kemOpen_189 : decode prog_8_method_54_code 189 = .ok (.iload 5, 2) := by decide +kernel
theorem kdX5_kemOpen_191 : decode prog_8_method_54_code 191 = .ok (.imul, 1) := by decide +kernel
theorem kdX5_kemOpen_192 : decode prog_8_method_54_code 192 = .ok (.putfield 202, 3) := by decide +kernel
theorem kdX5_kemOpen_195 : decode prog_8_method_54_code 195 = .ok (.iconst 0, 1) := by decide +kernel
theorem kdX5_kemOpen_196 : decode prog_8_method_54_code 196 = .ok (.istore 6, 2) := by decide +kernel
theorem kdX5_kemOpen_198 : decode prog_8_method_54_code 198 = .ok (.iload 6, 2) := by decide +kernel
theorem kdX5_kemOpen_200 : decode prog_8_method_54_code 200 = .ok (.sipush 256, 3) := by decide +kernel
theorem kdX5_kemOpen_203 : decode prog_8_method_54_code 203 = .ok (.if_icmp .ge 41, 3) := by decide +kernel
theorem kdX5_kemOpen_206 : decode prog_8_method_54_code 206 = .ok (.aload_n 0, 1) := by decide +kernel
theorem kdX5_kemOpen_207 : decode prog_8_method_54_code 207 = .ok (.getfield 70, 3) := by decide +kernel
theorem kdX5_kemOpen_210 : decode prog_8_method_54_code 210 = .ok (.bipush 11, 2) := by decide +kernel
theorem kdX5_kemOpen_212 : decode prog_8_method_54_code 212 = .ok (.aaload, 1) := by decide +kernel
theorem kdX5_kemOpen_213 : decode prog_8_method_54_code 213 = .ok (.iload 6, 2) := by decide +kernel
theorem kdX5_kemOpen_215 : decode prog_8_method_54_code 215 = .ok (.aload_n 0, 1) := by decide +kernel
theorem kdX5_kemOpen_216 : decode prog_8_method_54_code 216 = .ok (.aload_n 0, 1) := by decide +kernel
theorem kdX5_kemOpen_217 : decode prog_8_method_54_code 217 = .ok (.getfield 15, 3) := by decide +kernel
theorem kdX5_kemOpen_220 : decode prog_8_method_54_code 220 = .ok (.iconst 5, 1) := by decide +kernel
theorem kdX5_kemOpen_221 : decode prog_8_method_54_code 221 = .ok (.aaload, 1) := by decide +kernel
theorem kdX5_kemOpen_222 : decode prog_8_method_54_code 222 = .ok (.iconst 0, 1) := by decide +kernel
theorem kdX5_kemOpen_223 : decode prog_8_method_54_code 223 = .ok (.aload_n 0, 1) := by decide +kernel
theorem kdX5_kemOpen_224 : decode prog_8_method_54_code 224 = .ok (.getfield 215, 3) := by decide +kernel
theorem kdX5_kemOpen_227 : decode prog_8_method_54_code 227 = .ok (.invokevirtual 274, 3) := by decide +kernel
theorem kdX5_kemOpen_230 : decode prog_8_method_54_code 230 = .ok (.aload_n 0, 1) := by decide +kernel
theorem kdX5_kemOpen_231 : decode prog_8_method_54_code 231 = .ok (.getfield 215, 3) := by decide +kernel
theorem kdX5_kemOpen_234 : decode prog_8_method_54_code 234 = .ok (.invokestatic 277, 3) := by decide +kernel
theorem kdX5_kemOpen_237 : decode prog_8_method_54_code 237 = .ok (.iastore, 1) := by decide +kernel
theorem kdX5_kemOpen_238 : decode prog_8_method_54_code 238 = .ok (.iinc 6 1, 3) := by decide +kernel
theorem kdX5_kemOpen_241 : decode prog_8_method_54_code 241 = .ok (.goto (-43), 3) := by decide +kernel
theorem kdX5_kemOpen_244 : decode prog_8_method_54_code 244 = .ok (.aload_n 0, 1) := by decide +kernel
theorem kdX5_kemOpen_245 : decode prog_8_method_54_code 245 = .ok (.aload_n 0, 1) := by decide +kernel
theorem kdX5_kemOpen_246 : decode prog_8_method_54_code 246 = .ok (.getfield 70, 3) := by decide +kernel
theorem kdX5_kemOpen_249 : decode prog_8_method_54_code 249 = .ok (.bipush 11, 2) := by decide +kernel
theorem kdX5_kemOpen_251 : decode prog_8_method_54_code 251 = .ok (.aaload, 1) := by decide +kernel
theorem kdX5_kemOpen_252 : decode prog_8_method_54_code 252 = .ok (.invokevirtual 245, 3) := by decide +kernel
theorem kdX5_kemOpen_255 : decode prog_8_method_54_code 255 = .ok (.aload_n 0, 1) := by decide +kernel
theorem kdX5_kemOpen_256 : decode prog_8_method_54_code 256 = .ok (.sipush 3072, 3) := by decide +kernel
theorem kdX5_kemOpen_259 : decode prog_8_method_54_code 259 = .ok (.iload 5, 2) := by decide +kernel
theorem kdX5_kemOpen_261 : decode prog_8_method_54_code 261 = .ok (.imul, 1) := by decide +kernel
theorem kdX5_kemOpen_262 : decode prog_8_method_54_code 262 = .ok (.putfield 202, 3) := by decide +kernel
theorem kdX5_kemOpen_265 : decode prog_8_method_54_code 265 = .ok (.iconst 0, 1) := by decide +kernel
theorem kdX5_kemOpen_266 : decode prog_8_method_54_code 266 = .ok (.istore 6, 2) := by decide +kernel
theorem kdX5_kemOpen_268 : decode prog_8_method_54_code 268 = .ok (.iload 6, 2) := by decide +kernel
theorem kdX5_kemOpen_270 : decode prog_8_method_54_code 270 = .ok (.sipush 256, 3) := by decide +kernel
theorem kdX5_kemOpen_273 : decode prog_8_method_54_code 273 = .ok (.if_icmp .ge 36, 3) := by decide +kernel
theorem kdX5_kemOpen_276 : decode prog_8_method_54_code 276 = .ok (.aload_n 0, 1) := by decide +kernel
theorem kdX5_kemOpen_277 : decode prog_8_method_54_code 277 = .ok (.getfield 70, 3) := by decide +kernel
theorem kdX5_kemOpen_280 : decode prog_8_method_54_code 280 = .ok (.bipush 12, 2) := by decide +kernel
theorem kdX5_kemOpen_282 : decode prog_8_method_54_code 282 = .ok (.aaload, 1) := by decide +kernel
theorem kdX5_kemOpen_283 : decode prog_8_method_54_code 283 = .ok (.iload 6, 2) := by decide +kernel
theorem kdX5_kemOpen_285 : decode prog_8_method_54_code 285 = .ok (.aload_n 0, 1) := by decide +kernel
theorem kdX5_kemOpen_286 : decode prog_8_method_54_code 286 = .ok (.aload_n 0, 1) := by decide +kernel
theorem kdX5_kemOpen_287 : decode prog_8_method_54_code 287 = .ok (.getfield 15, 3) := by decide +kernel
theorem kdX5_kemOpen_290 : decode prog_8_method_54_code 290 = .ok (.iconst 2, 1) := by decide +kernel
theorem kdX5_kemOpen_291 : decode prog_8_method_54_code 291 = .ok (.aaload, 1) := by decide +kernel
theorem kdX5_kemOpen_292 : decode prog_8_method_54_code 292 = .ok (.iconst 0, 1) := by decide +kernel
theorem kdX5_kemOpen_293 : decode prog_8_method_54_code 293 = .ok (.bipush 12, 2) := by decide +kernel
theorem kdX5_kemOpen_295 : decode prog_8_method_54_code 295 = .ok (.invokevirtual 274, 3) := by decide +kernel
theorem kdX5_kemOpen_298 : decode prog_8_method_54_code 298 = .ok (.sipush 3329, 3) := by decide +kernel
theorem kdX5_kemOpen_301 : decode prog_8_method_54_code 301 = .ok (.irem, 1) := by decide +kernel
theorem kdX5_kemOpen_302 : decode prog_8_method_54_code 302 = .ok (.iastore, 1) := by decide +kernel
theorem kdX5_kemOpen_303 : decode prog_8_method_54_code 303 = .ok (.iinc 6 1, 3) := by decide +kernel
theorem kdX5_kemOpen_306 : decode prog_8_method_54_code 306 = .ok (.goto (-38), 3) := by decide +kernel
theorem kdX5_kemOpen_309 : decode prog_8_method_54_code 309 = .ok (.aload_n 0, 1) := by decide +kernel
theorem kdX5_kemOpen_310 : decode prog_8_method_54_code 310 = .ok (.aload_n 0, 1) := by decide +kernel
theorem kdX5_kemOpen_311 : decode prog_8_method_54_code 311 = .ok (.getfield 70, 3) := by decide +kernel
theorem kdX5_kemOpen_314 : decode prog_8_method_54_code 314 = .ok (.bipush 10, 2) := by decide +kernel
theorem kdX5_kemOpen_316 : decode prog_8_method_54_code 316 = .ok (.aaload, 1) := by decide +kernel
theorem kdX5_kemOpen_317 : decode prog_8_method_54_code 317 = .ok (.aload_n 0, 1) := by decide +kernel
theorem kdX5_kemOpen_318 : decode prog_8_method_54_code 318 = .ok (.getfield 70, 3) := by decide +kernel
theorem kdX5_kemOpen_321 : decode prog_8_method_54_code 321 = .ok (.bipush 11, 2) := by decide +kernel
theorem kdX5_kemOpen_323 : decode prog_8_method_54_code 323 = .ok (.aaload, 1) := by decide +kernel
theorem kdX5_kemOpen_324 : decode prog_8_method_54_code 324 = .ok (.aload_n 0, 1) := by decide +kernel
theorem kdX5_kemOpen_325 : decode prog_8_method_54_code 325 = .ok (.getfield 70, 3) := by decide +kernel
theorem kdX5_kemOpen_328 : decode prog_8_method_54_code 328 = .ok (.bipush 12, 2) := by decide +kernel
theorem kdX5_kemOpen_330 : decode prog_8_method_54_code 330 = .ok (.aaload, 1) := by decide +kernel
theorem kdX5_kemOpen_331 : decode prog_8_method_54_code 331 = .ok (.invokevirtual 253, 3) := by decide +kernel
theorem kdX5_kemOpen_334 : decode prog_8_method_54_code 334 = .ok (.iinc 5 1, 3) := by decide +kernel
theorem kdX5_kemOpen_337 : decode prog_8_method_54_code 337 = .ok (.goto (-166), 3) := by decide +kernel
theorem kdX5_kemOpen_340 : decode prog_8_method_54_code 340 = .ok (.aload_n 0, 1) := by decide +kernel
theorem kdX5_kemOpen_341 : decode prog_8_method_54_code 341 = .ok (.aload_n 0, 1) := by decide +kernel
theorem kdX5_kemOpen_342 : decode prog_8_method_54_code 342 = .ok (.getfield 70, 3) := by decide +kernel
theorem kdX5_kemOpen_345 : decode prog_8_method_54_code 345 = .ok (.bipush 10, 2) := by decide +kernel
theorem kdX5_kemOpen_347 : decode prog_8_method_54_code 347 = .ok (.aaload, 1) := by decide +kernel
theorem kdX5_kemOpen_348 : decode prog_8_method_54_code 348 = .ok (.invokevirtual 268, 3) := by decide +kernel
theorem kdX5_kemOpen_351 : decode prog_8_method_54_code 351 = .ok (.aload_n 0, 1) := by decide +kernel
theorem kdX5_kemOpen_352 : decode prog_8_method_54_code 352 = .ok (.sipush 256, 3) := by decide +kernel
theorem kdX5_kemOpen_355 : decode prog_8_method_54_code 355 = .ok (.aload_n 0, 1) := by decide +kernel
theorem kdX5_kemOpen_356 : decode prog_8_method_54_code 356 = .ok (.getfield 215, 3) := by decide +kernel
theorem kdX5_kemOpen_359 : decode prog_8_method_54_code 359 = .ok (.imul, 1) := by decide +kernel
theorem kdX5_kemOpen_360 : decode prog_8_method_54_code 360 = .ok (.aload_n 0, 1) := by decide +kernel
theorem kdX5_kemOpen_361 : decode prog_8_method_54_code 361 = .ok (.getfield 209, 3) := by decide +kernel
theorem kdX5_kemOpen_364 : decode prog_8_method_54_code 364 = .ok (.imul, 1) := by decide +kernel
theorem kdX5_kemOpen_365 : decode prog_8_method_54_code 365 = .ok (.putfield 202, 3) := by decide +kernel
theorem kdX5_kemOpen_368 : decode prog_8_method_54_code 368 = .ok (.iconst 0, 1) := by decide +kernel
theorem kdX5_kemOpen_369 : decode prog_8_method_54_code 369 = .ok (.istore 5, 2) := by decide +kernel
theorem kdX5_kemOpen_371 : decode prog_8_method_54_code 371 = .ok (.iload 5, 2) := by decide +kernel
theorem kdX5_kemOpen_373 : decode prog_8_method_54_code 373 = .ok (.sipush 256, 3) := by decide +kernel
theorem kdX5_kemOpen_376 : decode prog_8_method_54_code 376 = .ok (.if_icmp .ge 41, 3) := by decide +kernel
theorem kdX5_kemOpen_379 : decode prog_8_method_54_code 379 = .ok (.aload_n 0, 1) := by decide +kernel
theorem kdX5_kemOpen_380 : decode prog_8_method_54_code 380 = .ok (.getfield 70, 3) := by decide +kernel
theorem kdX5_kemOpen_383 : decode prog_8_method_54_code 383 = .ok (.bipush 11, 2) := by decide +kernel
theorem kdX5_kemOpen_385 : decode prog_8_method_54_code 385 = .ok (.aaload, 1) := by decide +kernel
theorem kdX5_kemOpen_386 : decode prog_8_method_54_code 386 = .ok (.iload 5, 2) := by decide +kernel
theorem kdX5_kemOpen_388 : decode prog_8_method_54_code 388 = .ok (.aload_n 0, 1) := by decide +kernel
theorem kdX5_kemOpen_389 : decode prog_8_method_54_code 389 = .ok (.aload_n 0, 1) := by decide +kernel
theorem kdX5_kemOpen_390 : decode prog_8_method_54_code 390 = .ok (.getfield 15, 3) := by decide +kernel
theorem kdX5_kemOpen_393 : decode prog_8_method_54_code 393 = .ok (.iconst 5, 1) := by decide +kernel
theorem kdX5_kemOpen_394 : decode prog_8_method_54_code 394 = .ok (.aaload, 1) := by decide +kernel
theorem kdX5_kemOpen_395 : decode prog_8_method_54_code 395 = .ok (.iconst 0, 1) := by decide +kernel
theorem kdX5_kemOpen_396 : decode prog_8_method_54_code 396 = .ok (.aload_n 0, 1) := by decide +kernel
theorem kdX5_kemOpen_397 : decode prog_8_method_54_code 397 = .ok (.getfield 218, 3) := by decide +kernel
theorem kdX5_kemOpen_400 : decode prog_8_method_54_code 400 = .ok (.invokevirtual 274, 3) := by decide +kernel
theorem kdX5_kemOpen_403 : decode prog_8_method_54_code 403 = .ok (.aload_n 0, 1) := by decide +kernel
theorem kdX5_kemOpen_404 : decode prog_8_method_54_code 404 = .ok (.getfield 218, 3) := by decide +kernel
theorem kdX5_kemOpen_407 : decode prog_8_method_54_code 407 = .ok (.invokestatic 277, 3) := by decide +kernel
theorem kdX5_kemOpen_410 : decode prog_8_method_54_code 410 = .ok (.iastore, 1) := by decide +kernel
theorem kdX5_kemOpen_411 : decode prog_8_method_54_code 411 = .ok (.iinc 5 1, 3) := by decide +kernel
theorem kdX5_kemOpen_414 : decode prog_8_method_54_code 414 = .ok (.goto (-43), 3) := by decide +kernel
theorem kdX5_kemOpen_417 : decode prog_8_method_54_code 417 = .ok (.aload_n 0, 1) := by decide +kernel
theorem kdX5_kemOpen_418 : decode prog_8_method_54_code 418 = .ok (.iconst 0, 1) := by decide +kernel
theorem kdX5_kemOpen_419 : decode prog_8_method_54_code 419 = .ok (.putfield 202, 3) := by decide +kernel
theorem kdX5_kemOpen_422 : decode prog_8_method_54_code 422 = .ok (.iconst 0, 1) := by decide +kernel
theorem kdX5_kemOpen_423 : decode prog_8_method_54_code 423 = .ok (.istore 5, 2) := by decide +kernel
theorem kdX5_kemOpen_425 : decode prog_8_method_54_code 425 = .ok (.iload 5, 2) := by decide +kernel
theorem kdX5_kemOpen_427 : decode prog_8_method_54_code 427 = .ok (.sipush 256, 3) := by decide +kernel
theorem kdX5_kemOpen_430 : decode prog_8_method_54_code 430 = .ok (.if_icmp .ge 52, 3) := by decide +kernel
theorem kdX5_kemOpen_433 : decode prog_8_method_54_code 433 = .ok (.aload_n 0, 1) := by decide +kernel
theorem kdX5_kemOpen_434 : decode prog_8_method_54_code 434 = .ok (.aload_n 0, 1) := by decide +kernel
theorem kdX5_kemOpen_435 : decode prog_8_method_54_code 435 = .ok (.getfield 85, 3) := by decide +kernel
theorem kdX5_kemOpen_438 : decode prog_8_method_54_code 438 = .ok (.iconst 0, 1) := by decide +kernel
theorem kdX5_kemOpen_439 : decode prog_8_method_54_code 439 = .ok (.aload_n 0, 1) := by decide +kernel
theorem kdX5_kemOpen_440 : decode prog_8_method_54_code 440 = .ok (.getfield 70, 3) := by decide +kernel
theorem kdX5_kemOpen_443 : decode prog_8_method_54_code 443 = .ok (.bipush 11, 2) := by decide +kernel
theorem kdX5_kemOpen_445 : decode prog_8_method_54_code 445 = .ok (.aaload, 1) := by decide +kernel
theorem kdX5_kemOpen_446 : decode prog_8_method_54_code 446 = .ok (.iload 5, 2) := by decide +kernel
theorem kdX5_kemOpen_448 : decode prog_8_method_54_code 448 = .ok (.iaload, 1) := by decide +kernel
theorem kdX5_kemOpen_449 : decode prog_8_method_54_code 449 = .ok (.aload_n 0, 1) := by decide +kernel
theorem kdX5_kemOpen_450 : decode prog_8_method_54_code 450 = .ok (.getfield 70, 3) := by decide +kernel
theorem kdX5_kemOpen_453 : decode prog_8_method_54_code 453 = .ok (.bipush 10, 2) := by decide +kernel
theorem kdX5_kemOpen_455 : decode prog_8_method_54_code 455 = .ok (.aaload, 1) := by decide +kernel
theorem kdX5_kemOpen_456 : decode prog_8_method_54_code 456 = .ok (.iload 5, 2) := by decide +kernel
theorem kdX5_kemOpen_458 : decode prog_8_method_54_code 458 = .ok (.iaload, 1) := by decide +kernel
theorem kdX5_kemOpen_459 : decode prog_8_method_54_code 459 = .ok (.isub, 1) := by decide +kernel
theorem kdX5_kemOpen_460 : decode prog_8_method_54_code 460 = .ok (.sipush 3329, 3) := by decide +kernel
theorem kdX5_kemOpen_463 : decode prog_8_method_54_code 463 = .ok (.iadd, 1) := by decide +kernel
theorem kdX5_kemOpen_464 : decode prog_8_method_54_code 464 = .ok (.sipush 3329, 3) := by decide +kernel
theorem kdX5_kemOpen_467 : decode prog_8_method_54_code 467 = .ok (.irem, 1) := by decide +kernel
theorem kdX5_kemOpen_468 : decode prog_8_method_54_code 468 = .ok (.iconst 1, 1) := by decide +kernel
theorem kdX5_kemOpen_469 : decode prog_8_method_54_code 469 = .ok (.invokestatic 271, 3) := by decide +kernel
theorem kdX5_kemOpen_472 : decode prog_8_method_54_code 472 = .ok (.iconst 1, 1) := by decide +kernel
theorem kdX5_kemOpen_473 : decode prog_8_method_54_code 473 = .ok (.invokevirtual 257, 3) := by decide +kernel
theorem kdX5_kemOpen_476 : decode prog_8_method_54_code 476 = .ok (.iinc 5 1, 3) := by decide +kernel
theorem kdX5_kemOpen_479 : decode prog_8_method_54_code 479 = .ok (.goto (-54), 3) := by decide +kernel
theorem kdX5_kemOpen_482 : decode prog_8_method_54_code 482 = .ok (.aload_n 0, 1) := by decide +kernel
theorem kdX5_kemOpen_483 : decode prog_8_method_54_code 483 = .ok (.bipush 10, 2) := by decide +kernel
theorem kdX5_kemOpen_485 : decode prog_8_method_54_code 485 = .ok (.invokevirtual 134, 3) := by decide +kernel
theorem kdX5_kemOpen_488 : decode prog_8_method_54_code 488 = .ok (.aload_n 0, 1) := by decide +kernel
theorem kdX5_kemOpen_489 : decode prog_8_method_54_code 489 = .ok (.aload_n 0, 1) := by decide +kernel
theorem kdX5_kemOpen_490 : decode prog_8_method_54_code 490 = .ok (.getfield 85, 3) := by decide +kernel
theorem kdX5_kemOpen_493 : decode prog_8_method_54_code 493 = .ok (.iconst 0, 1) := by decide +kernel
theorem kdX5_kemOpen_494 : decode prog_8_method_54_code 494 = .ok (.bipush 32, 2) := by decide +kernel
theorem kdX5_kemOpen_496 : decode prog_8_method_54_code 496 = .ok (.invokevirtual 228, 3) := by decide +kernel
theorem kdX5_kemOpen_499 : decode prog_8_method_54_code 499 = .ok (.aload_n 0, 1) := by decide +kernel
theorem kdX5_kemOpen_500 : decode prog_8_method_54_code 500 = .ok (.aload_n 0, 1) := by decide +kernel
theorem kdX5_kemOpen_501 : decode prog_8_method_54_code 501 = .ok (.getfield 15, 3) := by decide +kernel
theorem kdX5_kemOpen_504 : decode prog_8_method_54_code 504 = .ok (.iconst 2, 1) := by decide +kernel
theorem kdX5_kemOpen_505 : decode prog_8_method_54_code 505 = .ok (.aaload, 1) := by decide +kernel
theorem kdX5_kemOpen_506 : decode prog_8_method_54_code 506 = .ok (.iconst 2, 1) := by decide +kernel
theorem kdX5_kemOpen_507 : decode prog_8_method_54_code 507 = .ok (.iload_n 2, 1) := by decide +kernel
theorem kdX5_kemOpen_508 : decode prog_8_method_54_code 508 = .ok (.imul, 1) := by decide +kernel
theorem kdX5_kemOpen_509 : decode prog_8_method_54_code 509 = .ok (.bipush 32, 2) := by decide +kernel
theorem kdX5_kemOpen_511 : decode prog_8_method_54_code 511 = .ok (.iadd, 1) := by decide +kernel
theorem kdX5_kemOpen_512 : decode prog_8_method_54_code 512 = .ok (.bipush 32, 2) := by decide +kernel
theorem kdX5_kemOpen_514 : decode prog_8_method_54_code 514 = .ok (.invokevirtual 228, 3) := by decide +kernel
theorem kdX5_kemOpen_517 : decode prog_8_method_54_code 517 = .ok (.aload_n 0, 1) := by decide +kernel
theorem kdX5_kemOpen_518 : decode prog_8_method_54_code 518 = .ok (.aload_n 0, 1) := by decide +kernel
theorem kdX5_kemOpen_519 : decode prog_8_method_54_code 519 = .ok (.getfield 73, 3) := by decide +kernel
theorem kdX5_kemOpen_522 : decode prog_8_method_54_code 522 = .ok (.bipush 64, 2) := by decide +kernel
theorem kdX5_kemOpen_524 : decode prog_8_method_54_code 524 = .ok (.bipush 64, 2) := by decide +kernel
theorem kdX5_kemOpen_526 : decode prog_8_method_54_code 526 = .ok (.invokevirtual 231, 3) := by decide +kernel
theorem kdX5_kemOpen_529 : decode prog_8_method_54_code 529 = .ok (.aload_n 0, 1) := by decide +kernel
theorem kdX5_kemOpen_530 : decode prog_8_method_54_code 530 = .ok (.aload_n 0, 1) := by decide +kernel
theorem kdX5_kemOpen_531 : decode prog_8_method_54_code 531 = .ok (.aload_n 0, 1) := by decide +kernel
theorem kdX5_kemOpen_532 : decode prog_8_method_54_code 532 = .ok (.getfield 15, 3) := by decide +kernel
theorem kdX5_kemOpen_535 : decode prog_8_method_54_code 535 = .ok (.iconst 2, 1) := by decide +kernel
theorem kdX5_kemOpen_536 : decode prog_8_method_54_code 536 = .ok (.aaload, 1) := by decide +kernel
theorem kdX5_kemOpen_537 : decode prog_8_method_54_code 537 = .ok (.iload_n 2, 1) := by decide +kernel
theorem kdX5_kemOpen_538 : decode prog_8_method_54_code 538 = .ok (.aload_n 0, 1) := by decide +kernel
theorem kdX5_kemOpen_539 : decode prog_8_method_54_code 539 = .ok (.getfield 85, 3) := by decide +kernel
theorem kdX5_kemOpen_542 : decode prog_8_method_54_code 542 = .ok (.aload_n 0, 1) := by decide +kernel
theorem kdX5_kemOpen_543 : decode prog_8_method_54_code 543 = .ok (.getfield 73, 3) := by decide +kernel
theorem kdX5_kemOpen_546 : decode prog_8_method_54_code 546 = .ok (.bipush 96, 2) := by decide +kernel
theorem kdX5_kemOpen_548 : decode prog_8_method_54_code 548 = .ok (.invokevirtual 280, 3) := by decide +kernel
theorem kdX5_kemOpen_551 : decode prog_8_method_54_code 551 = .ok (.iconst 3, 1) := by decide +kernel
theorem kdX5_kemOpen_552 : decode prog_8_method_54_code 552 = .ok (.invokevirtual 98, 3) := by decide +kernel
theorem kdX5_kemOpen_555 : decode prog_8_method_54_code 555 = .ok (.ifCond .ne 5, 3) := by decide +kernel
theorem kdX5_kemOpen_558 : decode prog_8_method_54_code 558 = .ok (.iconst 0, 1) := by decide +kernel
theorem kdX5_kemOpen_559 : decode prog_8_method_54_code 559 = .ok (.ireturn, 1) := by decide +kernel
theorem kdX5_kemOpen_560 : decode prog_8_method_54_code 560 = .ok (.aload_n 0, 1) := by decide +kernel
theorem kdX5_kemOpen_561 : decode prog_8_method_54_code 561 = .ok (.getfield 82, 3) := by decide +kernel
theorem kdX5_kemOpen_564 : decode prog_8_method_54_code 564 = .ok (.iconst 0, 1) := by decide +kernel
theorem kdX5_kemOpen_565 : decode prog_8_method_54_code 565 = .ok (.aload_n 0, 1) := by decide +kernel
theorem kdX5_kemOpen_566 : decode prog_8_method_54_code 566 = .ok (.getfield 15, 3) := by decide +kernel
theorem kdX5_kemOpen_569 : decode prog_8_method_54_code 569 = .ok (.iconst 5, 1) := by decide +kernel
theorem kdX5_kemOpen_570 : decode prog_8_method_54_code 570 = .ok (.aaload, 1) := by decide +kernel
theorem kdX5_kemOpen_571 : decode prog_8_method_54_code 571 = .ok (.iconst 0, 1) := by decide +kernel
theorem kdX5_kemOpen_572 : decode prog_8_method_54_code 572 = .ok (.iload_n 3, 1) := by decide +kernel
theorem kdX5_kemOpen_573 : decode prog_8_method_54_code 573 = .ok (.invokestatic 284, 3) := by decide +kernel
theorem kdX5_kemOpen_576 : decode prog_8_method_54_code 576 = .ok (.istore 5, 2) := by decide +kernel
theorem kdX5_kemOpen_578 : decode prog_8_method_54_code 578 = .ok (.iload 5, 2) := by decide +kernel
theorem kdX5_kemOpen_580 : decode prog_8_method_54_code 580 = .ok (.ifCond .eq 25, 3) := by decide +kernel
theorem kdX5_kemOpen_583 : decode prog_8_method_54_code 583 = .ok (.aload_n 0, 1) := by decide +kernel
theorem kdX5_kemOpen_584 : decode prog_8_method_54_code 584 = .ok (.getfield 73, 3) := by decide +kernel
theorem kdX5_kemOpen_587 : decode prog_8_method_54_code 587 = .ok (.bipush 64, 2) := by decide +kernel
theorem kdX5_kemOpen_589 : decode prog_8_method_54_code 589 = .ok (.aload_n 0, 1) := by decide +kernel
theorem kdX5_kemOpen_590 : decode prog_8_method_54_code 590 = .ok (.getfield 15, 3) := by decide +kernel
theorem kdX5_kemOpen_593 : decode prog_8_method_54_code 593 = .ok (.bipush 6, 2) := by decide +kernel
theorem kdX5_kemOpen_595 : decode prog_8_method_54_code 595 = .ok (.aaload, 1) := by decide +kernel
theorem kdX5_kemOpen_596 : decode prog_8_method_54_code 596 = .ok (.iconst 0, 1) := by decide +kernel
theorem kdX5_kemOpen_597 : decode prog_8_method_54_code 597 = .ok (.bipush 32, 2) := by decide +kernel
theorem kdX5_kemOpen_599 : decode prog_8_method_54_code 599 = .ok (.invokestatic 261, 3) := by decide +kernel
theorem kdX5_kemOpen_602 : decode prog_8_method_54_code 602 = .ok (.goto 53, 3) := by decide +kernel
theorem kdX5_kemOpen_605 : decode prog_8_method_54_code 605 = .ok (.aload_n 0, 1) := by decide +kernel
theorem kdX5_kemOpen_606 : decode prog_8_method_54_code 606 = .ok (.bipush 12, 2) := by decide +kernel
theorem kdX5_kemOpen_608 : decode prog_8_method_54_code 608 = .ok (.invokevirtual 134, 3) := by decide +kernel
theorem kdX5_kemOpen_611 : decode prog_8_method_54_code 611 = .ok (.aload_n 0, 1) := by decide +kernel
theorem kdX5_kemOpen_612 : decode prog_8_method_54_code 612 = .ok (.aload_n 0, 1) := by decide +kernel
theorem kdX5_kemOpen_613 : decode prog_8_method_54_code 613 = .ok (.getfield 15, 3) := by decide +kernel
theorem kdX5_kemOpen_616 : decode prog_8_method_54_code 616 = .ok (.iconst 2, 1) := by decide +kernel
theorem kdX5_kemOpen_617 : decode prog_8_method_54_code 617 = .ok (.aaload, 1) := by decide +kernel
theorem kdX5_kemOpen_618 : decode prog_8_method_54_code 618 = .ok (.iconst 2, 1) := by decide +kernel
theorem kdX5_kemOpen_619 : decode prog_8_method_54_code 619 = .ok (.iload_n 2, 1) := by decide +kernel
theorem kdX5_kemOpen_620 : decode prog_8_method_54_code 620 = .ok (.imul, 1) := by decide +kernel
theorem kdX5_kemOpen_621 : decode prog_8_method_54_code 621 = .ok (.bipush 64, 2) := by decide +kernel
theorem kdX5_kemOpen_623 : decode prog_8_method_54_code 623 = .ok (.iadd, 1) := by decide +kernel
theorem kdX5_kemOpen_624 : decode prog_8_method_54_code 624 = .ok (.bipush 32, 2) := by decide +kernel
theorem kdX5_kemOpen_626 : decode prog_8_method_54_code 626 = .ok (.invokevirtual 228, 3) := by decide +kernel
theorem kdX5_kemOpen_629 : decode prog_8_method_54_code 629 = .ok (.aload_n 0, 1) := by decide +kernel
theorem kdX5_kemOpen_630 : decode prog_8_method_54_code 630 = .ok (.aload_n 0, 1) := by decide +kernel
theorem kdX5_kemOpen_631 : decode prog_8_method_54_code 631 = .ok (.getfield 15, 3) := by decide +kernel
theorem kdX5_kemOpen_634 : decode prog_8_method_54_code 634 = .ok (.iconst 5, 1) := by decide +kernel
theorem kdX5_kemOpen_635 : decode prog_8_method_54_code 635 = .ok (.aaload, 1) := by decide +kernel
theorem kdX5_kemOpen_636 : decode prog_8_method_54_code 636 = .ok (.iconst 0, 1) := by decide +kernel
theorem kdX5_kemOpen_637 : decode prog_8_method_54_code 637 = .ok (.iload_n 3, 1) := by decide +kernel
theorem kdX5_kemOpen_638 : decode prog_8_method_54_code 638 = .ok (.invokevirtual 228, 3) := by decide +kernel
theorem kdX5_kemOpen_641 : decode prog_8_method_54_code 641 = .ok (.aload_n 0, 1) := by decide +kernel
theorem kdX5_kemOpen_642 : decode prog_8_method_54_code 642 = .ok (.aload_n 0, 1) := by decide +kernel
theorem kdX5_kemOpen_643 : decode prog_8_method_54_code 643 = .ok (.getfield 15, 3) := by decide +kernel
theorem kdX5_kemOpen_646 : decode prog_8_method_54_code 646 = .ok (.bipush 6, 2) := by decide +kernel
theorem kdX5_kemOpen_648 : decode prog_8_method_54_code 648 = .ok (.aaload, 1) := by decide +kernel
theorem kdX5_kemOpen_649 : decode prog_8_method_54_code 649 = .ok (.iconst 0, 1) := by decide +kernel
theorem kdX5_kemOpen_650 : decode prog_8_method_54_code 650 = .ok (.bipush 32, 2) := by decide +kernel
theorem kdX5_kemOpen_652 : decode prog_8_method_54_code 652 = .ok (.invokevirtual 231, 3) := by decide +kernel
theorem kdX5_kemOpen_655 : decode prog_8_method_54_code 655 = .ok (.aload_n 0, 1) := by decide +kernel
theorem kdX5_kemOpen_656 : decode prog_8_method_54_code 656 = .ok (.getfield 18, 3) := by decide +kernel
theorem kdX5_kemOpen_659 : decode prog_8_method_54_code 659 = .ok (.bipush 6, 2) := by decide +kernel
theorem kdX5_kemOpen_661 : decode prog_8_method_54_code 661 = .ok (.bipush 32, 2) := by decide +kernel
theorem kdX5_kemOpen_663 : decode prog_8_method_54_code 663 = .ok (.iastore, 1) := by decide +kernel
theorem kdX5_kemOpen_664 : decode prog_8_method_54_code 664 = .ok (.iload 5, 2) := by decide +kernel
theorem kdX5_kemOpen_666 : decode prog_8_method_54_code 666 = .ok (.ifCond .eq 7, 3) := by decide +kernel
theorem kdX5_kemOpen_669 : decode prog_8_method_54_code 669 = .ok (.iconst 1, 1) := by decide +kernel
theorem kdX5_kemOpen_670 : decode prog_8_method_54_code 670 = .ok (.goto 4, 3) := by decide +kernel
theorem kdX5_kemOpen_673 : decode prog_8_method_54_code 673 = .ok (.iconst 0, 1) := by decide +kernel
theorem kdX5_kemOpen_674 : decode prog_8_method_54_code 674 = .ok (.ireturn, 1) := by decide +kernel
