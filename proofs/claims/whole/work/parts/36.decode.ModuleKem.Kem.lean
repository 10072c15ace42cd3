theorem kdX1_init_0 : decode prog_3_method_1_code 0 = .ok (.aload_n 0, 1) := by decide +kernel
theorem kdX1_init_1 : decode prog_3_method_1_code 1 = .ok (.invokespecial 3, 3) := by decide +kernel
theorem kdX1_init_4 : decode prog_3_method_1_code 4 = .ok (.aload_n 0, 1) := by decide +kernel
theorem kdX1_init_5 : decode prog_3_method_1_code 5 = .ok (.new 9, 3) := by decide +kernel
theorem kdX1_init_8 : decode prog_3_method_1_code 8 = .ok (.dup, 1) := by decide +kernel
theorem kdX1_init_9 : decode prog_3_method_1_code 9 = .ok (.invokespecial 11, 3) := by decide +kernel
theorem kdX1_init_12 : decode prog_3_method_1_code 12 = .ok (.putfield 12, 3) := by decide +kernel
theorem kdX1_init_15 : decode prog_3_method_1_code 15 = .ok (.aload_n 0, 1) := by decide +kernel
theorem kdX1_init_16 : decode prog_3_method_1_code 16 = .ok (.new 18, 3) := by decide +kernel
theorem kdX1_init_19 : decode prog_3_method_1_code 19 = .ok (.dup, 1) := by decide +kernel
theorem kdX1_init_20 : decode prog_3_method_1_code 20 = .ok (.invokespecial 20, 3) := by decide +kernel
theorem kdX1_init_23 : decode prog_3_method_1_code 23 = .ok (.putfield 21, 3) := by decide +kernel
theorem kdX1_init_26 : decode prog_3_method_1_code 26 = .ok (.aload_n 0, 1) := by decide +kernel
theorem kdX1_init_27 : decode prog_3_method_1_code 27 = .ok (.bipush 16, 2) := by decide +kernel
theorem kdX1_init_29 : decode prog_3_method_1_code 29 = .ok (.sipush 256, 3) := by decide +kernel
theorem kdX1_init_32 : decode prog_3_method_1_code 32 = .ok (.multianewarray 25 2, 4) := by decide +kernel
theorem kdX1_init_36 : decode prog_3_method_1_code 36 = .ok (.putfield 27, 3) := by decide +kernel
theorem kdX1_init_39 : decode prog_3_method_1_code 39 = .ok (.aload_n 0, 1) := by decide +kernel
theorem kdX1_init_40 : decode prog_3_method_1_code 40 = .ok (.iconst 4, 1) := by decide +kernel
theorem kdX1_init_41 : decode prog_3_method_1_code 41 = .ok (.sipush 256, 3) := by decide +kernel
theorem kdX1_init_44 : decode prog_3_method_1_code 44 = .ok (.multianewarray 25 2, 4) := by decide +kernel
theorem kdX1_init_48 : decode prog_3_method_1_code 48 = .ok (.putfield 30, 3) := by decide +kernel
theorem kdX1_init_51 : decode prog_3_method_1_code 51 = .ok (.aload_n 0, 1) := by decide +kernel
theorem kdX1_init_52 : decode prog_3_method_1_code 52 = .ok (.sipush 256, 3) := by decide +kernel
theorem kdX1_init_55 : decode prog_3_method_1_code 55 = .ok (.newarray .int, 2) := by decide +kernel
theorem kdX1_init_57 : decode prog_3_method_1_code 57 = .ok (.putfield 33, 3) := by decide +kernel
theorem kdX1_init_60 : decode prog_3_method_1_code 60 = .ok (.aload_n 0, 1) := by decide +kernel
theorem kdX1_init_61 : decode prog_3_method_1_code 61 = .ok (.sipush 256, 3) := by decide +kernel
theorem kdX1_init_64 : decode prog_3_method_1_code 64 = .ok (.newarray .int, 2) := by decide +kernel
theorem kdX1_init_66 : decode prog_3_method_1_code 66 = .ok (.putfield 37, 3) := by decide +kernel
theorem kdX1_init_69 : decode prog_3_method_1_code 69 = .ok (.aload_n 0, 1) := by decide +kernel
theorem kdX1_init_70 : decode prog_3_method_1_code 70 = .ok (.iconst 2, 1) := by decide +kernel
theorem kdX1_init_71 : decode prog_3_method_1_code 71 = .ok (.newarray .byte, 2) := by decide +kernel
theorem kdX1_init_73 : decode prog_3_method_1_code 73 = .ok (.putfield 40, 3) := by decide +kernel
theorem kdX1_init_76 : decode prog_3_method_1_code 76 = .ok (.aload_n 0, 1) := by decide +kernel
theorem kdX1_init_77 : decode prog_3_method_1_code 77 = .ok (.iconst 3, 1) := by decide +kernel
theorem kdX1_init_78 : decode prog_3_method_1_code 78 = .ok (.newarray .byte, 2) := by decide +kernel
theorem kdX1_init_80 : decode prog_3_method_1_code 80 = .ok (.putfield 44, 3) := by decide +kernel
theorem kdX1_init_83 : decode prog_3_method_1_code 83 = .ok (.aload_n 0, 1) := by decide +kernel
theorem kdX1_init_84 : decode prog_3_method_1_code 84 = .ok (.sipush 192, 3) := by decide +kernel
theorem kdX1_init_87 : decode prog_3_method_1_code 87 = .ok (.newarray .byte, 2) := by decide +kernel
theorem kdX1_init_89 : decode prog_3_method_1_code 89 = .ok (.putfield 47, 3) := by decide +kernel
theorem kdX1_init_92 : decode prog_3_method_1_code 92 = .ok (.aload_n 0, 1) := by decide +kernel
theorem kdX1_init_93 : decode prog_3_method_1_code 93 = .ok (.bipush 32, 2) := by decide +kernel
theorem kdX1_init_95 : decode prog_3_method_1_code 95 = .ok (.newarray .byte, 2) := by decide +kernel
theorem kdX1_init_97 : decode prog_3_method_1_code 97 = .ok (.putfield 50, 3) := by decide +kernel
theorem kdX1_init_100 : decode prog_3_method_1_code 100 = .ok (.aload_n 0, 1) := by decide +kernel
theorem kdX1_init_101 : decode prog_3_method_1_code 101 = .ok (.bipush 32, 2) := by decide +kernel
theorem kdX1_init_103 : decode prog_3_method_1_code 103 = .ok (.newarray .byte, 2) := by decide +kernel
theorem kdX1_init_105 : decode prog_3_method_1_code 105 = .ok (.putfield 53, 3) := by decide +kernel
theorem kdX1_init_108 : decode prog_3_method_1_code 108 = .ok (.aload_n 0, 1) := by decide +kernel
theorem kdX1_init_109 : decode prog_3_method_1_code 109 = .ok (.sipush 1568, 3) := by decide +kernel
theorem kdX1_init_112 : decode prog_3_method_1_code 112 = .ok (.newarray .byte, 2) := by decide +kernel
theorem kdX1_init_114 : decode prog_3_method_1_code 114 = .ok (.putfield 56, 3) := by decide +kernel
theorem kdX1_init_117 : decode prog_3_method_1_code 117 = .ok (.aload_n 0, 1) := by decide +kernel
theorem kdX1_init_118 : decode prog_3_method_1_code 118 = .ok (.bipush 64, 2) := by decide +kernel
theorem kdX1_init_120 : decode prog_3_method_1_code 120 = .ok (.newarray .byte, 2) := by decide +kernel
theorem kdX1_init_122 : decode prog_3_method_1_code 122 = .ok (.putfield 59, 3) := by decide +kernel
theorem kdX1_init_125 : decode prog_3_method_1_code 125 = .ok (.return_, 1) := by decide +kernel
theorem kdX1_makeKeys_0 : decode prog_3_method_2_code 0 = .ok (.aload_n 1, 1) := by decide +kernel
theorem kdX1_makeKeys_1 : decode prog_3_method_2_code 1 = .ok (.getfield 62, 3) := by decide +kernel
theorem kdX1_makeKeys_4 : decode prog_3_method_2_code 4 = .ok (.istore 5, 2) := by decide +kernel
theorem kdX1_makeKeys_6 : decode prog_3_method_2_code 6 = .ok (.aload_n 0, 1) := by decide +kernel
theorem kdX1_makeKeys_7 : decode prog_3_method_2_code 7 = .ok (.getfield 12, 3) := by decide +kernel
theorem kdX1_makeKeys_10 : decode prog_3_method_2_code 10 = .ok (.bipush 72, 2) := by decide +kernel
theorem kdX1_makeKeys_12 : decode prog_3_method_2_code 12 = .ok (.invokevirtual 68, 3) := by decide +kernel
theorem kdX1_makeKeys_15 : decode prog_3_method_2_code 15 = .ok (.aload_n 0, 1) := by decide +kernel
theorem kdX1_makeKeys_16 : decode prog_3_method_2_code 16 = .ok (.getfield 12, 3) := by decide +kernel
theorem kdX1_makeKeys_19 : decode prog_3_method_2_code 19 = .ok (.aload_n 2, 1) := by decide +kernel
theorem kdX1_makeKeys_20 : decode prog_3_method_2_code 20 = .ok (.iconst 0, 1) := by decide +kernel
theorem kdX1_makeKeys_21 : decode prog_3_method_2_code 21 = .ok (.bipush 32, 2) := by decide +kernel
theorem kdX1_makeKeys_23 : decode prog_3_method_2_code 23 = .ok (.invokevirtual 72, 3) := by decide +kernel
theorem kdX1_makeKeys_26 : decode prog_3_method_2_code 26 = .ok (.aload_n 0, 1) := by decide +kernel
theorem kdX1_makeKeys_27 : decode prog_3_method_2_code 27 = .ok (.getfield 40, 3) := by decide +kernel
theorem kdX1_makeKeys_30 : decode prog_3_method_2_code 30 = .ok (.iconst 0, 1) := by decide +kernel
theorem kdX1_makeKeys_31 : decode prog_3_method_2_code 31 = .ok (.iload 5, 2) := by decide +kernel
theorem kdX1_makeKeys_33 : decode prog_3_method_2_code 33 = .ok (.i2b, 1) := by decide +kernel
theorem kdX1_makeKeys_34 : decode prog_3_method_2_code 34 = .ok (.bastore, 1) := by decide +kernel
theorem kdX1_makeKeys_35 : decode prog_3_method_2_code 35 = .ok (.aload_n 0, 1) := by decide +kernel
theorem kdX1_makeKeys_36 : decode prog_3_method_2_code 36 = .ok (.getfield 12, 3) := by decide +kernel
theorem kdX1_makeKeys_39 : decode prog_3_method_2_code 39 = .ok (.aload_n 0, 1) := by decide +kernel
theorem kdX1_makeKeys_40 : decode prog_3_method_2_code 40 = .ok (.getfield 40, 3) := by decide +kernel
theorem kdX1_makeKeys_43 : decode prog_3_method_2_code 43 = .ok (.iconst 0, 1) := by decide +kernel
theorem kdX1_makeKeys_44 : decode prog_3_method_2_code 44 = .ok (.iconst 1, 1) := by decide +kernel
theorem kdX1_makeKeys_45 : decode prog_3_method_2_code 45 = .ok (.invokevirtual 72, 3) := by decide +kernel
theorem kdX1_makeKeys_48 : decode prog_3_method_2_code 48 = .ok (.aload_n 0, 1) := by decide +kernel
theorem kdX1_makeKeys_49 : decode prog_3_method_2_code 49 = .ok (.getfield 12, 3) := by decide +kernel
theorem kdX1_makeKeys_52 : decode prog_3_method_2_code 52 = .ok (.bipush 6, 2) := by decide +kernel
theorem kdX1_makeKeys_54 : decode prog_3_method_2_code 54 = .ok (.invokevirtual 76, 3) := by decide +kernel
theorem kdX1_makeKeys_57 : decode prog_3_method_2_code 57 = .ok (.aload_n 0, 1) := by decide +kernel
theorem kdX1_makeKeys_58 : decode prog_3_method_2_code 58 = .ok (.getfield 12, 3) := by decide +kernel
theorem kdX1_makeKeys_61 : decode prog_3_method_2_code 61 = .ok (.aload_n 0, 1) := by decide +kernel
theorem kdX1_makeKeys_62 : decode prog_3_method_2_code 62 = .ok (.getfield 59, 3) := by decide +kernel
theorem kdX1_makeKeys_65 : decode prog_3_method_2_code 65 = .ok (.iconst 0, 1) := by decide +kernel
theorem kdX1_makeKeys_66 : decode prog_3_method_2_code 66 = .ok (.bipush 64, 2) := by decide +kernel
theorem kdX1_makeKeys_68 : decode prog_3_method_2_code 68 = .ok (.invokevirtual 79, 3) := by decide +kernel
theorem kdX1_makeKeys_71 : decode prog_3_method_2_code 71 = .ok (.aload_n 0, 1) := by decide +kernel
theorem kdX1_makeKeys_72 : decode prog_3_method_2_code 72 = .ok (.iload 5, 2) := by decide +kernel
theorem kdX1_makeKeys_74 : decode prog_3_method_2_code 74 = .ok (.aload_n 0, 1) := by decide +kernel
theorem kdX1_makeKeys_75 : decode prog_3_method_2_code 75 = .ok (.getfield 59, 3) := by decide +kernel
theorem kdX1_makeKeys_78 : decode prog_3_method_2_code 78 = .ok (.iconst 0, 1) := by decide +kernel
theorem kdX1_makeKeys_79 : decode prog_3_method_2_code 79 = .ok (.invokevirtual 82, 3) := by decide +kernel
theorem kdX1_makeKeys_82 : decode prog_3_method_2_code 82 = .ok (.aload_n 0, 1) := by decide +kernel
theorem kdX1_makeKeys_83 : decode prog_3_method_2_code 83 = .ok (.aload_n 1, 1) := by decide +kernel
theorem kdX1_makeKeys_84 : decode prog_3_method_2_code 84 = .ok (.invokevirtual 86, 3) := by decide +kernel
theorem kdX1_makeKeys_87 : decode prog_3_method_2_code 87 = .ok (.iconst 0, 1) := by decide +kernel
theorem kdX1_makeKeys_88 : decode prog_3_method_2_code 88 = .ok (.istore 6, 2) := by decide +kernel
theorem kdX1_makeKeys_90 : decode prog_3_method_2_code 90 = .ok (.iload 6, 2) := by decide +kernel
theorem kdX1_makeKeys_92 : decode prog_3_method_2_code 92 = .ok (.iload 5, 2) := by decide +kernel
theorem kdX1_makeKeys_94 : decode prog_3_method_2_code 94 = .ok (.if_icmp .ge 120, 3) := by decide +kernel
theorem kdX1_makeKeys_97 : decode prog_3_method_2_code 97 = .ok (.aload_n 0, 1) := by decide +kernel
theorem kdX1_makeKeys_98 : decode prog_3_method_2_code 98 = .ok (.aload_n 0, 1) := by decide +kernel
theorem kdX1_makeKeys_99 : decode prog_3_method_2_code 99 = .ok (.getfield 33, 3) := by decide +kernel
theorem kdX1_makeKeys_102 : decode prog_3_method_2_code 102 = .ok (.aload_n 1, 1) := by decide +kernel
theorem kdX1_makeKeys_103 : decode prog_3_method_2_code 103 = .ok (.getfield 90, 3) := by decide +kernel
theorem kdX1_makeKeys_106 : decode prog_3_method_2_code 106 = .ok (.iload 5, 2) := by decide +kernel
theorem kdX1_makeKeys_108 : decode prog_3_method_2_code 108 = .ok (.iload 6, 2) := by decide +kernel
theorem kdX1_makeKeys_110 : decode prog_3_method_2_code 110 = .ok (.iadd, 1) := by decide +kernel
theorem kdX1_makeKeys_111 : decode prog_3_method_2_code 111 = .ok (.invokevirtual 93, 3) := by decide +kernel
theorem kdX1_makeKeys_114 : decode prog_3_method_2_code 114 = .ok (.aload_n 0, 1) := by decide +kernel
theorem kdX1_makeKeys_115 : decode prog_3_method_2_code 115 = .ok (.getfield 21, 3) := by decide +kernel
theorem kdX1_makeKeys_118 : decode prog_3_method_2_code 118 = .ok (.aload_n 0, 1) := by decide +kernel
theorem kdX1_makeKeys_119 : decode prog_3_method_2_code 119 = .ok (.getfield 33, 3) := by decide +kernel
theorem kdX1_makeKeys_122 : decode prog_3_method_2_code 122 = .ok (.invokevirtual 97, 3) := by decide +kernel
theorem kdX1_makeKeys_125 : decode prog_3_method_2_code 125 = .ok (.iconst 0, 1) := by decide +kernel
theorem kdX1_makeKeys_126 : decode prog_3_method_2_code 126 = .ok (.istore 7, 2) := by decide +kernel
theorem kdX1_makeKeys_128 : decode prog_3_method_2_code 128 = .ok (.iload 7, 2) := by decide +kernel
theorem kdX1_makeKeys_130 : decode prog_3_method_2_code 130 = .ok (.iload 5, 2) := by decide +kernel
theorem kdX1_makeKeys_132 : decode prog_3_method_2_code 132 = .ok (.if_icmp .ge 40, 3) := by decide +kernel
theorem kdX1_makeKeys_135 : decode prog_3_method_2_code 135 = .ok (.aload_n 0, 1) := by decide +kernel
theorem kdX1_makeKeys_136 : decode prog_3_method_2_code 136 = .ok (.getfield 21, 3) := by decide +kernel
theorem kdX1_makeKeys_139 : decode prog_3_method_2_code 139 = .ok (.aload_n 0, 1) := by decide +kernel
theorem kdX1_makeKeys_140 : decode prog_3_method_2_code 140 = .ok (.getfield 33, 3) := by decide +kernel
theorem kdX1_makeKeys_143 : decode prog_3_method_2_code 143 = .ok (.aload_n 0, 1) := by decide +kernel
theorem kdX1_makeKeys_144 : decode prog_3_method_2_code 144 = .ok (.getfield 27, 3) := by decide +kernel
theorem kdX1_makeKeys_147 : decode prog_3_method_2_code 147 = .ok (.iload 6, 2) := by decide +kernel
theorem kdX1_makeKeys_149 : decode prog_3_method_2_code 149 = .ok (.iload 5, 2) := by decide +kernel
theorem kdX1_makeKeys_151 : decode prog_3_method_2_code 151 = .ok (.imul, 1) := by decide +kernel
theorem kdX1_makeKeys_152 : decode prog_3_method_2_code 152 = .ok (.iload 7, 2) := by decide +kernel
theorem kdX1_makeKeys_154 : decode prog_3_method_2_code 154 = .ok (.iadd, 1) := by decide +kernel
theorem kdX1_makeKeys_155 : decode prog_3_method_2_code 155 = .ok (.aaload, 1) := by decide +kernel
theorem kdX1_makeKeys_156 : decode prog_3_method_2_code 156 = .ok (.aload_n 0, 1) := by decide +kernel
theorem kdX1_makeKeys_157 : decode prog_3_method_2_code 157 = .ok (.getfield 30, 3) := by decide +kernel
theorem kdX1_makeKeys_160 : decode prog_3_method_2_code 160 = .ok (.iload 7, 2) := by decide +kernel
theorem kdX1_makeKeys_162 : decode prog_3_method_2_code 162 = .ok (.aaload, 1) := by decide +kernel
theorem kdX1_makeKeys_163 : decode prog_3_method_2_code 163 = .ok (.invokevirtual 101, 3) := by decide +kernel
theorem kdX1_makeKeys_166 : decode prog_3_method_2_code 166 = .ok (.iinc 7 1, 3) := by decide +kernel
theorem kdX1_makeKeys_169 : decode prog_3_method_2_code 169 = .ok (.goto (-41), 3) := by decide +kernel
theorem kdX1_makeKeys_172 : decode prog_3_method_2_code 172 = .ok (.aload_n 0, 1) := by decide +kernel
theorem kdX1_makeKeys_173 : decode prog_3_method_2_code 173 = .ok (.getfield 33, 3) := by decide +kernel
theorem kdX1_makeKeys_176 : decode prog_3_method_2_code 176 = .ok (.bipush 12, 2) := by decide +kernel
theorem kdX1_makeKeys_178 : decode prog_3_method_2_code 178 = .ok (.aload_n 3, 1) := by decide +kernel
theorem kdX1_makeKeys_179 : decode prog_3_method_2_code 179 = .ok (.sipush 384, 3) := by decide +kernel
theorem kdX1_makeKeys_182 : decode prog_3_method_2_code 182 = .ok (.iload 6, 2) := by decide +kernel
theorem kdX1_makeKeys_184 : decode prog_3_method_2_code 184 = .ok (.imul, 1) := by decide +kernel
theorem kdX1_makeKeys_185 : decode prog_3_method_2_code 185 = .ok (.invokestatic 105, 3) := by decide +kernel
theorem kdX1_makeKeys_188 : decode prog_3_method_2_code 188 = .ok (.aload_n 0, 1) := by decide +kernel
theorem kdX1_makeKeys_189 : decode prog_3_method_2_code 189 = .ok (.getfield 30, 3) := by decide +kernel
theorem kdX1_makeKeys_192 : decode prog_3_method_2_code 192 = .ok (.iload 6, 2) := by decide +kernel
theorem kdX1_makeKeys_194 : decode prog_3_method_2_code 194 = .ok (.aaload, 1) := by decide +kernel
theorem kdX1_makeKeys_195 : decode prog_3_method_2_code 195 = .ok (.bipush 12, 2) := by decide +kernel
theorem kdX1_makeKeys_197 : decode prog_3_method_2_code 197 = .ok (.aload 4, 2) := by decide +kernel
theorem kdX1_makeKeys_199 : decode prog_3_method_2_code 199 = .ok (.sipush 384, 3) := by decide +kernel
theorem kdX1_makeKeys_202 : decode prog_3_method_2_code 202 = .ok (.iload 6, 2) := by decide +kernel
theorem kdX1_makeKeys_204 : decode prog_3_method_2_code 204 = .ok (.imul, 1) := by decide +kernel
theorem kdX1_makeKeys_205 : decode prog_3_method_2_code 205 = .ok (.invokestatic 105, 3) := by decide +kernel
theorem kdX1_makeKeys_208 : decode prog_3_method_2_code 208 = .ok (.iinc 6 1, 3) := by decide +kernel
theorem kdX1_makeKeys_211 : decode prog_3_method_2_code 211 = .ok (.goto (-121), 3) := by decide +kernel
theorem kdX1_makeKeys_214 : decode prog_3_method_2_code 214 = .ok (.aload_n 0, 1) := by decide +kernel
theorem kdX1_makeKeys_215 : decode prog_3_method_2_code 215 = .ok (.getfield 59, 3) := by decide +kernel
theorem kdX1_makeKeys_218 : decode prog_3_method_2_code 218 = .ok (.iconst 0, 1) := by decide +kernel
theorem kdX1_makeKeys_219 : decode prog_3_method_2_code 219 = .ok (.aload_n 3, 1) := by decide +kernel
theorem kdX1_makeKeys_220 : decode prog_3_method_2_code 220 = .ok (.aload_n 1, 1) := by decide +kernel
theorem kdX1_makeKeys_221 : decode prog_3_method_2_code 221 = .ok (.invokevirtual 111, 3) := by decide +kernel
theorem kdX1_makeKeys_224 : decode prog_3_method_2_code 224 = .ok (.bipush 32, 2) := by decide +kernel
theorem kdX1_makeKeys_226 : decode prog_3_method_2_code 226 = .ok (.invokestatic 115, 3) := by decide +kernel
theorem kdX1_makeKeys_229 : decode prog_3_method_2_code 229 = .ok (.aload_n 3, 1) := by decide +kernel
theorem kdX1_makeKeys_230 : decode prog_3_method_2_code 230 = .ok (.iconst 0, 1) := by decide +kernel
theorem kdX1_makeKeys_231 : decode prog_3_method_2_code 231 = .ok (.aload 4, 2) := by decide +kernel
theorem kdX1_makeKeys_233 : decode prog_3_method_2_code 233 = .ok (.aload_n 1, 1) := by decide +kernel
theorem kdX1_makeKeys_234 : decode prog_3_method_2_code 234 = .ok (.invokevirtual 111, 3) := by decide +kernel
theorem kdX1_makeKeys_237 : decode prog_3_method_2_code 237 = .ok (.aload_n 1, 1) := by decide +kernel
theorem kdX1_makeKeys_238 : decode prog_3_method_2_code 238 = .ok (.invokevirtual 121, 3) := by decide +kernel
theorem kdX1_makeKeys_241 : decode prog_3_method_2_code 241 = .ok (.invokestatic 115, 3) := by decide +kernel
theorem kdX1_makeKeys_244 : decode prog_3_method_2_code 244 = .ok (.aload_n 0, 1) := by decide +kernel
theorem kdX1_makeKeys_245 : decode prog_3_method_2_code 245 = .ok (.aload_n 3, 1) := by decide +kernel
theorem kdX1_makeKeys_246 : decode prog_3_method_2_code 246 = .ok (.iconst 0, 1) := by decide +kernel
theorem kdX1_makeKeys_247 : decode prog_3_method_2_code 247 = .ok (.aload_n 1, 1) := by decide +kernel
theorem kdX1_makeKeys_248 : decode prog_3_method_2_code 248 = .ok (.invokevirtual 121, 3) := by decide +kernel
theorem kdX1_makeKeys_251 : decode prog_3_method_2_code 251 = .ok (.invokevirtual 124, 3) := by decide +kernel
theorem kdX1_makeKeys_254 : decode prog_3_method_2_code 254 = .ok (.aload_n 0, 1) := by decide +kernel
theorem kdX1_makeKeys_255 : decode prog_3_method_2_code 255 = .ok (.getfield 50, 3) := by decide +kernel
theorem kdX1_makeKeys_258 : decode prog_3_method_2_code 258 = .ok (.iconst 0, 1) := by decide +kernel
theorem kdX1_makeKeys_259 : decode prog_3_method_2_code 259 = .ok (.aload 4, 2) := by decide +kernel
theorem kdX1_makeKeys_261 : decode prog_3_method_2_code 261 = .ok (.aload_n 1, 1) := by decide +kernel
theorem kdX1_makeKeys_262 : decode prog_3_method_2_code 262 = .ok (.invokevirtual 127, 3) := by decide +kernel
theorem kdX1_makeKeys_265 : decode prog_3_method_2_code 265 = .ok (.bipush 32, 2) := by decide +kernel
theorem kdX1_makeKeys_267 : decode prog_3_method_2_code 267 = .ok (.invokestatic 115, 3) := by decide +kernel
theorem kdX1_makeKeys_270 : decode prog_3_method_2_code 270 = .ok (.aload_n 2, 1) := by decide +kernel
theorem kdX1_makeKeys_271 : decode prog_3_method_2_code 271 = .ok (.bipush 32, 2) := by decide +kernel
theorem kdX1_makeKeys_273 : decode prog_3_method_2_code 273 = .ok (.aload 4, 2) := by decide +kernel
theorem kdX1_makeKeys_275 : decode prog_3_method_2_code 275 = .ok (.aload_n 1, 1) := by decide +kernel
theorem kdX1_makeKeys_276 : decode prog_3_method_2_code 276 = .ok (.invokevirtual 127, 3) := by decide +kernel
theorem kdX1_makeKeys_279 : decode prog_3_method_2_code 279 = .ok (.bipush 32, 2) := by decide +kernel
theorem kdX1_makeKeys_281 : decode prog_3_method_2_code 281 = .ok (.iadd, 1) := by decide +kernel
theorem kdX1_makeKeys_282 : decode prog_3_method_2_code 282 = .ok (.bipush 32, 2) := by decide +kernel
theorem kdX1_makeKeys_284 : decode prog_3_method_2_code 284 = .ok (.invokestatic 115, 3) := by decide +kernel
theorem kdX1_makeKeys_287 : decode prog_3_method_2_code 287 = .ok (.return_, 1) := by decide +kernel
theorem kdX1_isReduced_0 : decode prog_3_method_3_code 0 = .ok (.iconst 0, 1) := by decide +kernel
theorem kdX1_isReduced_1 : decode prog_3_method_3_code 1 = .ok (.istore_n 3, 1) := by decide +kernel
theorem kdX1_isReduced_2 : decode prog_3_method_3_code 2 = .ok (.iload_n 3, 1) := by decide +kernel
theorem kdX1_isReduced_3 : decode prog_3_method_3_code 3 = .ok (.aload_n 1, 1) := by decide +kernel
theorem kdX1_isReduced_4 : decode prog_3_method_3_code 4 = .ok (.getfield 62, 3) := by decide +kernel
theorem kdX1_isReduced_7 : decode prog_3_method_3_code 7 = .ok (.if_icmp .ge 56, 3) := by decide +kernel
theorem kdX1_isReduced_10 : decode prog_3_method_3_code 10 = .ok (.aload_n 2, 1) := by decide +kernel
theorem kdX1_isReduced_11 : decode prog_3_method_3_code 11 = .ok (.sipush 384, 3) := by decide +kernel
theorem kdX1_isReduced_14 : decode prog_3_method_3_code 14 = .ok (.iload_n 3, 1) := by decide +kernel
theorem kdX1_isReduced_15 : decode prog_3_method_3_code 15 = .ok (.imul, 1) := by decide +kernel
theorem kdX1_isReduced_16 : decode prog_3_method_3_code 16 = .ok (.bipush 12, 2) := by decide +kernel
theorem kdX1_isReduced_18 : decode prog_3_method_3_code 18 = .ok (.aload_n 0, 1) := by decide +kernel
theorem kdX1_isReduced_19 : decode prog_3_method_3_code 19 = .ok (.getfield 37, 3) := by decide +kernel
theorem kdX1_isReduced_22 : decode prog_3_method_3_code 22 = .ok (.invokestatic 130, 3) := by decide +kernel
theorem kdX1_isReduced_25 : decode prog_3_method_3_code 25 = .ok (.iconst 0, 1) := by decide +kernel
theorem kdX1_isReduced_26 : decode prog_3_method_3_code 26 = .ok (.istore 4, 2) := by decide +kernel
theorem kdX1_isReduced_28 : decode prog_3_method_3_code 28 = .ok (.iload 4, 2) := by decide +kernel
theorem kdX1_isReduced_30 : decode prog_3_method_3_code 30 = .ok (.sipush 256, 3) := by decide +kernel
theorem kdX1_isReduced_33 : decode prog_3_method_3_code 33 = .ok (.if_icmp .ge 24, 3) := by decide +kernel
theorem kdX1_isReduced_36 : decode prog_3_method_3_code 36 = .ok (.aload_n 0, 1) := by decide +kernel
theorem kdX1_isReduced_37 : decode prog_3_method_3_code 37 = .ok (.getfield 37, 3) := by decide +kernel
theorem kdX1_isReduced_40 : decode prog_3_method_3_code 40 = .ok (.iload 4, 2) := by decide +kernel
theorem kdX1_isReduced_42 : decode prog_3_method_3_code 42 = .ok (.iaload, 1) := by decide +kernel
theorem kdX1_isReduced_43 : decode prog_3_method_3_code 43 = .ok (.sipush 3329, 3) := by decide +kernel
theorem kdX1_isReduced_46 : decode prog_3_method_3_code 46 = .ok (.if_icmp .lt 5, 3) := by decide +kernel
theorem kdX1_isReduced_49 : decode prog_3_method_3_code 49 = .ok (.iconst 0, 1) := by decide +kernel
theorem kdX1_isReduced_50 : decode prog_3_method_3_code 50 = .ok (.ireturn, 1) := by decide +kernel
theorem kdX1_isReduced_51 : decode prog_3_method_3_code 51 = .ok (.iinc 4 1, 3) := by decide +kernel
theorem kdX1_isReduced_54 : decode prog_3_method_3_code 54 = .ok (.goto (-26), 3) := by decide +kernel
theorem kdX1_isReduced_57 : decode prog_3_method_3_code 57 = .ok (.iinc 3 1, 3) := by decide +kernel
theorem kdX1_isReduced_60 : decode prog_3_method_3_code 60 = .ok (.goto (-58), 3) := by decide +kernel
theorem kdX1_isReduced_63 : decode prog_3_method_3_code 63 = .ok (.iconst 1, 1) := by decide +kernel
theorem kdX1_isReduced_64 : decode prog_3_method_3_code 64 = .ok (.ireturn, 1) := by decide +kernel
theorem kdX1_wrap_0 : decode prog_3_method_4_code 0 = .ok (.aload_n 0, 1) := by decide +kernel
theorem kdX1_wrap_1 : decode prog_3_method_4_code 1 = .ok (.aload_n 2, 1) := by decide +kernel
theorem kdX1_wrap_2 : decode prog_3_method_4_code 2 = .ok (.iconst 0, 1) := by decide +kernel
theorem kdX1_wrap_3 : decode prog_3_method_4_code 3 = .ok (.aload_n 1, 1) := by decide +kernel
theorem kdX1_wrap_4 : decode prog_3_method_4_code 4 = .ok (.invokevirtual 121, 3) := by decide +kernel
theorem kdX1_wrap_7 : decode prog_3_method_4_code 7 = .ok (.invokevirtual 124, 3) := by decide +kernel
theorem kdX1_wrap_10 : decode prog_3_method_4_code 10 = .ok (.aload_n 0, 1) := by decide +kernel
theorem kdX1_wrap_11 : decode prog_3_method_4_code 11 = .ok (.aload_n 3, 1) := by decide +kernel
theorem kdX1_wrap_12 : decode prog_3_method_4_code 12 = .ok (.aload_n 0, 1) := by decide +kernel
theorem kdX1_wrap_13 : decode prog_3_method_4_code 13 = .ok (.getfield 50, 3) := by decide +kernel
theorem kdX1_wrap_16 : decode prog_3_method_4_code 16 = .ok (.iconst 0, 1) := by decide +kernel
theorem kdX1_wrap_17 : decode prog_3_method_4_code 17 = .ok (.invokevirtual 134, 3) := by decide +kernel
theorem kdX1_wrap_20 : decode prog_3_method_4_code 20 = .ok (.aload_n 0, 1) := by decide +kernel
theorem kdX1_wrap_21 : decode prog_3_method_4_code 21 = .ok (.aload_n 1, 1) := by decide +kernel
theorem kdX1_wrap_22 : decode prog_3_method_4_code 22 = .ok (.aload_n 2, 1) := by decide +kernel
theorem kdX1_wrap_23 : decode prog_3_method_4_code 23 = .ok (.iconst 0, 1) := by decide +kernel
theorem kdX1_wrap_24 : decode prog_3_method_4_code 24 = .ok (.aload_n 3, 1) := by decide +kernel
theorem kdX1_wrap_25 : decode prog_3_method_4_code 25 = .ok (.invokevirtual 138, 3) := by decide +kernel
theorem kdX1_wrap_28 : decode prog_3_method_4_code 28 = .ok (.aload_n 0, 1) := by decide +kernel
theorem kdX1_wrap_29 : decode prog_3_method_4_code 29 = .ok (.getfield 56, 3) := by decide +kernel
theorem kdX1_wrap_32 : decode prog_3_method_4_code 32 = .ok (.iconst 0, 1) := by decide +kernel
theorem kdX1_wrap_33 : decode prog_3_method_4_code 33 = .ok (.aload 4, 2) := by decide +kernel
theorem kdX1_wrap_35 : decode prog_3_method_4_code 35 = .ok (.iconst 0, 1) := by decide +kernel
theorem kdX1_wrap_36 : decode prog_3_method_4_code 36 = .ok (.aload_n 1, 1) := by decide +kernel
theorem kdX1_wrap_37 : decode prog_3_method_4_code 37 = .ok (.invokevirtual 142, 3) := by decide +kernel
theorem kdX1_wrap_40 : decode prog_3_method_4_code 40 = .ok (.invokestatic 115, 3) := by decide +kernel
theorem kdX1_wrap_43 : decode prog_3_method_4_code 43 = .ok (.aload_n 0, 1) := by decide +kernel
theorem kdX1_wrap_44 : decode prog_3_method_4_code 44 = .ok (.getfield 59, 3) := by decide +kernel
theorem kdX1_wrap_47 : decode prog_3_method_4_code 47 = .ok (.iconst 0, 1) := by decide +kernel
theorem kdX1_wrap_48 : decode prog_3_method_4_code 48 = .ok (.aload 5, 2) := by decide +kernel
theorem kdX1_wrap_50 : decode prog_3_method_4_code 50 = .ok (.iconst 0, 1) := by decide +kernel
theorem kdX1_wrap_51 : decode prog_3_method_4_code 51 = .ok (.bipush 32, 2) := by decide +kernel
theorem kdX1_wrap_53 : decode prog_3_method_4_code 53 = .ok (.invokestatic 115, 3) := by decide +kernel
theorem kdX1_wrap_56 : decode prog_3_method_4_code 56 = .ok (.return_, 1) := by decide +kernel
theorem kdX1_holdsItsHash_0 : decode prog_3_method_5_code 0 = .ok (.aload_n 0, 1) := by decide +kernel
theorem kdX1_holdsItsHash_1 : decode prog_3_method_5_code 1 = .ok (.aload_n 2, 1) := by decide +kernel
theorem kdX1_holdsItsHash_2 : decode prog_3_method_5_code 2 = .ok (.aload_n 1, 1) := by decide +kernel
theorem kdX1_holdsItsHash_3 : decode prog_3_method_5_code 3 = .ok (.invokevirtual 111, 3) := by decide +kernel
theorem kdX1_holdsItsHash_6 : decode prog_3_method_5_code 6 = .ok (.aload_n 1, 1) := by decide +kernel
theorem kdX1_holdsItsHash_7 : decode prog_3_method_5_code 7 = .ok (.invokevirtual 121, 3) := by decide +kernel
theorem kdX1_holdsItsHash_10 : decode prog_3_method_5_code 10 = .ok (.invokevirtual 124, 3) := by decide +kernel
theorem kdX1_holdsItsHash_13 : decode prog_3_method_5_code 13 = .ok (.aload_n 2, 1) := by decide +kernel
theorem kdX1_holdsItsHash_14 : decode prog_3_method_5_code 14 = .ok (.aload_n 1, 1) := by decide +kernel
theorem kdX1_holdsItsHash_15 : decode prog_3_method_5_code 15 = .ok (.invokevirtual 127, 3) := by decide +kernel
theorem kdX1_holdsItsHash_18 : decode prog_3_method_5_code 18 = .ok (.aload_n 0, 1) := by decide +kernel
theorem kdX1_holdsItsHash_19 : decode prog_3_method_5_code 19 = .ok (.getfield 50, 3) := by decide +kernel
theorem kdX1_holdsItsHash_22 : decode prog_3_method_5_code 22 = .ok (.bipush 32, 2) := by decide +kernel
theorem kdX1_holdsItsHash_24 : decode prog_3_method_5_code 24 = .ok (.invokestatic 145, 3) := by decide +kernel
theorem kdX1_holdsItsHash_27 : decode prog_3_method_5_code 27 = .ok (.ireturn, 1) := by decide +kernel
theorem kdX1_open_0 : decode prog_3_method_6_code 0 = .ok (.aload_n 0, 1) := by decide +kernel
theorem kdX1_open_1 : decode prog_3_method_6_code 1 = .ok (.aload_n 1, 1) := by decide +kernel
theorem kdX1_open_2 : decode prog_3_method_6_code 2 = .ok (.aload_n 2, 1) := by decide +kernel
theorem kdX1_open_3 : decode prog_3_method_6_code 3 = .ok (.aload_n 3, 1) := by decide +kernel
theorem kdX1_open_4 : decode prog_3_method_6_code 4 = .ok (.invokevirtual 149, 3) := by decide +kernel
theorem kdX1_open_7 : decode prog_3_method_6_code 7 = .ok (.aload_n 0, 1) := by decide +kernel
theorem kdX1_open_8 : decode prog_3_method_6_code 8 = .ok (.aload_n 0, 1) := by decide +kernel
theorem kdX1_open_9 : decode prog_3_method_6_code 9 = .ok (.getfield 53, 3) := by decide +kernel
theorem kdX1_open_12 : decode prog_3_method_6_code 12 = .ok (.aload_n 2, 1) := by decide +kernel
theorem kdX1_open_13 : decode prog_3_method_6_code 13 = .ok (.aload_n 1, 1) := by decide +kernel
theorem kdX1_open_14 : decode prog_3_method_6_code 14 = .ok (.invokevirtual 127, 3) := by decide +kernel
theorem kdX1_open_17 : decode prog_3_method_6_code 17 = .ok (.invokevirtual 134, 3) := by decide +kernel
theorem kdX1_open_20 : decode prog_3_method_6_code 20 = .ok (.aload_n 0, 1) := by decide +kernel
theorem kdX1_open_21 : decode prog_3_method_6_code 21 = .ok (.aload_n 1, 1) := by decide +kernel
theorem kdX1_open_22 : decode prog_3_method_6_code 22 = .ok (.aload_n 2, 1) := by decide +kernel
theorem kdX1_open_23 : decode prog_3_method_6_code 23 = .ok (.aload_n 1, 1) := by decide +kernel
theorem kdX1_open_24 : decode prog_3_method_6_code 24 = .ok (.invokevirtual 111, 3) := by decide +kernel
theorem kdX1_open_27 : decode prog_3_method_6_code 27 = .ok (.aload_n 0, 1) := by decide +kernel
theorem kdX1_open_28 : decode prog_3_method_6_code 28 = .ok (.getfield 53, 3) := by decide +kernel
theorem kdX1_open_31 : decode prog_3_method_6_code 31 = .ok (.invokevirtual 138, 3) := by decide +kernel
theorem kdX1_open_34 : decode prog_3_method_6_code 34 = .ok (.aload_n 3, 1) := by decide +kernel
theorem kdX1_open_35 : decode prog_3_method_6_code 35 = .ok (.iconst 0, 1) := by decide +kernel
theorem kdX1_open_36 : decode prog_3_method_6_code 36 = .ok (.aload_n 0, 1) := by decide +kernel
theorem kdX1_open_37 : decode prog_3_method_6_code 37 = .ok (.getfield 56, 3) := by decide +kernel
theorem kdX1_open_40 : decode prog_3_method_6_code 40 = .ok (.aload_n 1, 1) := by decide +kernel
theorem kdX1_open_41 : decode prog_3_method_6_code 41 = .ok (.invokevirtual 142, 3) := by decide +kernel
theorem kdX1_open_44 : decode prog_3_method_6_code 44 = .ok (.invokestatic 145, 3) := by decide +kernel
theorem kdX1_open_47 : decode prog_3_method_6_code 47 = .ok (.istore 5, 2) := by decide +kernel
theorem kdX1_open_49 : decode prog_3_method_6_code 49 = .ok (.iload 5, 2) := by decide +kernel
theorem kdX1_open_51 : decode prog_3_method_6_code 51 = .ok (.ifCond .eq 19, 3) := by decide +kernel
theorem kdX1_open_54 : decode prog_3_method_6_code 54 = .ok (.aload_n 0, 1) := by decide +kernel
theorem kdX1_open_55 : decode prog_3_method_6_code 55 = .ok (.getfield 59, 3) := by decide +kernel
theorem kdX1_open_58 : decode prog_3_method_6_code 58 = .ok (.iconst 0, 1) := by decide +kernel
theorem kdX1_open_59 : decode prog_3_method_6_code 59 = .ok (.aload 4, 2) := by decide +kernel
theorem kdX1_open_61 : decode prog_3_method_6_code 61 = .ok (.iconst 0, 1) := by decide +kernel
theorem kdX1_open_62 : decode prog_3_method_6_code 62 = .ok (.bipush 32, 2) := by decide +kernel
theorem kdX1_open_64 : decode prog_3_method_6_code 64 = .ok (.invokestatic 115, 3) := by decide +kernel
theorem kdX1_open_67 : decode prog_3_method_6_code 67 = .ok (.goto 64, 3) := by decide +kernel
theorem kdX1_open_70 : decode prog_3_method_6_code 70 = .ok (.aload_n 0, 1) := by decide +kernel
theorem kdX1_open_71 : decode prog_3_method_6_code 71 = .ok (.getfield 12, 3) := by decide +kernel
theorem kdX1_open_74 : decode prog_3_method_6_code 74 = .ok (.sipush 136, 3) := by decide +kernel
theorem kdX1_open_77 : decode prog_3_method_6_code 77 = .ok (.invokevirtual 68, 3) := by decide +kernel
theorem kdX1_open_80 : decode prog_3_method_6_code 80 = .ok (.aload_n 0, 1) := by decide +kernel
theorem kdX1_open_81 : decode prog_3_method_6_code 81 = .ok (.getfield 12, 3) := by decide +kernel
theorem kdX1_open_84 : decode prog_3_method_6_code 84 = .ok (.aload_n 2, 1) := by decide +kernel
theorem kdX1_open_85 : decode prog_3_method_6_code 85 = .ok (.aload_n 1, 1) := by decide +kernel
theorem kdX1_open_86 : decode prog_3_method_6_code 86 = .ok (.invokevirtual 127, 3) := by decide +kernel
theorem kdX1_open_89 : decode prog_3_method_6_code 89 = .ok (.bipush 32, 2) := by decide +kernel
theorem kdX1_open_91 : decode prog_3_method_6_code 91 = .ok (.iadd, 1) := by decide +kernel
theorem kdX1_open_92 : decode prog_3_method_6_code 92 = .ok (.bipush 32, 2) := by decide +kernel
theorem kdX1_open_94 : decode prog_3_method_6_code 94 = .ok (.invokevirtual 72, 3) := by decide +kernel
theorem kdX1_open_97 : decode prog_3_method_6_code 97 = .ok (.aload_n 0, 1) := by decide +kernel
theorem kdX1_open_98 : decode prog_3_method_6_code 98 = .ok (.getfield 12, 3) := by decide +kernel
theorem kdX1_open_101 : decode prog_3_method_6_code 101 = .ok (.aload_n 3, 1) := by decide +kernel
theorem kdX1_open_102 : decode prog_3_method_6_code 102 = .ok (.iconst 0, 1) := by decide +kernel
theorem kdX1_open_103 : decode prog_3_method_6_code 103 = .ok (.aload_n 1, 1) := by decide +kernel
theorem kdX1_open_104 : decode prog_3_method_6_code 104 = .ok (.invokevirtual 142, 3) := by decide +kernel
theorem kdX1_open_107 : decode prog_3_method_6_code 107 = .ok (.invokevirtual 72, 3) := by decide +kernel
theorem kdX1_open_110 : decode prog_3_method_6_code 110 = .ok (.aload_n 0, 1) := by decide +kernel
theorem kdX1_open_111 : decode prog_3_method_6_code 111 = .ok (.getfield 12, 3) := by decide +kernel
theorem kdX1_open_114 : decode prog_3_method_6_code 114 = .ok (.bipush 31, 2) := by decide +kernel
theorem kdX1_open_116 : decode prog_3_method_6_code 116 = .ok (.invokevirtual 76, 3) := by decide +kernel
theorem kdX1_open_119 : decode prog_3_method_6_code 119 = .ok (.aload_n 0, 1) := by decide +kernel
theorem kdX1_open_120 : decode prog_3_method_6_code 120 = .ok (.getfield 12, 3) := by decide +kernel
theorem kdX1_open_123 : decode prog_3_method_6_code 123 = .ok (.aload 4, 2) := by decide +kernel
theorem kdX1_open_125 : decode prog_3_method_6_code 125 = .ok (.iconst 0, 1) := by decide +kernel
theorem kdX1_open_126 : decode prog_3_method_6_code 126 = .ok (.bipush 32, 2) := by decide +kernel
theorem kdX1_open_128 : decode prog_3_method_6_code 128 = .ok (.invokevirtual 79, 3) := by decide +kernel
theorem kdX1_open_131 : decode prog_3_method_6_code 131 = .ok (.iload 5, 2) := by decide +kernel
theorem kdX1_open_133 : decode prog_3_method_6_code 133 = .ok (.ireturn, 1) := by decide +kernel
theorem kdX1_recoverMessage_0 : decode prog_3_method_7_code 0 = .ok (.aload_n 0, 1) := by decide +kernel
theorem kdX1_recoverMessage_1 : decode prog_3_method_7_code 1 = .ok (.getfield 33, 3) := by decide +kernel
theorem kdX1_recoverMessage_4 : decode prog_3_method_7_code 4 = .ok (.invokestatic 153, 3) := by decide +kernel
theorem kdX1_recoverMessage_7 : decode prog_3_method_7_code 7 = .ok (.iconst 0, 1) := by decide +kernel
theorem kdX1_recoverMessage_8 : decode prog_3_method_7_code 8 = .ok (.istore 4, 2) := by decide +kernel
theorem kdX1_recoverMessage_10 : decode prog_3_method_7_code 10 = .ok (.iload 4, 2) := by decide +kernel
theorem kdX1_recoverMessage_12 : decode prog_3_method_7_code 12 = .ok (.aload_n 1, 1) := by decide +kernel
theorem kdX1_recoverMessage_13 : decode prog_3_method_7_code 13 = .ok (.getfield 62, 3) := by decide +kernel
theorem kdX1_recoverMessage_16 : decode prog_3_method_7_code 16 = .ok (.if_icmp .ge 81, 3) := by decide +kernel
theorem kdX1_recoverMessage_19 : decode prog_3_method_7_code 19 = .ok (.aload_n 3, 1) := by decide +kernel
theorem kdX1_recoverMessage_20 : decode prog_3_method_7_code 20 = .ok (.aload_n 1, 1) := by decide +kernel
theorem kdX1_recoverMessage_21 : decode prog_3_method_7_code 21 = .ok (.invokevirtual 156, 3) := by decide +kernel
theorem kdX1_recoverMessage_24 : decode prog_3_method_7_code 24 = .ok (.iload 4, 2) := by decide +kernel
theorem kdX1_recoverMessage_26 : decode prog_3_method_7_code 26 = .ok (.imul, 1) := by decide +kernel
theorem kdX1_recoverMessage_27 : decode prog_3_method_7_code 27 = .ok (.aload_n 1, 1) := by decide +kernel
theorem kdX1_recoverMessage_28 : decode prog_3_method_7_code 28 = .ok (.getfield 159, 3) := by decide +kernel
theorem kdX1_recoverMessage_31 : decode prog_3_method_7_code 31 = .ok (.aload_n 0, 1) := by decide +kernel
theorem kdX1_recoverMessage_32 : decode prog_3_method_7_code 32 = .ok (.getfield 30, 3) := by decide +kernel
theorem kdX1_recoverMessage_35 : decode prog_3_method_7_code 35 = .ok (.iload 4, 2) := by decide +kernel
theorem kdX1_recoverMessage_37 : decode prog_3_method_7_code 37 = .ok (.aaload, 1) := by decide +kernel
theorem kdX1_recoverMessage_38 : decode prog_3_method_7_code 38 = .ok (.invokestatic 162, 3) := by decide +kernel
theorem kdX1_recoverMessage_41 : decode prog_3_method_7_code 41 = .ok (.aload_n 0, 1) := by decide +kernel
theorem kdX1_recoverMessage_42 : decode prog_3_method_7_code 42 = .ok (.getfield 21, 3) := by decide +kernel
theorem kdX1_recoverMessage_45 : decode prog_3_method_7_code 45 = .ok (.aload_n 0, 1) := by decide +kernel
theorem kdX1_recoverMessage_46 : decode prog_3_method_7_code 46 = .ok (.getfield 30, 3) := by decide +kernel
theorem kdX1_recoverMessage_49 : decode prog_3_method_7_code 49 = .ok (.iload 4, 2) := by decide +kernel
theorem kdX1_recoverMessage_51 : decode prog_3_method_7_code 51 = .ok (.aaload, 1) := by decide +kernel
theorem kdX1_recoverMessage_52 : decode prog_3_method_7_code 52 = .ok (.invokevirtual 97, 3) := by decide +kernel
theorem kdX1_recoverMessage_55 : decode prog_3_method_7_code 55 = .ok (.aload_n 2, 1) := by decide +kernel
theorem kdX1_recoverMessage_56 : decode prog_3_method_7_code 56 = .ok (.sipush 384, 3) := by decide +kernel
theorem kdX1_recoverMessage_59 : decode prog_3_method_7_code 59 = .ok (.iload 4, 2) := by decide +kernel
theorem kdX1_recoverMessage_61 : decode prog_3_method_7_code 61 = .ok (.imul, 1) := by decide +kernel
theorem kdX1_recoverMessage_62 : decode prog_3_method_7_code 62 = .ok (.aload_n 0, 1) := by decide +kernel
theorem kdX1_recoverMessage_63 : decode prog_3_method_7_code 63 = .ok (.getfield 37, 3) := by decide +kernel
theorem kdX1_recoverMessage_66 : decode prog_3_method_7_code 66 = .ok (.invokestatic 165, 3) := by decide +kernel
theorem kdX1_recoverMessage_69 : decode prog_3_method_7_code 69 = .ok (.aload_n 0, 1) := by decide +kernel
theorem kdX1_recoverMessage_70 : decode prog_3_method_7_code 70 = .ok (.getfield 21, 3) := by decide +kernel
theorem kdX1_recoverMessage_73 : decode prog_3_method_7_code 73 = .ok (.aload_n 0, 1) := by decide +kernel
theorem kdX1_recoverMessage_74 : decode prog_3_method_7_code 74 = .ok (.getfield 33, 3) := by decide +kernel
theorem kdX1_recoverMessage_77 : decode prog_3_method_7_code 77 = .ok (.aload_n 0, 1) := by decide +kernel
theorem kdX1_recoverMessage_78 : decode prog_3_method_7_code 78 = .ok (.getfield 37, 3) := by decide +kernel
theorem kdX1_recoverMessage_81 : decode prog_3_method_7_code 81 = .ok (.aload_n 0, 1) := by decide +kernel
theorem kdX1_recoverMessage_82 : decode prog_3_method_7_code 82 = .ok (.getfield 30, 3) := by decide +kernel
theorem kdX1_recoverMessage_85 : decode prog_3_method_7_code 85 = .ok (.iload 4, 2) := by decide +kernel
theorem kdX1_recoverMessage_87 : decode prog_3_method_7_code 87 = .ok (.aaload, 1) := by decide +kernel
theorem kdX1_recoverMessage_88 : decode prog_3_method_7_code 88 = .ok (.invokevirtual 101, 3) := by decide +kernel
theorem kdX1_recoverMessage_91 : decode prog_3_method_7_code 91 = .ok (.iinc 4 1, 3) := by decide +kernel
theorem kdX1_recoverMessage_94 : decode prog_3_method_7_code 94 = .ok (.goto (-84), 3) := by decide +kernel
theorem kdX1_recoverMessage_97 : decode prog_3_method_7_code 97 = .ok (.aload_n 0, 1) := by decide +kernel
theorem kdX1_recoverMessage_98 : decode prog_3_method_7_code 98 = .ok (.getfield 21, 3) := by decide +kernel
theorem kdX1_recoverMessage_101 : decode prog_3_method_7_code 101 = .ok (.aload_n 0, 1) := by decide +kernel
theorem kdX1_recoverMessage_102 : decode prog_3_method_7_code 102 = .ok (.getfield 33, 3) := by decide +kernel
theorem kdX1_recoverMessage_105 : decode prog_3_method_7_code 105 = .ok (.invokevirtual 169, 3) := by decide +kernel
theorem kdX1_recoverMessage_108 : decode prog_3_method_7_code 108 = .ok (.aload_n 3, 1) := by decide +kernel
theorem kdX1_recoverMessage_109 : decode prog_3_method_7_code 109 = .ok (.aload_n 1, 1) := by decide +kernel
theorem kdX1_recoverMessage_110 : decode prog_3_method_7_code 110 = .ok (.invokevirtual 172, 3) := by decide +kernel
theorem kdX1_recoverMessage_113 : decode prog_3_method_7_code 113 = .ok (.aload_n 1, 1) := by decide +kernel
theorem kdX1_recoverMessage_114 : decode prog_3_method_7_code 114 = .ok (.getfield 175, 3) := by decide +kernel
theorem kdX1_recoverMessage_117 : decode prog_3_method_7_code 117 = .ok (.aload_n 0, 1) := by decide +kernel
theorem kdX1_recoverMessage_118 : decode prog_3_method_7_code 118 = .ok (.getfield 37, 3) := by decide +kernel
theorem kdX1_recoverMessage_121 : decode prog_3_method_7_code 121 = .ok (.invokestatic 162, 3) := by decide +kernel
theorem kdX1_recoverMessage_124 : decode prog_3_method_7_code 124 = .ok (.aload_n 0, 1) := by decide +kernel
theorem kdX1_recoverMessage_125 : decode prog_3_method_7_code 125 = .ok (.getfield 37, 3) := by decide +kernel
theorem kdX1_recoverMessage_128 : decode prog_3_method_7_code 128 = .ok (.aload_n 0, 1) := by decide +kernel
theorem kdX1_recoverMessage_129 : decode prog_3_method_7_code 129 = .ok (.getfield 33, 3) := by decide +kernel
theorem kdX1_recoverMessage_132 : decode prog_3_method_7_code 132 = .ok (.invokestatic 178, 3) := by decide +kernel
theorem kdX1_recoverMessage_135 : decode prog_3_method_7_code 135 = .ok (.aload_n 0, 1) := by decide +kernel
theorem kdX1_recoverMessage_136 : decode prog_3_method_7_code 136 = .ok (.getfield 33, 3) := by decide +kernel
theorem kdX1_recoverMessage_139 : decode prog_3_method_7_code 139 = .ok (.iconst 1, 1) := by decide +kernel
theorem kdX1_recoverMessage_140 : decode prog_3_method_7_code 140 = .ok (.aload_n 0, 1) := by decide +kernel
theorem kdX1_recoverMessage_141 : decode prog_3_method_7_code 141 = .ok (.getfield 53, 3) := by decide +kernel
theorem kdX1_recoverMessage_144 : decode prog_3_method_7_code 144 = .ok (.iconst 0, 1) := by decide +kernel
theorem kdX1_recoverMessage_145 : decode prog_3_method_7_code 145 = .ok (.invokestatic 182, 3) := by decide +kernel
theorem kdX1_recoverMessage_148 : decode prog_3_method_7_code 148 = .ok (.return_, 1) := by decide +kernel
theorem kdX1_encrypt_0 : decode prog_3_method_8_code 0 = .ok (.aload_n 0, 1) := by decide +kernel
theorem kdX1_encrypt_1 : decode prog_3_method_8_code 1 = .ok (.aload_n 1, 1) := by decide +kernel
theorem kdX1_encrypt_2 : decode prog_3_method_8_code 2 = .ok (.getfield 62, 3) := by decide +kernel
theorem kdX1_encrypt_5 : decode prog_3_method_8_code 5 = .ok (.aload_n 2, 1) := by decide +kernel
theorem kdX1_encrypt_6 : decode prog_3_method_8_code 6 = .ok (.iload_n 3, 1) := by decide +kernel
theorem kdX1_encrypt_7 : decode prog_3_method_8_code 7 = .ok (.aload_n 1, 1) := by decide +kernel
theorem kdX1_encrypt_8 : decode prog_3_method_8_code 8 = .ok (.invokevirtual 111, 3) := by decide +kernel
theorem kdX1_encrypt_11 : decode prog_3_method_8_code 11 = .ok (.iadd, 1) := by decide +kernel
theorem kdX1_encrypt_12 : decode prog_3_method_8_code 12 = .ok (.invokevirtual 82, 3) := by decide +kernel
theorem kdX1_encrypt_15 : decode prog_3_method_8_code 15 = .ok (.aload_n 0, 1) := by decide +kernel
theorem kdX1_encrypt_16 : decode prog_3_method_8_code 16 = .ok (.aload_n 1, 1) := by decide +kernel
theorem kdX1_encrypt_17 : decode prog_3_method_8_code 17 = .ok (.invokevirtual 86, 3) := by decide +kernel
theorem kdX1_encrypt_20 : decode prog_3_method_8_code 20 = .ok (.iconst 0, 1) := by decide +kernel
theorem kdX1_encrypt_21 : decode prog_3_method_8_code 21 = .ok (.istore 5, 2) := by decide +kernel
theorem kdX1_encrypt_23 : decode prog_3_method_8_code 23 = .ok (.iload 5, 2) := by decide +kernel
theorem kdX1_encrypt_25 : decode prog_3_method_8_code 25 = .ok (.aload_n 1, 1) := by decide +kernel
theorem kdX1_encrypt_26 : decode prog_3_method_8_code 26 = .ok (.getfield 62, 3) := by decide +kernel
theorem kdX1_encrypt_29 : decode prog_3_method_8_code 29 = .ok (.if_icmp .ge 16, 3) := by decide +kernel
theorem kdX1_encrypt_32 : decode prog_3_method_8_code 32 = .ok (.aload_n 0, 1) := by decide +kernel
theorem kdX1_encrypt_33 : decode prog_3_method_8_code 33 = .ok (.aload_n 1, 1) := by decide +kernel
theorem kdX1_encrypt_34 : decode prog_3_method_8_code 34 = .ok (.iload 5, 2) := by decide +kernel
theorem kdX1_encrypt_36 : decode prog_3_method_8_code 36 = .ok (.invokevirtual 185, 3) := by decide +kernel
theorem kdX1_encrypt_39 : decode prog_3_method_8_code 39 = .ok (.iinc 5 1, 3) := by decide +kernel
theorem kdX1_encrypt_42 : decode prog_3_method_8_code 42 = .ok (.goto (-19), 3) := by decide +kernel
theorem kdX1_encrypt_45 : decode prog_3_method_8_code 45 = .ok (.aload_n 0, 1) := by decide +kernel
theorem kdX1_encrypt_46 : decode prog_3_method_8_code 46 = .ok (.aload_n 1, 1) := by decide +kernel
theorem kdX1_encrypt_47 : decode prog_3_method_8_code 47 = .ok (.aload_n 2, 1) := by decide +kernel
theorem kdX1_encrypt_48 : decode prog_3_method_8_code 48 = .ok (.iload_n 3, 1) := by decide +kernel
theorem kdX1_encrypt_49 : decode prog_3_method_8_code 49 = .ok (.aload 4, 2) := by decide +kernel
theorem kdX1_encrypt_51 : decode prog_3_method_8_code 51 = .ok (.invokevirtual 189, 3) := by decide +kernel
theorem kdX1_encrypt_54 : decode prog_3_method_8_code 54 = .ok (.return_, 1) := by decide +kernel
theorem kdX1_encryptVectorPart_0 : decode prog_3_method_9_code 0 = .ok (.aload_n 1, 1) := by decide +kernel
theorem kdX1_encryptVectorPart_1 : decode prog_3_method_9_code 1 = .ok (.getfield 62, 3) := by decide +kernel
theorem kdX1_encryptVectorPart_4 : decode prog_3_method_9_code 4 = .ok (.istore_n 3, 1) := by decide +kernel
theorem kdX1_encryptVectorPart_5 : decode prog_3_method_9_code 5 = .ok (.aload_n 0, 1) := by decide +kernel
theorem kdX1_encryptVectorPart_6 : decode prog_3_method_9_code 6 = .ok (.getfield 33, 3) := by decide +kernel
theorem kdX1_encryptVectorPart_9 : decode prog_3_method_9_code 9 = .ok (.invokestatic 153, 3) := by decide +kernel
theorem kdX1_encryptVectorPart_12 : decode prog_3_method_9_code 12 = .ok (.iconst 0, 1) := by decide +kernel
theorem kdX1_encryptVectorPart_13 : decode prog_3_method_9_code 13 = .ok (.istore 4, 2) := by decide +kernel
theorem kdX1_encryptVectorPart_15 : decode prog_3_method_9_code 15 = .ok (.iload 4, 2) := by decide +kernel
theorem kdX1_encryptVectorPart_17 : decode prog_3_method_9_code 17 = .ok (.iload_n 3, 1) := by decide +kernel
theorem kdX1_encryptVectorPart_18 : decode prog_3_method_9_code 18 = .ok (.if_icmp .ge 38, 3) := by decide +kernel
theorem kdX1_encryptVectorPart_21 : decode prog_3_method_9_code 21 = .ok (.aload_n 0, 1) := by decide +kernel
theorem kdX1_encryptVectorPart_22 : decode prog_3_method_9_code 22 = .ok (.getfield 21, 3) := by decide +kernel
theorem kdX1_encryptVectorPart_25 : decode prog_3_method_9_code 25 = .ok (.aload_n 0, 1) := by decide +kernel
theorem kdX1_encryptVectorPart_26 : decode prog_3_method_9_code 26 = .ok (.getfield 33, 3) := by decide +kernel
theorem kdX1_encryptVectorPart_29 : decode prog_3_method_9_code 29 = .ok (.aload_n 0, 1) := by decide +kernel
theorem kdX1_encryptVectorPart_30 : decode prog_3_method_9_code 30 = .ok (.getfield 27, 3) := by decide +kernel
theorem kdX1_encryptVectorPart_33 : decode prog_3_method_9_code 33 = .ok (.iload 4, 2) := by decide +kernel
theorem kdX1_encryptVectorPart_35 : decode prog_3_method_9_code 35 = .ok (.iload_n 3, 1) := by decide +kernel
theorem kdX1_encryptVectorPart_36 : decode prog_3_method_9_code 36 = .ok (.imul, 1) := by decide +kernel
theorem kdX1_encryptVectorPart_37 : decode prog_3_method_9_code 37 = .ok (.iload_n 2, 1) := by decide +kernel
theorem kdX1_encryptVectorPart_38 : decode prog_3_method_9_code 38 = .ok (.iadd, 1) := by decide +kernel
theorem kdX1_encryptVectorPart_39 : decode prog_3_method_9_code 39 = .ok (.aaload, 1) := by decide +kernel
theorem kdX1_encryptVectorPart_40 : decode prog_3_method_9_code 40 = .ok (.aload_n 0, 1) := by decide +kernel
theorem kdX1_encryptVectorPart_41 : decode prog_3_method_9_code 41 = .ok (.getfield 30, 3) := by decide +kernel
theorem kdX1_encryptVectorPart_44 : decode prog_3_method_9_code 44 = .ok (.iload 4, 2) := by decide +kernel
theorem kdX1_encryptVectorPart_46 : decode prog_3_method_9_code 46 = .ok (.aaload, 1) := by decide +kernel
theorem kdX1_encryptVectorPart_47 : decode prog_3_method_9_code 47 = .ok (.invokevirtual 101, 3) := by decide +kernel
theorem kdX1_encryptVectorPart_50 : decode prog_3_method_9_code 50 = .ok (.iinc 4 1, 3) := by decide +kernel
theorem kdX1_encryptVectorPart_53 : decode prog_3_method_9_code 53 = .ok (.goto (-38), 3) := by decide +kernel
theorem kdX1_encryptVectorPart_56 : decode prog_3_method_9_code 56 = .ok (.aload_n 0, 1) := by decide +kernel
theorem kdX1_encryptVectorPart_57 : decode prog_3_method_9_code 57 = .ok (.getfield 21, 3) := by decide +kernel
theorem kdX1_encryptVectorPart_60 : decode prog_3_method_9_code 60 = .ok (.aload_n 0, 1) := by decide +kernel
theorem kdX1_encryptVectorPart_61 : decode prog_3_method_9_code 61 = .ok (.getfield 33, 3) := by decide +kernel
theorem kdX1_encryptVectorPart_64 : decode prog_3_method_9_code 64 = .ok (.invokevirtual 169, 3) := by decide +kernel
theorem kdX1_encryptVectorPart_67 : decode prog_3_method_9_code 67 = .ok (.aload_n 0, 1) := by decide +kernel
theorem kdX1_encryptVectorPart_68 : decode prog_3_method_9_code 68 = .ok (.aload_n 0, 1) := by decide +kernel
theorem kdX1_encryptVectorPart_69 : decode prog_3_method_9_code 69 = .ok (.getfield 37, 3) := by decide +kernel
theorem kdX1_encryptVectorPart_72 : decode prog_3_method_9_code 72 = .ok (.iconst 2, 1) := by decide +kernel
theorem kdX1_encryptVectorPart_73 : decode prog_3_method_9_code 73 = .ok (.iload_n 3, 1) := by decide +kernel
theorem kdX1_encryptVectorPart_74 : decode prog_3_method_9_code 74 = .ok (.iload_n 2, 1) := by decide +kernel
theorem kdX1_encryptVectorPart_75 : decode prog_3_method_9_code 75 = .ok (.iadd, 1) := by decide +kernel
theorem kdX1_encryptVectorPart_76 : decode prog_3_method_9_code 76 = .ok (.invokevirtual 93, 3) := by decide +kernel
theorem kdX1_encryptVectorPart_79 : decode prog_3_method_9_code 79 = .ok (.aload_n 0, 1) := by decide +kernel
theorem kdX1_encryptVectorPart_80 : decode prog_3_method_9_code 80 = .ok (.getfield 33, 3) := by decide +kernel
theorem kdX1_encryptVectorPart_83 : decode prog_3_method_9_code 83 = .ok (.aload_n 0, 1) := by decide +kernel
theorem kdX1_encryptVectorPart_84 : decode prog_3_method_9_code 84 = .ok (.getfield 37, 3) := by decide +kernel
theorem kdX1_encryptVectorPart_87 : decode prog_3_method_9_code 87 = .ok (.invokestatic 192, 3) := by decide +kernel
theorem kdX1_encryptVectorPart_90 : decode prog_3_method_9_code 90 = .ok (.aload_n 0, 1) := by decide +kernel
theorem kdX1_encryptVectorPart_91 : decode prog_3_method_9_code 91 = .ok (.getfield 33, 3) := by decide +kernel
theorem kdX1_encryptVectorPart_94 : decode prog_3_method_9_code 94 = .ok (.aload_n 1, 1) := by decide +kernel
theorem kdX1_encryptVectorPart_95 : decode prog_3_method_9_code 95 = .ok (.getfield 159, 3) := by decide +kernel
theorem kdX1_encryptVectorPart_98 : decode prog_3_method_9_code 98 = .ok (.aload_n 0, 1) := by decide +kernel
theorem kdX1_encryptVectorPart_99 : decode prog_3_method_9_code 99 = .ok (.getfield 56, 3) := by decide +kernel
theorem kdX1_encryptVectorPart_102 : decode prog_3_method_9_code 102 = .ok (.aload_n 1, 1) := by decide +kernel
theorem kdX1_encryptVectorPart_103 : decode prog_3_method_9_code 103 = .ok (.invokevirtual 156, 3) := by decide +kernel
theorem kdX1_encryptVectorPart_106 : decode prog_3_method_9_code 106 = .ok (.iload_n 2, 1) := by decide +kernel
theorem kdX1_encryptVectorPart_107 : decode prog_3_method_9_code 107 = .ok (.imul, 1) := by decide +kernel
theorem kdX1_encryptVectorPart_108 : decode prog_3_method_9_code 108 = .ok (.invokestatic 182, 3) := by decide +kernel
theorem kdX1_encryptVectorPart_111 : decode prog_3_method_9_code 111 = .ok (.return_, 1) := by decide +kernel
theorem kdX1_encryptScalar_0 : decode prog_3_method_10_code 0 = .ok (.aload_n 0, 1) := by decide +kernel
theorem kdX1_encryptScalar_1 : decode prog_3_method_10_code 1 = .ok (.getfield 33, 3) := by decide +kernel
theorem kdX1_encryptScalar_4 : decode prog_3_method_10_code 4 = .ok (.invokestatic 153, 3) := by decide +kernel
theorem kdX1_encryptScalar_7 : decode prog_3_method_10_code 7 = .ok (.iconst 0, 1) := by decide +kernel
theorem kdX1_encryptScalar_8 : decode prog_3_method_10_code 8 = .ok (.istore 5, 2) := by decide +kernel
theorem kdX1_encryptScalar_10 : decode prog_3_method_10_code 10 = .ok (.iload 5, 2) := by decide +kernel
theorem kdX1_encryptScalar_12 : decode prog_3_method_10_code 12 = .ok (.aload_n 1, 1) := by decide +kernel
theorem kdX1_encryptScalar_13 : decode prog_3_method_10_code 13 = .ok (.getfield 62, 3) := by decide +kernel
theorem kdX1_encryptScalar_16 : decode prog_3_method_10_code 16 = .ok (.if_icmp .ge 47, 3) := by decide +kernel
theorem kdX1_encryptScalar_19 : decode prog_3_method_10_code 19 = .ok (.aload_n 2, 1) := by decide +kernel
theorem kdX1_encryptScalar_20 : decode prog_3_method_10_code 20 = .ok (.iload_n 3, 1) := by decide +kernel
theorem kdX1_encryptScalar_21 : decode prog_3_method_10_code 21 = .ok (.sipush 384, 3) := by decide +kernel
theorem kdX1_encryptScalar_24 : decode prog_3_method_10_code 24 = .ok (.iload 5, 2) := by decide +kernel
theorem kdX1_encryptScalar_26 : decode prog_3_method_10_code 26 = .ok (.imul, 1) := by decide +kernel
theorem kdX1_encryptScalar_27 : decode prog_3_method_10_code 27 = .ok (.iadd, 1) := by decide +kernel
theorem kdX1_encryptScalar_28 : decode prog_3_method_10_code 28 = .ok (.aload_n 0, 1) := by decide +kernel
theorem kdX1_encryptScalar_29 : decode prog_3_method_10_code 29 = .ok (.getfield 37, 3) := by decide +kernel
theorem kdX1_encryptScalar_32 : decode prog_3_method_10_code 32 = .ok (.invokestatic 165, 3) := by decide +kernel
theorem kdX1_encryptScalar_35 : decode prog_3_method_10_code 35 = .ok (.aload_n 0, 1) := by decide +kernel
theorem kdX1_encryptScalar_36 : decode prog_3_method_10_code 36 = .ok (.getfield 21, 3) := by decide +kernel
theorem kdX1_encryptScalar_39 : decode prog_3_method_10_code 39 = .ok (.aload_n 0, 1) := by decide +kernel
theorem kdX1_encryptScalar_40 : decode prog_3_method_10_code 40 = .ok (.getfield 33, 3) := by decide +kernel
theorem kdX1_encryptScalar_43 : decode prog_3_method_10_code 43 = .ok (.aload_n 0, 1) := by decide +kernel
theorem kdX1_encryptScalar_44 : decode prog_3_method_10_code 44 = .ok (.getfield 37, 3) := by decide +kernel
theorem kdX1_encryptScalar_47 : decode prog_3_method_10_code 47 = .ok (.aload_n 0, 1) := by decide +kernel
theorem kdX1_encryptScalar_48 : decode prog_3_method_10_code 48 = .ok (.getfield 30, 3) := by decide +kernel
theorem kdX1_encryptScalar_51 : decode prog_3_method_10_code 51 = .ok (.iload 5, 2) := by decide +kernel
theorem kdX1_encryptScalar_53 : decode prog_3_method_10_code 53 = .ok (.aaload, 1) := by decide +kernel
theorem kdX1_encryptScalar_54 : decode prog_3_method_10_code 54 = .ok (.invokevirtual 101, 3) := by decide +kernel
theorem kdX1_encryptScalar_57 : decode prog_3_method_10_code 57 = .ok (.iinc 5 1, 3) := by decide +kernel
theorem kdX1_encryptScalar_60 : decode prog_3_method_10_code 60 = .ok (.goto (-50), 3) := by decide +kernel
theorem kdX1_encryptScalar_63 : decode prog_3_method_10_code 63 = .ok (.aload_n 0, 1) := by decide +kernel
theorem kdX1_encryptScalar_64 : decode prog_3_method_10_code 64 = .ok (.getfield 21, 3) := by decide +kernel
theorem kdX1_encryptScalar_67 : decode prog_3_method_10_code 67 = .ok (.aload_n 0, 1) := by decide +kernel
theorem kdX1_encryptScalar_68 : decode prog_3_method_10_code 68 = .ok (.getfield 33, 3) := by decide +kernel
theorem kdX1_encryptScalar_71 : decode prog_3_method_10_code 71 = .ok (.invokevirtual 169, 3) := by decide +kernel
theorem kdX1_encryptScalar_74 : decode prog_3_method_10_code 74 = .ok (.aload_n 0, 1) := by decide +kernel
theorem kdX1_encryptScalar_75 : decode prog_3_method_10_code 75 = .ok (.aload_n 0, 1) := by decide +kernel
theorem kdX1_encryptScalar_76 : decode prog_3_method_10_code 76 = .ok (.getfield 37, 3) := by decide +kernel
theorem kdX1_encryptScalar_79 : decode prog_3_method_10_code 79 = .ok (.iconst 2, 1) := by decide +kernel
theorem kdX1_encryptScalar_80 : decode prog_3_method_10_code 80 = .ok (.iconst 2, 1) := by decide +kernel
theorem kdX1_encryptScalar_81 : decode prog_3_method_10_code 81 = .ok (.aload_n 1, 1) := by decide +kernel
theorem kdX1_encryptScalar_82 : decode prog_3_method_10_code 82 = .ok (.getfield 62, 3) := by decide +kernel
theorem kdX1_encryptScalar_85 : decode prog_3_method_10_code 85 = .ok (.imul, 1) := by decide +kernel
theorem kdX1_encryptScalar_86 : decode prog_3_method_10_code 86 = .ok (.invokevirtual 93, 3) := by decide +kernel
theorem kdX1_encryptScalar_89 : decode prog_3_method_10_code 89 = .ok (.aload_n 0, 1) := by decide +kernel
theorem kdX1_encryptScalar_90 : decode prog_3_method_10_code 90 = .ok (.getfield 33, 3) := by decide +kernel
theorem kdX1_encryptScalar_93 : decode prog_3_method_10_code 93 = .ok (.aload_n 0, 1) := by decide +kernel
theorem kdX1_encryptScalar_94 : decode prog_3_method_10_code 94 = .ok (.getfield 37, 3) := by decide +kernel
theorem kdX1_encryptScalar_97 : decode prog_3_method_10_code 97 = .ok (.invokestatic 192, 3) := by decide +kernel
theorem kdX1_encryptScalar_100 : decode prog_3_method_10_code 100 = .ok (.aload 4, 2) := by decide +kernel
theorem kdX1_encryptScalar_102 : decode prog_3_method_10_code 102 = .ok (.iconst 0, 1) := by decide +kernel
theorem kdX1_encryptScalar_103 : decode prog_3_method_10_code 103 = .ok (.iconst 1, 1) := by decide +kernel
theorem kdX1_encryptScalar_104 : decode prog_3_method_10_code 104 = .ok (.aload_n 0, 1) := by decide +kernel
theorem kdX1_encryptScalar_105 : decode prog_3_method_10_code 105 = .ok (.getfield 37, 3) := by decide +kernel
theorem kdX1_encryptScalar_108 : decode prog_3_method_10_code 108 = .ok (.invokestatic 162, 3) := by decide +kernel
theorem kdX1_encryptScalar_111 : decode prog_3_method_10_code 111 = .ok (.aload_n 0, 1) := by decide +kernel
theorem kdX1_encryptScalar_112 : decode prog_3_method_10_code 112 = .ok (.getfield 33, 3) := by decide +kernel
theorem kdX1_encryptScalar_115 : decode prog_3_method_10_code 115 = .ok (.aload_n 0, 1) := by decide +kernel
theorem kdX1_encryptScalar_116 : decode prog_3_method_10_code 116 = .ok (.getfield 37, 3) := by decide +kernel
theorem kdX1_encryptScalar_119 : decode prog_3_method_10_code 119 = .ok (.invokestatic 192, 3) := by decide +kernel
theorem kdX1_encryptScalar_122 : decode prog_3_method_10_code 122 = .ok (.aload_n 0, 1) := by decide +kernel
theorem kdX1_encryptScalar_123 : decode prog_3_method_10_code 123 = .ok (.getfield 33, 3) := by decide +kernel
theorem kdX1_encryptScalar_126 : decode prog_3_method_10_code 126 = .ok (.aload_n 1, 1) := by decide +kernel
theorem kdX1_encryptScalar_127 : decode prog_3_method_10_code 127 = .ok (.getfield 175, 3) := by decide +kernel
theorem kdX1_encryptScalar_130 : decode prog_3_method_10_code 130 = .ok (.aload_n 0, 1) := by decide +kernel
theorem kdX1_encryptScalar_131 : decode prog_3_method_10_code 131 = .ok (.getfield 56, 3) := by decide +kernel
theorem kdX1_encryptScalar_134 : decode prog_3_method_10_code 134 = .ok (.aload_n 1, 1) := by decide +kernel
theorem kdX1_encryptScalar_135 : decode prog_3_method_10_code 135 = .ok (.invokevirtual 172, 3) := by decide +kernel
theorem kdX1_encryptScalar_138 : decode prog_3_method_10_code 138 = .ok (.invokestatic 182, 3) := by decide +kernel
theorem kdX1_encryptScalar_141 : decode prog_3_method_10_code 141 = .ok (.return_, 1) := by decide +kernel
theorem kdX1_sampleMatrix_0 : decode prog_3_method_11_code 0 = .ok (.iconst 0, 1) := by decide +kernel
theorem kdX1_sampleMatrix_1 : decode prog_3_method_11_code 1 = .ok (.istore 4, 2) := by decide +kernel
theorem kdX1_sampleMatrix_3 : decode prog_3_method_11_code 3 = .ok (.iload 4, 2) := by decide +kernel
theorem kdX1_sampleMatrix_5 : decode prog_3_method_11_code 5 = .ok (.iload_n 1, 1) := by decide +kernel
theorem kdX1_sampleMatrix_6 : decode prog_3_method_11_code 6 = .ok (.if_icmp .ge 101, 3) := by decide +kernel
theorem kdX1_sampleMatrix_9 : decode prog_3_method_11_code 9 = .ok (.iconst 0, 1) := by decide +kernel
theorem kdX1_sampleMatrix_10 : decode prog_3_method_11_code 10 = .ok (.istore 5, 2) := by decide +kernel
theorem kdX1_sampleMatrix_12 : decode prog_3_method_11_code 12 = .ok (.iload 5, 2) := by decide +kernel
theorem kdX1_sampleMatrix_14 : decode prog_3_method_11_code 14 = .ok (.iload_n 1, 1) := by decide +kernel
theorem kdX1_sampleMatrix_15 : decode prog_3_method_11_code 15 = .ok (.if_icmp .ge 86, 3) := by decide +kernel
theorem kdX1_sampleMatrix_18 : decode prog_3_method_11_code 18 = .ok (.aload_n 0, 1) := by decide +kernel
theorem kdX1_sampleMatrix_19 : decode prog_3_method_11_code 19 = .ok (.getfield 12, 3) := by decide +kernel
theorem kdX1_sampleMatrix_22 : decode prog_3_method_11_code 22 = .ok (.sipush 168, 3) := by decide +kernel
theorem kdX1_sampleMatrix_25 : decode prog_3_method_11_code 25 = .ok (.invokevirtual 68, 3) := by decide +kernel
theorem kdX1_sampleMatrix_28 : decode prog_3_method_11_code 28 = .ok (.aload_n 0, 1) := by decide +kernel
theorem kdX1_sampleMatrix_29 : decode prog_3_method_11_code 29 = .ok (.getfield 12, 3) := by decide +kernel
theorem kdX1_sampleMatrix_32 : decode prog_3_method_11_code 32 = .ok (.aload_n 2, 1) := by decide +kernel
theorem kdX1_sampleMatrix_33 : decode prog_3_method_11_code 33 = .ok (.iload_n 3, 1) := by decide +kernel
theorem kdX1_sampleMatrix_34 : decode prog_3_method_11_code 34 = .ok (.bipush 32, 2) := by decide +kernel
theorem kdX1_sampleMatrix_36 : decode prog_3_method_11_code 36 = .ok (.invokevirtual 72, 3) := by decide +kernel
theorem kdX1_sampleMatrix_39 : decode prog_3_method_11_code 39 = .ok (.aload_n 0, 1) := by decide +kernel
theorem kdX1_sampleMatrix_40 : decode prog_3_method_11_code 40 = .ok (.getfield 40, 3) := by decide +kernel
theorem kdX1_sampleMatrix_43 : decode prog_3_method_11_code 43 = .ok (.iconst 0, 1) := by decide +kernel
theorem kdX1_sampleMatrix_44 : decode prog_3_method_11_code 44 = .ok (.iload 5, 2) := by decide +kernel
theorem kdX1_sampleMatrix_46 : decode prog_3_method_11_code 46 = .ok (.i2b, 1) := by decide +kernel
theorem kdX1_sampleMatrix_47 : decode prog_3_method_11_code 47 = .ok (.bastore, 1) := by decide +kernel
theorem kdX1_sampleMatrix_48 : decode prog_3_method_11_code 48 = .ok (.aload_n 0, 1) := by decide +kernel
theorem kdX1_sampleMatrix_49 : decode prog_3_method_11_code 49 = .ok (.getfield 40, 3) := by decide +kernel
theorem kdX1_sampleMatrix_52 : decode prog_3_method_11_code 52 = .ok (.iconst 1, 1) := by decide +kernel
theorem kdX1_sampleMatrix_53 : decode prog_3_method_11_code 53 = .ok (.iload 4, 2) := by decide +kernel
theorem kdX1_sampleMatrix_55 : decode prog_3_method_11_code 55 = .ok (.i2b, 1) := by decide +kernel
theorem kdX1_sampleMatrix_56 : decode prog_3_method_11_code 56 = .ok (.bastore, 1) := by decide +kernel
theorem kdX1_sampleMatrix_57 : decode prog_3_method_11_code 57 = .ok (.aload_n 0, 1) := by decide +kernel
theorem kdX1_sampleMatrix_58 : decode prog_3_method_11_code 58 = .ok (.getfield 12, 3) := by decide +kernel
theorem kdX1_sampleMatrix_61 : decode prog_3_method_11_code 61 = .ok (.aload_n 0, 1) := by decide +kernel
theorem kdX1_sampleMatrix_62 : decode prog_3_method_11_code 62 = .ok (.getfield 40, 3) := by decide +kernel
theorem kdX1_sampleMatrix_65 : decode prog_3_method_11_code 65 = .ok (.iconst 0, 1) := by decide +kernel
theorem kdX1_sampleMatrix_66 : decode prog_3_method_11_code 66 = .ok (.iconst 2, 1) := by decide +kernel
theorem kdX1_sampleMatrix_67 : decode prog_3_method_11_code 67 = .ok (.invokevirtual 72, 3) := by decide +kernel
theorem kdX1_sampleMatrix_70 : decode prog_3_method_11_code 70 = .ok (.aload_n 0, 1) := by decide +kernel
theorem kdX1_sampleMatrix_71 : decode prog_3_method_11_code 71 = .ok (.getfield 12, 3) := by decide +kernel
theorem kdX1_sampleMatrix_74 : decode prog_3_method_11_code 74 = .ok (.bipush 31, 2) := by decide +kernel
theorem kdX1_sampleMatrix_76 : decode prog_3_method_11_code 76 = .ok (.invokevirtual 76, 3) := by decide +kernel
theorem kdX1_sampleMatrix_79 : decode prog_3_method_11_code 79 = .ok (.aload_n 0, 1) := by decide +kernel
theorem kdX1_sampleMatrix_80 : decode prog_3_method_11_code 80 = .ok (.aload_n 0, 1) := by decide +kernel
theorem kdX1_sampleMatrix_81 : decode prog_3_method_11_code 81 = .ok (.getfield 27, 3) := by decide +kernel
theorem kdX1_sampleMatrix_84 : decode prog_3_method_11_code 84 = .ok (.iload 4, 2) := by decide +kernel
theorem kdX1_sampleMatrix_86 : decode prog_3_method_11_code 86 = .ok (.iload_n 1, 1) := by decide +kernel
theorem kdX1_sampleMatrix_87 : decode prog_3_method_11_code 87 = .ok (.imul, 1) := by decide +kernel
theorem kdX1_sampleMatrix_88 : decode prog_3_method_11_code 88 = .ok (.iload 5, 2) := by decide +kernel
theorem kdX1_sampleMatrix_90 : decode prog_3_method_11_code 90 = .ok (.iadd, 1) := by decide +kernel
theorem kdX1_sampleMatrix_91 : decode prog_3_method_11_code 91 = .ok (.aaload, 1) := by decide +kernel
theorem kdX1_sampleMatrix_92 : decode prog_3_method_11_code 92 = .ok (.invokevirtual 195, 3) := by decide +kernel
theorem kdX1_sampleMatrix_95 : decode prog_3_method_11_code 95 = .ok (.iinc 5 1, 3) := by decide +kernel
theorem kdX1_sampleMatrix_98 : decode prog_3_method_11_code 98 = .ok (.goto (-86), 3) := by decide +kernel
theorem kdX1_sampleMatrix_101 : decode prog_3_method_11_code 101 = .ok (.iinc 4 1, 3) := by decide +kernel
theorem kdX1_sampleMatrix_104 : decode prog_3_method_11_code 104 = .ok (.goto (-101), 3) := by decide +kernel
theorem kdX1_sampleMatrix_107 : decode prog_3_method_11_code 107 = .ok (.return_, 1) := by decide +kernel
theorem kdX1_sample_0 : decode prog_3_method_12_code 0 = .ok (.iconst 0, 1) := by decide +kernel
theorem kdX1_sample_1 : decode prog_3_method_12_code 1 = .ok (.istore_n 2, 1) := by decide +kernel
theorem kdX1_sample_2 : decode prog_3_method_12_code 2 = .ok (.iconst 0, 1) := by decide +kernel
theorem kdX1_sample_3 : decode prog_3_method_12_code 3 = .ok (.istore_n 3, 1) := by decide +kernel
theorem kdX1_sample_4 : decode prog_3_method_12_code 4 = .ok (.iload_n 3, 1) := by decide +kernel
theorem kdX1_sample_5 : decode prog_3_method_12_code 5 = .ok (.sipush 280, 3) := by decide +kernel
theorem kdX1_sample_8 : decode prog_3_method_12_code 8 = .ok (.if_icmp .ge 131, 3) := by decide +kernel
theorem kdX1_sample_11 : decode prog_3_method_12_code 11 = .ok (.iload_n 2, 1) := by decide +kernel
theorem kdX1_sample_12 : decode prog_3_method_12_code 12 = .ok (.sipush 256, 3) := by decide +kernel
theorem kdX1_sample_15 : decode prog_3_method_12_code 15 = .ok (.if_icmp .ge 124, 3) := by decide +kernel
theorem kdX1_sample_18 : decode prog_3_method_12_code 18 = .ok (.aload_n 0, 1) := by decide +kernel
theorem kdX1_sample_19 : decode prog_3_method_12_code 19 = .ok (.getfield 12, 3) := by decide +kernel
theorem kdX1_sample_22 : decode prog_3_method_12_code 22 = .ok (.aload_n 0, 1) := by decide +kernel
theorem kdX1_sample_23 : decode prog_3_method_12_code 23 = .ok (.getfield 44, 3) := by decide +kernel
theorem kdX1_sample_26 : decode prog_3_method_12_code 26 = .ok (.iconst 0, 1) := by decide +kernel
theorem kdX1_sample_27 : decode prog_3_method_12_code 27 = .ok (.iconst 3, 1) := by decide +kernel
theorem kdX1_sample_28 : decode prog_3_method_12_code 28 = .ok (.invokevirtual 79, 3) := by decide +kernel
theorem kdX1_sample_31 : decode prog_3_method_12_code 31 = .ok (.aload_n 0, 1) := by decide +kernel
theorem kdX1_sample_32 : decode prog_3_method_12_code 32 = .ok (.getfield 44, 3) := by decide +kernel
theorem kdX1_sample_35 : decode prog_3_method_12_code 35 = .ok (.iconst 0, 1) := by decide +kernel
theorem kdX1_sample_36 : decode prog_3_method_12_code 36 = .ok (.baload, 1) := by decide +kernel
theorem kdX1_sample_37 : decode prog_3_method_12_code 37 = .ok (.sipush 255, 3) := by decide +kernel
theorem kdX1_sample_40 : decode prog_3_method_12_code 40 = .ok (.iand, 1) := by decide +kernel
theorem kdX1_sample_41 : decode prog_3_method_12_code 41 = .ok (.istore 4, 2) := by decide +kernel
theorem kdX1_sample_43 : decode prog_3_method_12_code 43 = .ok (.aload_n 0, 1) := by decide +kernel
theorem kdX1_sample_44 : decode prog_3_method_12_code 44 = .ok (.getfield 44, 3) := by decide +kernel
theorem kdX1_sample_47 : decode prog_3_method_12_code 47 = .ok (.iconst 1, 1) := by decide +kernel
theorem kdX1_sample_48 : decode prog_3_method_12_code 48 = .ok (.baload, 1) := by decide +kernel
theorem kdX1_sample_49 : decode prog_3_method_12_code 49 = .ok (.sipush 255, 3) := by decide +kernel
theorem kdX1_sample_52 : decode prog_3_method_12_code 52 = .ok (.iand, 1) := by decide +kernel
theorem kdX1_sample_53 : decode prog_3_method_12_code 53 = .ok (.istore 5, 2) := by decide +kernel
theorem kdX1_sample_55 : decode prog_3_method_12_code 55 = .ok (.aload_n 0, 1) := by decide +kernel
theorem kdX1_sample_56 : decode prog_3_method_12_code 56 = .ok (.getfield 44, 3) := by decide +kernel
theorem kdX1_sample_59 : decode prog_3_method_12_code 59 = .ok (.iconst 2, 1) := by decide +kernel
theorem kdX1_sample_60 : decode prog_3_method_12_code 60 = .ok (.baload, 1) := by decide +kernel
theorem kdX1_sample_61 : decode prog_3_method_12_code 61 = .ok (.sipush 255, 3) := by decide +kernel
theorem kdX1_sample_64 : decode prog_3_method_12_code 64 = .ok (.iand, 1) := by decide +kernel
theorem kdX1_sample_65 : decode prog_3_method_12_code 65 = .ok (.istore 6, 2) := by decide +kernel
theorem kdX1_sample_67 : decode prog_3_method_12_code 67 = .ok (.iload 4, 2) := by decide +kernel
theorem kdX1_sample_69 : decode prog_3_method_12_code 69 = .ok (.sipush 256, 3) := by decide +kernel
theorem kdX1_sample_72 : decode prog_3_method_12_code 72 = .ok (.iload 5, 2) := by decide +kernel
theorem kdX1_sample_74 : decode prog_3_method_12_code 74 = .ok (.bipush 16, 2) := by decide +kernel
theorem kdX1_sample_76 : decode prog_3_method_12_code 76 = .ok (.irem, 1) := by decide +kernel
theorem kdX1_sample_77 : decode prog_3_method_12_code 77 = .ok (.imul, 1) := by decide +kernel
theorem kdX1_sample_78 : decode prog_3_method_12_code 78 = .ok (.iadd, 1) := by decide +kernel
theorem kdX1_sample_79 : decode prog_3_method_12_code 79 = .ok (.istore 7, 2) := by decide +kernel
theorem kdX1_sample_81 : decode prog_3_method_12_code 81 = .ok (.iload 5, 2) := by decide +kernel
theorem kdX1_sample_83 : decode prog_3_method_12_code 83 = .ok (.bipush 16, 2) := by decide +kernel
theorem kdX1_sample_85 : decode prog_3_method_12_code 85 = .ok (.idiv, 1) := by decide +kernel
theorem kdX1_sample_86 : decode prog_3_method_12_code 86 = .ok (.bipush 16, 2) := by decide +kernel
theorem kdX1_sample_88 : decode prog_3_method_12_code 88 = .ok (.iload 6, 2) := by decide +kernel
theorem kdX1_sample_90 : decode prog_3_method_12_code 90 = .ok (.imul, 1) := by decide +kernel
theorem kdX1_sample_91 : decode prog_3_method_12_code 91 = .ok (.iadd, 1) := by decide +kernel
theorem kdX1_sample_92 : decode prog_3_method_12_code 92 = .ok (.istore 8, 2) := by decide +kernel
theorem kdX1_sample_94 : decode prog_3_method_12_code 94 = .ok (.iload 7, 2) := by decide +kernel
theorem kdX1_sample_96 : decode prog_3_method_12_code 96 = .ok (.sipush 3329, 3) := by decide +kernel
theorem kdX1_sample_99 : decode prog_3_method_12_code 99 = .ok (.if_icmp .ge 11, 3) := by decide +kernel
theorem kdX1_sample_102 : decode prog_3_method_12_code 102 = .ok (.aload_n 1, 1) := by decide +kernel
theorem kdX1_sample_103 : decode prog_3_method_12_code 103 = .ok (.iload_n 2, 1) := by decide +kernel
theorem kdX1_sample_104 : decode prog_3_method_12_code 104 = .ok (.iload 7, 2) := by decide +kernel
theorem kdX1_sample_106 : decode prog_3_method_12_code 106 = .ok (.iastore, 1) := by decide +kernel
theorem kdX1_sample_107 : decode prog_3_method_12_code 107 = .ok (.iinc 2 1, 3) := by decide +kernel
theorem kdX1_sample_110 : decode prog_3_method_12_code 110 = .ok (.iload 8, 2) := by decide +kernel
theorem kdX1_sample_112 : decode prog_3_method_12_code 112 = .ok (.sipush 3329, 3) := by decide +kernel
theorem kdX1_sample_115 : decode prog_3_method_12_code 115 = .ok (.if_icmp .ge 18, 3) := by decide +kernel
theorem kdX1_sample_118 : decode prog_3_method_12_code 118 = .ok (.iload_n 2, 1) := by decide +kernel
theorem kdX1_sample_119 : decode prog_3_method_12_code 119 = .ok (.sipush 256, 3) := by decide +kernel
theorem kdX1_sample_122 : decode prog_3_method_12_code 122 = .ok (.if_icmp .ge 11, 3) := by decide +kernel
theorem kdX1_sample_125 : decode prog_3_method_12_code 125 = .ok (.aload_n 1, 1) := by decide +kernel
theorem kdX1_sample_126 : decode prog_3_method_12_code 126 = .ok (.iload_n 2, 1) := by decide +kernel
theorem kdX1_sample_127 : decode prog_3_method_12_code 127 = .ok (.iload 8, 2) := by decide +kernel
theorem kdX1_sample_129 : decode prog_3_method_12_code 129 = .ok (.iastore, 1) := by decide +kernel
theorem kdX1_sample_130 : decode prog_3_method_12_code 130 = .ok (.iinc 2 1, 3) := by decide +kernel
theorem kdX1_sample_133 : decode prog_3_method_12_code 133 = .ok (.iinc 3 1, 3) := by decide +kernel
theorem kdX1_sample_136 : decode prog_3_method_12_code 136 = .ok (.goto (-132), 3) := by decide +kernel
theorem kdX1_sample_139 : decode prog_3_method_12_code 139 = .ok (.iload_n 2, 1) := by decide +kernel
theorem kdX1_sample_140 : decode prog_3_method_12_code 140 = .ok (.sipush 256, 3) := by decide +kernel
theorem kdX1_sample_143 : decode prog_3_method_12_code 143 = .ok (.if_icmp .ge 13, 3) := by decide +kernel
theorem kdX1_sample_146 : decode prog_3_method_12_code 146 = .ok (.new 198, 3) := by decide +kernel
theorem kdX1_sample_149 : decode prog_3_method_12_code 149 = .ok (.dup, 1) := by decide +kernel
theorem kdX1_sample_150 : decode prog_3_method_12_code 150 = .ok (.ldc 200, 2) := by decide +kernel
theorem kdX1_sample_152 : decode prog_3_method_12_code 152 = .ok (.invokespecial 202, 3) := by decide +kernel
theorem kdX1_sample_155 : decode prog_3_method_12_code 155 = .ok (.athrow, 1) := by decide +kernel
theorem kdX1_sample_156 : decode prog_3_method_12_code 156 = .ok (.return_, 1) := by decide +kernel
theorem kdX1_fillVector_0 : decode prog_3_method_13_code 0 = .ok (.iconst 0, 1) := by decide +kernel
theorem kdX1_fillVector_1 : decode prog_3_method_13_code 1 = .ok (.istore_n 2, 1) := by decide +kernel
theorem kdX1_fillVector_2 : decode prog_3_method_13_code 2 = .ok (.iload_n 2, 1) := by decide +kernel
theorem kdX1_fillVector_3 : decode prog_3_method_13_code 3 = .ok (.aload_n 1, 1) := by decide +kernel
theorem kdX1_fillVector_4 : decode prog_3_method_13_code 4 = .ok (.getfield 62, 3) := by decide +kernel
theorem kdX1_fillVector_7 : decode prog_3_method_13_code 7 = .ok (.if_icmp .ge 37, 3) := by decide +kernel
theorem kdX1_fillVector_10 : decode prog_3_method_13_code 10 = .ok (.aload_n 0, 1) := by decide +kernel
theorem kdX1_fillVector_11 : decode prog_3_method_13_code 11 = .ok (.aload_n 0, 1) := by decide +kernel
theorem kdX1_fillVector_12 : decode prog_3_method_13_code 12 = .ok (.getfield 30, 3) := by decide +kernel
theorem kdX1_fillVector_15 : decode prog_3_method_13_code 15 = .ok (.iload_n 2, 1) := by decide +kernel
theorem kdX1_fillVector_16 : decode prog_3_method_13_code 16 = .ok (.aaload, 1) := by decide +kernel
theorem kdX1_fillVector_17 : decode prog_3_method_13_code 17 = .ok (.aload_n 1, 1) := by decide +kernel
theorem kdX1_fillVector_18 : decode prog_3_method_13_code 18 = .ok (.getfield 90, 3) := by decide +kernel
theorem kdX1_fillVector_21 : decode prog_3_method_13_code 21 = .ok (.iload_n 2, 1) := by decide +kernel
theorem kdX1_fillVector_22 : decode prog_3_method_13_code 22 = .ok (.invokevirtual 93, 3) := by decide +kernel
theorem kdX1_fillVector_25 : decode prog_3_method_13_code 25 = .ok (.aload_n 0, 1) := by decide +kernel
theorem kdX1_fillVector_26 : decode prog_3_method_13_code 26 = .ok (.getfield 21, 3) := by decide +kernel
theorem kdX1_fillVector_29 : decode prog_3_method_13_code 29 = .ok (.aload_n 0, 1) := by decide +kernel
theorem kdX1_fillVector_30 : decode prog_3_method_13_code 30 = .ok (.getfield 30, 3) := by decide +kernel
theorem kdX1_fillVector_33 : decode prog_3_method_13_code 33 = .ok (.iload_n 2, 1) := by decide +kernel
theorem kdX1_fillVector_34 : decode prog_3_method_13_code 34 = .ok (.aaload, 1) := by decide +kernel
theorem kdX1_fillVector_35 : decode prog_3_method_13_code 35 = .ok (.invokevirtual 97, 3) := by decide +kernel
theorem kdX1_fillVector_38 : decode prog_3_method_13_code 38 = .ok (.iinc 2 1, 3) := by decide +kernel
theorem kdX1_fillVector_41 : decode prog_3_method_13_code 41 = .ok (.goto (-39), 3) := by decide +kernel
theorem kdX1_fillVector_44 : decode prog_3_method_13_code 44 = .ok (.return_, 1) := by decide +kernel
theorem kdX1_fillWithNoise_0 : decode prog_3_method_14_code 0 = .ok (.aload_n 0, 1) := by decide +kernel
theorem kdX1_fillWithNoise_1 : decode prog_3_method_14_code 1 = .ok (.getfield 12, 3) := by decide +kernel
theorem kdX1_fillWithNoise_4 : decode prog_3_method_14_code 4 = .ok (.sipush 136, 3) := by decide +kernel
theorem kdX1_fillWithNoise_7 : decode prog_3_method_14_code 7 = .ok (.invokevirtual 68, 3) := by decide +kernel
theorem kdX1_fillWithNoise_10 : decode prog_3_method_14_code 10 = .ok (.aload_n 0, 1) := by decide +kernel
theorem kdX1_fillWithNoise_11 : decode prog_3_method_14_code 11 = .ok (.getfield 12, 3) := by decide +kernel
theorem kdX1_fillWithNoise_14 : decode prog_3_method_14_code 14 = .ok (.aload_n 0, 1) := by decide +kernel
theorem kdX1_fillWithNoise_15 : decode prog_3_method_14_code 15 = .ok (.getfield 59, 3) := by decide +kernel
theorem kdX1_fillWithNoise_18 : decode prog_3_method_14_code 18 = .ok (.bipush 32, 2) := by decide +kernel
theorem kdX1_fillWithNoise_20 : decode prog_3_method_14_code 20 = .ok (.bipush 32, 2) := by decide +kernel
theorem kdX1_fillWithNoise_22 : decode prog_3_method_14_code 22 = .ok (.invokevirtual 72, 3) := by decide +kernel
theorem kdX1_fillWithNoise_25 : decode prog_3_method_14_code 25 = .ok (.aload_n 0, 1) := by decide +kernel
theorem kdX1_fillWithNoise_26 : decode prog_3_method_14_code 26 = .ok (.getfield 40, 3) := by decide +kernel
theorem kdX1_fillWithNoise_29 : decode prog_3_method_14_code 29 = .ok (.iconst 0, 1) := by decide +kernel
theorem kdX1_fillWithNoise_30 : decode prog_3_method_14_code 30 = .ok (.iload_n 3, 1) := by decide +kernel
theorem kdX1_fillWithNoise_31 : decode prog_3_method_14_code 31 = .ok (.i2b, 1) := by decide +kernel
theorem kdX1_fillWithNoise_32 : decode prog_3_method_14_code 32 = .ok (.bastore, 1) := by decide +kernel
theorem kdX1_fillWithNoise_33 : decode prog_3_method_14_code 33 = .ok (.aload_n 0, 1) := by decide +kernel
theorem kdX1_fillWithNoise_34 : decode prog_3_method_14_code 34 = .ok (.getfield 12, 3) := by decide +kernel
theorem kdX1_fillWithNoise_37 : decode prog_3_method_14_code 37 = .ok (.aload_n 0, 1) := by decide +kernel
theorem kdX1_fillWithNoise_38 : decode prog_3_method_14_code 38 = .ok (.getfield 40, 3) := by decide +kernel
theorem kdX1_fillWithNoise_41 : decode prog_3_method_14_code 41 = .ok (.iconst 0, 1) := by decide +kernel
theorem kdX1_fillWithNoise_42 : decode prog_3_method_14_code 42 = .ok (.iconst 1, 1) := by decide +kernel
theorem kdX1_fillWithNoise_43 : decode prog_3_method_14_code 43 = .ok (.invokevirtual 72, 3) := by decide +kernel
theorem kdX1_fillWithNoise_46 : decode prog_3_method_14_code 46 = .ok (.aload_n 0, 1) := by decide +kernel
theorem kdX1_fillWithNoise_47 : decode prog_3_method_14_code 47 = .ok (.getfield 12, 3) := by decide +kernel
theorem kdX1_fillWithNoise_50 : decode prog_3_method_14_code 50 = .ok (.bipush 31, 2) := by decide +kernel
theorem kdX1_fillWithNoise_52 : decode prog_3_method_14_code 52 = .ok (.invokevirtual 76, 3) := by decide +kernel
theorem kdX1_fillWithNoise_55 : decode prog_3_method_14_code 55 = .ok (.aload_n 0, 1) := by decide +kernel
theorem kdX1_fillWithNoise_56 : decode prog_3_method_14_code 56 = .ok (.getfield 12, 3) := by decide +kernel
theorem kdX1_fillWithNoise_59 : decode prog_3_method_14_code 59 = .ok (.aload_n 0, 1) := by decide +kernel
theorem kdX1_fillWithNoise_60 : decode prog_3_method_14_code 60 = .ok (.getfield 47, 3) := by decide +kernel
theorem kdX1_fillWithNoise_63 : decode prog_3_method_14_code 63 = .ok (.iconst 0, 1) := by decide +kernel
theorem kdX1_fillWithNoise_64 : decode prog_3_method_14_code 64 = .ok (.bipush 64, 2) := by decide +kernel
theorem kdX1_fillWithNoise_66 : decode prog_3_method_14_code 66 = .ok (.iload_n 2, 1) := by decide +kernel
theorem kdX1_fillWithNoise_67 : decode prog_3_method_14_code 67 = .ok (.imul, 1) := by decide +kernel
theorem kdX1_fillWithNoise_68 : decode prog_3_method_14_code 68 = .ok (.invokevirtual 79, 3) := by decide +kernel
theorem kdX1_fillWithNoise_71 : decode prog_3_method_14_code 71 = .ok (.aload_n 0, 1) := by decide +kernel
theorem kdX1_fillWithNoise_72 : decode prog_3_method_14_code 72 = .ok (.getfield 47, 3) := by decide +kernel
theorem kdX1_fillWithNoise_75 : decode prog_3_method_14_code 75 = .ok (.iconst 0, 1) := by decide +kernel
theorem kdX1_fillWithNoise_76 : decode prog_3_method_14_code 76 = .ok (.iconst 2, 1) := by decide +kernel
theorem kdX1_fillWithNoise_77 : decode prog_3_method_14_code 77 = .ok (.iload_n 2, 1) := by decide +kernel
theorem kdX1_fillWithNoise_78 : decode prog_3_method_14_code 78 = .ok (.imul, 1) := by decide +kernel
theorem kdX1_fillWithNoise_79 : decode prog_3_method_14_code 79 = .ok (.aload_n 1, 1) := by decide +kernel
theorem kdX1_fillWithNoise_80 : decode prog_3_method_14_code 80 = .ok (.invokestatic 130, 3) := by decide +kernel
theorem kdX1_fillWithNoise_83 : decode prog_3_method_14_code 83 = .ok (.iconst 0, 1) := by decide +kernel
theorem kdX1_fillWithNoise_84 : decode prog_3_method_14_code 84 = .ok (.istore 4, 2) := by decide +kernel
theorem kdX1_fillWithNoise_86 : decode prog_3_method_14_code 86 = .ok (.iload 4, 2) := by decide +kernel
theorem kdX1_fillWithNoise_88 : decode prog_3_method_14_code 88 = .ok (.sipush 256, 3) := by decide +kernel
theorem kdX1_fillWithNoise_91 : decode prog_3_method_14_code 91 = .ok (.if_icmp .ge 52, 3) := by decide +kernel
theorem kdX1_fillWithNoise_94 : decode prog_3_method_14_code 94 = .ok (.aload_n 1, 1) := by decide +kernel
theorem kdX1_fillWithNoise_95 : decode prog_3_method_14_code 95 = .ok (.iload 4, 2) := by decide +kernel
theorem kdX1_fillWithNoise_97 : decode prog_3_method_14_code 97 = .ok (.iaload, 1) := by decide +kernel
theorem kdX1_fillWithNoise_98 : decode prog_3_method_14_code 98 = .ok (.iconst 1, 1) := by decide +kernel
theorem kdX1_fillWithNoise_99 : decode prog_3_method_14_code 99 = .ok (.iload_n 2, 1) := by decide +kernel
theorem kdX1_fillWithNoise_100 : decode prog_3_method_14_code 100 = .ok (.ishl, 1) := by decide +kernel
theorem kdX1_fillWithNoise_101 : decode prog_3_method_14_code 101 = .ok (.iconst 1, 1) := by decide +kernel
theorem kdX1_fillWithNoise_102 : decode prog_3_method_14_code 102 = .ok (.isub, 1) := by decide +kernel
theorem kdX1_fillWithNoise_103 : decode prog_3_method_14_code 103 = .ok (.iand, 1) := by decide +kernel
theorem kdX1_fillWithNoise_104 : decode prog_3_method_14_code 104 = .ok (.invokestatic 205, 3) := by decide +kernel
theorem kdX1_fillWithNoise_107 : decode prog_3_method_14_code 107 = .ok (.istore 5, 2) := by decide +kernel
theorem kdX1_fillWithNoise_109 : decode prog_3_method_14_code 109 = .ok (.aload_n 1, 1) := by decide +kernel
theorem kdX1_fillWithNoise_110 : decode prog_3_method_14_code 110 = .ok (.iload 4, 2) := by decide +kernel
theorem kdX1_fillWithNoise_112 : decode prog_3_method_14_code 112 = .ok (.iaload, 1) := by decide +kernel
theorem kdX1_fillWithNoise_113 : decode prog_3_method_14_code 113 = .ok (.iload_n 2, 1) := by decide +kernel
theorem kdX1_fillWithNoise_114 : decode prog_3_method_14_code 114 = .ok (.ishr, 1) := by decide +kernel
theorem kdX1_fillWithNoise_115 : decode prog_3_method_14_code 115 = .ok (.invokestatic 205, 3) := by decide +kernel
theorem kdX1_fillWithNoise_118 : decode prog_3_method_14_code 118 = .ok (.istore 6, 2) := by decide +kernel
theorem kdX1_fillWithNoise_120 : decode prog_3_method_14_code 120 = .ok (.aload_n 1, 1) := by decide +kernel
theorem kdX1_fillWithNoise_121 : decode prog_3_method_14_code 121 = .ok (.iload 4, 2) := by decide +kernel
theorem kdX1_fillWithNoise_123 : decode prog_3_method_14_code 123 = .ok (.iload 5, 2) := by decide +kernel
theorem kdX1_fillWithNoise_125 : decode prog_3_method_14_code 125 = .ok (.sipush 3329, 3) := by decide +kernel
theorem kdX1_fillWithNoise_128 : decode prog_3_method_14_code 128 = .ok (.iadd, 1) := by decide +kernel
theorem kdX1_fillWithNoise_129 : decode prog_3_method_14_code 129 = .ok (.iload 6, 2) := by decide +kernel
theorem kdX1_fillWithNoise_131 : decode prog_3_method_14_code 131 = .ok (.isub, 1) := by decide +kernel
theorem kdX1_fillWithNoise_132 : decode prog_3_method_14_code 132 = .ok (.sipush 3329, 3) := by decide +kernel
theorem kdX1_fillWithNoise_135 : decode prog_3_method_14_code 135 = .ok (.irem, 1) := by decide +kernel
theorem kdX1_fillWithNoise_136 : decode prog_3_method_14_code 136 = .ok (.iastore, 1) := by decide +kernel
theorem kdX1_fillWithNoise_137 : decode prog_3_method_14_code 137 = .ok (.iinc 4 1, 3) := by decide +kernel
theorem kdX1_fillWithNoise_140 : decode prog_3_method_14_code 140 = .ok (.goto (-54), 3) := by decide +kernel
theorem kdX1_fillWithNoise_143 : decode prog_3_method_14_code 143 = .ok (.return_, 1) := by decide +kernel
theorem kdX1_fillHash_0 : decode prog_3_method_15_code 0 = .ok (.aload_n 0, 1) := by decide +kernel
theorem kdX1_fillHash_1 : decode prog_3_method_15_code 1 = .ok (.getfield 12, 3) := by decide +kernel
theorem kdX1_fillHash_4 : decode prog_3_method_15_code 4 = .ok (.sipush 136, 3) := by decide +kernel
theorem kdX1_fillHash_7 : decode prog_3_method_15_code 7 = .ok (.invokevirtual 68, 3) := by decide +kernel
theorem kdX1_fillHash_10 : decode prog_3_method_15_code 10 = .ok (.aload_n 0, 1) := by decide +kernel
theorem kdX1_fillHash_11 : decode prog_3_method_15_code 11 = .ok (.getfield 12, 3) := by decide +kernel
theorem kdX1_fillHash_14 : decode prog_3_method_15_code 14 = .ok (.aload_n 1, 1) := by decide +kernel
theorem kdX1_fillHash_15 : decode prog_3_method_15_code 15 = .ok (.iload_n 2, 1) := by decide +kernel
theorem kdX1_fillHash_16 : decode prog_3_method_15_code 16 = .ok (.iload_n 3, 1) := by decide +kernel
theorem kdX1_fillHash_17 : decode prog_3_method_15_code 17 = .ok (.invokevirtual 72, 3) := by decide +kernel
theorem kdX1_fillHash_20 : decode prog_3_method_15_code 20 = .ok (.aload_n 0, 1) := by decide +kernel
theorem kdX1_fillHash_21 : decode prog_3_method_15_code 21 = .ok (.getfield 12, 3) := by decide +kernel
theorem kdX1_fillHash_24 : decode prog_3_method_15_code 24 = .ok (.bipush 6, 2) := by decide +kernel
theorem kdX1_fillHash_26 : decode prog_3_method_15_code 26 = .ok (.invokevirtual 76, 3) := by decide +kernel
theorem kdX1_fillHash_29 : decode prog_3_method_15_code 29 = .ok (.aload_n 0, 1) := by decide +kernel
theorem kdX1_fillHash_30 : decode prog_3_method_15_code 30 = .ok (.getfield 12, 3) := by decide +kernel
theorem kdX1_fillHash_33 : decode prog_3_method_15_code 33 = .ok (.aload_n 0, 1) := by decide +kernel
theorem kdX1_fillHash_34 : decode prog_3_method_15_code 34 = .ok (.getfield 50, 3) := by decide +kernel
theorem kdX1_fillHash_37 : decode prog_3_method_15_code 37 = .ok (.iconst 0, 1) := by decide +kernel
theorem kdX1_fillHash_38 : decode prog_3_method_15_code 38 = .ok (.bipush 32, 2) := by decide +kernel
theorem kdX1_fillHash_40 : decode prog_3_method_15_code 40 = .ok (.invokevirtual 79, 3) := by decide +kernel
theorem kdX1_fillHash_43 : decode prog_3_method_15_code 43 = .ok (.return_, 1) := by decide +kernel
theorem kdX1_deriveSeeds_0 : decode prog_3_method_16_code 0 = .ok (.aload_n 0, 1) := by decide +kernel
theorem kdX1_deriveSeeds_1 : decode prog_3_method_16_code 1 = .ok (.getfield 12, 3) := by decide +kernel
theorem kdX1_deriveSeeds_4 : decode prog_3_method_16_code 4 = .ok (.bipush 72, 2) := by decide +kernel
theorem kdX1_deriveSeeds_6 : decode prog_3_method_16_code 6 = .ok (.invokevirtual 68, 3) := by decide +kernel
theorem kdX1_deriveSeeds_9 : decode prog_3_method_16_code 9 = .ok (.aload_n 0, 1) := by decide +kernel
theorem kdX1_deriveSeeds_10 : decode prog_3_method_16_code 10 = .ok (.getfield 12, 3) := by decide +kernel
theorem kdX1_deriveSeeds_13 : decode prog_3_method_16_code 13 = .ok (.aload_n 1, 1) := by decide +kernel
theorem kdX1_deriveSeeds_14 : decode prog_3_method_16_code 14 = .ok (.iconst 0, 1) := by decide +kernel
theorem kdX1_deriveSeeds_15 : decode prog_3_method_16_code 15 = .ok (.bipush 32, 2) := by decide +kernel
theorem kdX1_deriveSeeds_17 : decode prog_3_method_16_code 17 = .ok (.invokevirtual 72, 3) := by decide +kernel
theorem kdX1_deriveSeeds_20 : decode prog_3_method_16_code 20 = .ok (.aload_n 0, 1) := by decide +kernel
theorem kdX1_deriveSeeds_21 : decode prog_3_method_16_code 21 = .ok (.getfield 12, 3) := by decide +kernel
theorem kdX1_deriveSeeds_24 : decode prog_3_method_16_code 24 = .ok (.aload_n 2, 1) := by decide +kernel
theorem kdX1_deriveSeeds_25 : decode prog_3_method_16_code 25 = .ok (.iload_n 3, 1) := by decide +kernel
theorem kdX1_deriveSeeds_26 : decode prog_3_method_16_code 26 = .ok (.bipush 32, 2) := by decide +kernel
theorem kdX1_deriveSeeds_28 : decode prog_3_method_16_code 28 = .ok (.invokevirtual 72, 3) := by decide +kernel
theorem kdX1_deriveSeeds_31 : decode prog_3_method_16_code 31 = .ok (.aload_n 0, 1) := by decide +kernel
theorem kdX1_deriveSeeds_32 : decode prog_3_method_16_code 32 = .ok (.getfield 12, 3) := by decide +kernel
theorem kdX1_deriveSeeds_35 : decode prog_3_method_16_code 35 = .ok (.bipush 6, 2) := by decide +kernel
theorem kdX1_deriveSeeds_37 : decode prog_3_method_16_code 37 = .ok (.invokevirtual 76, 3) := by decide +kernel
theorem kdX1_deriveSeeds_40 : decode prog_3_method_16_code 40 = .ok (.aload_n 0, 1) := by decide +kernel
theorem kdX1_deriveSeeds_41 : decode prog_3_method_16_code 41 = .ok (.getfield 12, 3) := by decide +kernel
theorem kdX1_deriveSeeds_44 : decode prog_3_method_16_code 44 = .ok (.aload_n 0, 1) := by decide +kernel
theorem kdX1_deriveSeeds_45 : decode prog_3_method_16_code 45 = .ok (.getfield 59, 3) := by decide +kernel
theorem kdX1_deriveSeeds_48 : decode prog_3_method_16_code 48 = .ok (.iconst 0, 1) := by decide +kernel
theorem kdX1_deriveSeeds_49 : decode prog_3_method_16_code 49 = .ok (.bipush 64, 2) := by decide +kernel
theorem kdX1_deriveSeeds_51 : decode prog_3_method_16_code 51 = .ok (.invokevirtual 79, 3) := by decide +kernel
theorem kdX1_deriveSeeds_54 : decode prog_3_method_16_code 54 = .ok (.return_, 1) := by decide +kernel
