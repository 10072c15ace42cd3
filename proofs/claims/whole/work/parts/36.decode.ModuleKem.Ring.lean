theorem kdX2_init_0 : decode prog_4_method_1_code 0 = .ok (.aload_n 0, 1) := by decide +kernel
theorem kdX2_init_1 : decode prog_4_method_1_code 1 = .ok (.invokespecial 3, 3) := by decide +kernel
theorem kdX2_init_4 : decode prog_4_method_1_code 4 = .ok (.aload_n 0, 1) := by decide +kernel
theorem kdX2_init_5 : decode prog_4_method_1_code 5 = .ok (.sipush 128, 3) := by decide +kernel
theorem kdX2_init_8 : decode prog_4_method_1_code 8 = .ok (.newarray .int, 2) := by decide +kernel
theorem kdX2_init_10 : decode prog_4_method_1_code 10 = .ok (.putfield 9, 3) := by decide +kernel
theorem kdX2_init_13 : decode prog_4_method_1_code 13 = .ok (.iconst 1, 1) := by decide +kernel
theorem kdX2_init_14 : decode prog_4_method_1_code 14 = .ok (.istore_n 1, 1) := by decide +kernel
theorem kdX2_init_15 : decode prog_4_method_1_code 15 = .ok (.iconst 0, 1) := by decide +kernel
theorem kdX2_init_16 : decode prog_4_method_1_code 16 = .ok (.istore_n 2, 1) := by decide +kernel
theorem kdX2_init_17 : decode prog_4_method_1_code 17 = .ok (.iload_n 2, 1) := by decide +kernel
theorem kdX2_init_18 : decode prog_4_method_1_code 18 = .ok (.aload_n 0, 1) := by decide +kernel
theorem kdX2_init_19 : decode prog_4_method_1_code 19 = .ok (.getfield 9, 3) := by decide +kernel
theorem kdX2_init_22 : decode prog_4_method_1_code 22 = .ok (.arraylength, 1) := by decide +kernel
theorem kdX2_init_23 : decode prog_4_method_1_code 23 = .ok (.if_icmp .ge 28, 3) := by decide +kernel
theorem kdX2_init_26 : decode prog_4_method_1_code 26 = .ok (.aload_n 0, 1) := by decide +kernel
theorem kdX2_init_27 : decode prog_4_method_1_code 27 = .ok (.getfield 9, 3) := by decide +kernel
theorem kdX2_init_30 : decode prog_4_method_1_code 30 = .ok (.iload_n 2, 1) := by decide +kernel
theorem kdX2_init_31 : decode prog_4_method_1_code 31 = .ok (.invokestatic 15, 3) := by decide +kernel
theorem kdX2_init_34 : decode prog_4_method_1_code 34 = .ok (.iload_n 1, 1) := by decide +kernel
theorem kdX2_init_35 : decode prog_4_method_1_code 35 = .ok (.iastore, 1) := by decide +kernel
theorem kdX2_init_36 : decode prog_4_method_1_code 36 = .ok (.iload_n 1, 1) := by decide +kernel
theorem kdX2_init_37 : decode prog_4_method_1_code 37 = .ok (.bipush 17, 2) := by decide +kernel
theorem kdX2_init_39 : decode prog_4_method_1_code 39 = .ok (.imul, 1) := by decide +kernel
theorem kdX2_init_40 : decode prog_4_method_1_code 40 = .ok (.sipush 3329, 3) := by decide +kernel
theorem kdX2_init_43 : decode prog_4_method_1_code 43 = .ok (.irem, 1) := by decide +kernel
theorem kdX2_init_44 : decode prog_4_method_1_code 44 = .ok (.istore_n 1, 1) := by decide +kernel
theorem kdX2_init_45 : decode prog_4_method_1_code 45 = .ok (.iinc 2 1, 3) := by decide +kernel
theorem kdX2_init_48 : decode prog_4_method_1_code 48 = .ok (.goto (-31), 3) := by decide +kernel
theorem kdX2_init_51 : decode prog_4_method_1_code 51 = .ok (.return_, 1) := by decide +kernel
theorem kdX2_turnedRound_0 : decode prog_4_method_2_code 0 = .ok (.iconst 0, 1) := by decide +kernel
theorem kdX2_turnedRound_1 : decode prog_4_method_2_code 1 = .ok (.istore_n 1, 1) := by decide +kernel
theorem kdX2_turnedRound_2 : decode prog_4_method_2_code 2 = .ok (.iconst 0, 1) := by decide +kernel
theorem kdX2_turnedRound_3 : decode prog_4_method_2_code 3 = .ok (.istore_n 2, 1) := by decide +kernel
theorem kdX2_turnedRound_4 : decode prog_4_method_2_code 4 = .ok (.iload_n 2, 1) := by decide +kernel
theorem kdX2_turnedRound_5 : decode prog_4_method_2_code 5 = .ok (.bipush 7, 2) := by decide +kernel
theorem kdX2_turnedRound_7 : decode prog_4_method_2_code 7 = .ok (.if_icmp .ge 19, 3) := by decide +kernel
theorem kdX2_turnedRound_10 : decode prog_4_method_2_code 10 = .ok (.iload_n 1, 1) := by decide +kernel
theorem kdX2_turnedRound_11 : decode prog_4_method_2_code 11 = .ok (.iconst 1, 1) := by decide +kernel
theorem kdX2_turnedRound_12 : decode prog_4_method_2_code 12 = .ok (.ishl, 1) := by decide +kernel
theorem kdX2_turnedRound_13 : decode prog_4_method_2_code 13 = .ok (.iload_n 0, 1) := by decide +kernel
theorem kdX2_turnedRound_14 : decode prog_4_method_2_code 14 = .ok (.iload_n 2, 1) := by decide +kernel
theorem kdX2_turnedRound_15 : decode prog_4_method_2_code 15 = .ok (.ishr, 1) := by decide +kernel
theorem kdX2_turnedRound_16 : decode prog_4_method_2_code 16 = .ok (.iconst 1, 1) := by decide +kernel
theorem kdX2_turnedRound_17 : decode prog_4_method_2_code 17 = .ok (.iand, 1) := by decide +kernel
theorem kdX2_turnedRound_18 : decode prog_4_method_2_code 18 = .ok (.ior, 1) := by decide +kernel
theorem kdX2_turnedRound_19 : decode prog_4_method_2_code 19 = .ok (.istore_n 1, 1) := by decide +kernel
theorem kdX2_turnedRound_20 : decode prog_4_method_2_code 20 = .ok (.iinc 2 1, 3) := by decide +kernel
theorem kdX2_turnedRound_23 : decode prog_4_method_2_code 23 = .ok (.goto (-19), 3) := by decide +kernel
theorem kdX2_turnedRound_26 : decode prog_4_method_2_code 26 = .ok (.iload_n 1, 1) := by decide +kernel
theorem kdX2_turnedRound_27 : decode prog_4_method_2_code 27 = .ok (.ireturn, 1) := by decide +kernel
theorem kdX2_transform_0 : decode prog_4_method_3_code 0 = .ok (.iconst 1, 1) := by decide +kernel
theorem kdX2_transform_1 : decode prog_4_method_3_code 1 = .ok (.istore_n 2, 1) := by decide +kernel
theorem kdX2_transform_2 : decode prog_4_method_3_code 2 = .ok (.sipush 128, 3) := by decide +kernel
theorem kdX2_transform_5 : decode prog_4_method_3_code 5 = .ok (.istore_n 3, 1) := by decide +kernel
theorem kdX2_transform_6 : decode prog_4_method_3_code 6 = .ok (.iload_n 3, 1) := by decide +kernel
theorem kdX2_transform_7 : decode prog_4_method_3_code 7 = .ok (.iconst 2, 1) := by decide +kernel
theorem kdX2_transform_8 : decode prog_4_method_3_code 8 = .ok (.if_icmp .lt 113, 3) := by decide +kernel
theorem kdX2_transform_11 : decode prog_4_method_3_code 11 = .ok (.iconst 0, 1) := by decide +kernel
theorem kdX2_transform_12 : decode prog_4_method_3_code 12 = .ok (.istore 4, 2) := by decide +kernel
theorem kdX2_transform_14 : decode prog_4_method_3_code 14 = .ok (.iload 4, 2) := by decide +kernel
theorem kdX2_transform_16 : decode prog_4_method_3_code 16 = .ok (.sipush 256, 3) := by decide +kernel
theorem kdX2_transform_19 : decode prog_4_method_3_code 19 = .ok (.if_icmp .ge 95, 3) := by decide +kernel
theorem kdX2_transform_22 : decode prog_4_method_3_code 22 = .ok (.aload_n 0, 1) := by decide +kernel
theorem kdX2_transform_23 : decode prog_4_method_3_code 23 = .ok (.getfield 9, 3) := by decide +kernel
theorem kdX2_transform_26 : decode prog_4_method_3_code 26 = .ok (.iload_n 2, 1) := by decide +kernel
theorem kdX2_transform_27 : decode prog_4_method_3_code 27 = .ok (.iaload, 1) := by decide +kernel
theorem kdX2_transform_28 : decode prog_4_method_3_code 28 = .ok (.istore 5, 2) := by decide +kernel
theorem kdX2_transform_30 : decode prog_4_method_3_code 30 = .ok (.iinc 2 1, 3) := by decide +kernel
theorem kdX2_transform_33 : decode prog_4_method_3_code 33 = .ok (.iload 4, 2) := by decide +kernel
theorem kdX2_transform_35 : decode prog_4_method_3_code 35 = .ok (.istore 6, 2) := by decide +kernel
theorem kdX2_transform_37 : decode prog_4_method_3_code 37 = .ok (.iload 6, 2) := by decide +kernel
theorem kdX2_transform_39 : decode prog_4_method_3_code 39 = .ok (.iload 4, 2) := by decide +kernel
theorem kdX2_transform_41 : decode prog_4_method_3_code 41 = .ok (.iload_n 3, 1) := by decide +kernel
theorem kdX2_transform_42 : decode prog_4_method_3_code 42 = .ok (.iadd, 1) := by decide +kernel
theorem kdX2_transform_43 : decode prog_4_method_3_code 43 = .ok (.if_icmp .ge 60, 3) := by decide +kernel
theorem kdX2_transform_46 : decode prog_4_method_3_code 46 = .ok (.iload 5, 2) := by decide +kernel
theorem kdX2_transform_48 : decode prog_4_method_3_code 48 = .ok (.aload_n 1, 1) := by decide +kernel
theorem kdX2_transform_49 : decode prog_4_method_3_code 49 = .ok (.iload 6, 2) := by decide +kernel
theorem kdX2_transform_51 : decode prog_4_method_3_code 51 = .ok (.iload_n 3, 1) := by decide +kernel
theorem kdX2_transform_52 : decode prog_4_method_3_code 52 = .ok (.iadd, 1) := by decide +kernel
theorem kdX2_transform_53 : decode prog_4_method_3_code 53 = .ok (.iaload, 1) := by decide +kernel
theorem kdX2_transform_54 : decode prog_4_method_3_code 54 = .ok (.imul, 1) := by decide +kernel
theorem kdX2_transform_55 : decode prog_4_method_3_code 55 = .ok (.sipush 3329, 3) := by decide +kernel
theorem kdX2_transform_58 : decode prog_4_method_3_code 58 = .ok (.irem, 1) := by decide +kernel
theorem kdX2_transform_59 : decode prog_4_method_3_code 59 = .ok (.istore 7, 2) := by decide +kernel
theorem kdX2_transform_61 : decode prog_4_method_3_code 61 = .ok (.aload_n 1, 1) := by decide +kernel
theorem kdX2_transform_62 : decode prog_4_method_3_code 62 = .ok (.iload 6, 2) := by decide +kernel
theorem kdX2_transform_64 : decode prog_4_method_3_code 64 = .ok (.iload_n 3, 1) := by decide +kernel
theorem kdX2_transform_65 : decode prog_4_method_3_code 65 = .ok (.iadd, 1) := by decide +kernel
theorem kdX2_transform_66 : decode prog_4_method_3_code 66 = .ok (.aload_n 1, 1) := by decide +kernel
theorem kdX2_transform_67 : decode prog_4_method_3_code 67 = .ok (.iload 6, 2) := by decide +kernel
theorem kdX2_transform_69 : decode prog_4_method_3_code 69 = .ok (.iaload, 1) := by decide +kernel
theorem kdX2_transform_70 : decode prog_4_method_3_code 70 = .ok (.sipush 3329, 3) := by decide +kernel
theorem kdX2_transform_73 : decode prog_4_method_3_code 73 = .ok (.iadd, 1) := by decide +kernel
theorem kdX2_transform_74 : decode prog_4_method_3_code 74 = .ok (.iload 7, 2) := by decide +kernel
theorem kdX2_transform_76 : decode prog_4_method_3_code 76 = .ok (.isub, 1) := by decide +kernel
theorem kdX2_transform_77 : decode prog_4_method_3_code 77 = .ok (.sipush 3329, 3) := by decide +kernel
theorem kdX2_transform_80 : decode prog_4_method_3_code 80 = .ok (.irem, 1) := by decide +kernel
theorem kdX2_transform_81 : decode prog_4_method_3_code 81 = .ok (.iastore, 1) := by decide +kernel
theorem kdX2_transform_82 : decode prog_4_method_3_code 82 = .ok (.aload_n 1, 1) := by decide +kernel
theorem kdX2_transform_83 : decode prog_4_method_3_code 83 = .ok (.iload 6, 2) := by decide +kernel
theorem kdX2_transform_85 : decode prog_4_method_3_code 85 = .ok (.aload_n 1, 1) := by decide +kernel
theorem kdX2_transform_86 : decode prog_4_method_3_code 86 = .ok (.iload 6, 2) := by decide +kernel
theorem kdX2_transform_88 : decode prog_4_method_3_code 88 = .ok (.iaload, 1) := by decide +kernel
theorem kdX2_transform_89 : decode prog_4_method_3_code 89 = .ok (.iload 7, 2) := by decide +kernel
theorem kdX2_transform_91 : decode prog_4_method_3_code 91 = .ok (.iadd, 1) := by decide +kernel
theorem kdX2_transform_92 : decode prog_4_method_3_code 92 = .ok (.sipush 3329, 3) := by decide +kernel
theorem kdX2_transform_95 : decode prog_4_method_3_code 95 = .ok (.irem, 1) := by decide +kernel
theorem kdX2_transform_96 : decode prog_4_method_3_code 96 = .ok (.iastore, 1) := by decide +kernel
theorem kdX2_transform_97 : decode prog_4_method_3_code 97 = .ok (.iinc 6 1, 3) := by decide +kernel
theorem kdX2_transform_100 : decode prog_4_method_3_code 100 = .ok (.goto (-63), 3) := by decide +kernel
theorem kdX2_transform_103 : decode prog_4_method_3_code 103 = .ok (.iload 4, 2) := by decide +kernel
theorem kdX2_transform_105 : decode prog_4_method_3_code 105 = .ok (.iconst 2, 1) := by decide +kernel
theorem kdX2_transform_106 : decode prog_4_method_3_code 106 = .ok (.iload_n 3, 1) := by decide +kernel
theorem kdX2_transform_107 : decode prog_4_method_3_code 107 = .ok (.imul, 1) := by decide +kernel
theorem kdX2_transform_108 : decode prog_4_method_3_code 108 = .ok (.iadd, 1) := by decide +kernel
theorem kdX2_transform_109 : decode prog_4_method_3_code 109 = .ok (.istore 4, 2) := by decide +kernel
theorem kdX2_transform_111 : decode prog_4_method_3_code 111 = .ok (.goto (-97), 3) := by decide +kernel
theorem kdX2_transform_114 : decode prog_4_method_3_code 114 = .ok (.iload_n 3, 1) := by decide +kernel
theorem kdX2_transform_115 : decode prog_4_method_3_code 115 = .ok (.iconst 2, 1) := by decide +kernel
theorem kdX2_transform_116 : decode prog_4_method_3_code 116 = .ok (.idiv, 1) := by decide +kernel
theorem kdX2_transform_117 : decode prog_4_method_3_code 117 = .ok (.istore_n 3, 1) := by decide +kernel
theorem kdX2_transform_118 : decode prog_4_method_3_code 118 = .ok (.goto (-112), 3) := by decide +kernel
theorem kdX2_transform_121 : decode prog_4_method_3_code 121 = .ok (.return_, 1) := by decide +kernel
theorem kdX2_transformBack_0 : decode prog_4_method_4_code 0 = .ok (.bipush 127, 2) := by decide +kernel
theorem kdX2_transformBack_2 : decode prog_4_method_4_code 2 = .ok (.istore_n 2, 1) := by decide +kernel
theorem kdX2_transformBack_3 : decode prog_4_method_4_code 3 = .ok (.iconst 2, 1) := by decide +kernel
theorem kdX2_transformBack_4 : decode prog_4_method_4_code 4 = .ok (.istore_n 3, 1) := by decide +kernel
theorem kdX2_transformBack_5 : decode prog_4_method_4_code 5 = .ok (.iload_n 3, 1) := by decide +kernel
theorem kdX2_transformBack_6 : decode prog_4_method_4_code 6 = .ok (.sipush 128, 3) := by decide +kernel
theorem kdX2_transformBack_9 : decode prog_4_method_4_code 9 = .ok (.if_icmp .gt 113, 3) := by decide +kernel
theorem kdX2_transformBack_12 : decode prog_4_method_4_code 12 = .ok (.iconst 0, 1) := by decide +kernel
theorem kdX2_transformBack_13 : decode prog_4_method_4_code 13 = .ok (.istore 4, 2) := by decide +kernel
theorem kdX2_transformBack_15 : decode prog_4_method_4_code 15 = .ok (.iload 4, 2) := by decide +kernel
theorem kdX2_transformBack_17 : decode prog_4_method_4_code 17 = .ok (.sipush 256, 3) := by decide +kernel
theorem kdX2_transformBack_20 : decode prog_4_method_4_code 20 = .ok (.if_icmp .ge 95, 3) := by decide +kernel
theorem kdX2_transformBack_23 : decode prog_4_method_4_code 23 = .ok (.aload_n 0, 1) := by decide +kernel
theorem kdX2_transformBack_24 : decode prog_4_method_4_code 24 = .ok (.getfield 9, 3) := by decide +kernel
theorem kdX2_transformBack_27 : decode prog_4_method_4_code 27 = .ok (.iload_n 2, 1) := by decide +kernel
theorem kdX2_transformBack_28 : decode prog_4_method_4_code 28 = .ok (.iaload, 1) := by decide +kernel
theorem kdX2_transformBack_29 : decode prog_4_method_4_code 29 = .ok (.istore 5, 2) := by decide +kernel
theorem kdX2_transformBack_31 : decode prog_4_method_4_code 31 = .ok (.iinc 2 (-1), 3) := by decide +kernel
theorem kdX2_transformBack_34 : decode prog_4_method_4_code 34 = .ok (.iload 4, 2) := by decide +kernel
theorem kdX2_transformBack_36 : decode prog_4_method_4_code 36 = .ok (.istore 6, 2) := by decide +kernel
theorem kdX2_transformBack_38 : decode prog_4_method_4_code 38 = .ok (.iload 6, 2) := by decide +kernel
theorem kdX2_transformBack_40 : decode prog_4_method_4_code 40 = .ok (.iload 4, 2) := by decide +kernel
theorem kdX2_transformBack_42 : decode prog_4_method_4_code 42 = .ok (.iload_n 3, 1) := by decide +kernel
theorem kdX2_transformBack_43 : decode prog_4_method_4_code 43 = .ok (.iadd, 1) := by decide +kernel
theorem kdX2_transformBack_44 : decode prog_4_method_4_code 44 = .ok (.if_icmp .ge 60, 3) := by decide +kernel
theorem kdX2_transformBack_47 : decode prog_4_method_4_code 47 = .ok (.aload_n 1, 1) := by decide +kernel
theorem kdX2_transformBack_48 : decode prog_4_method_4_code 48 = .ok (.iload 6, 2) := by decide +kernel
theorem kdX2_transformBack_50 : decode prog_4_method_4_code 50 = .ok (.iload_n 3, 1) := by decide +kernel
theorem kdX2_transformBack_51 : decode prog_4_method_4_code 51 = .ok (.iadd, 1) := by decide +kernel
theorem kdX2_transformBack_52 : decode prog_4_method_4_code 52 = .ok (.iaload, 1) := by decide +kernel
theorem kdX2_transformBack_53 : decode prog_4_method_4_code 53 = .ok (.sipush 3329, 3) := by decide +kernel
theorem kdX2_transformBack_56 : decode prog_4_method_4_code 56 = .ok (.iadd, 1) := by decide +kernel
theorem kdX2_transformBack_57 : decode prog_4_method_4_code 57 = .ok (.aload_n 1, 1) := by decide +kernel
theorem kdX2_transformBack_58 : decode prog_4_method_4_code 58 = .ok (.iload 6, 2) := by decide +kernel
theorem kdX2_transformBack_60 : decode prog_4_method_4_code 60 = .ok (.iaload, 1) := by decide +kernel
theorem kdX2_transformBack_61 : decode prog_4_method_4_code 61 = .ok (.isub, 1) := by decide +kernel
theorem kdX2_transformBack_62 : decode prog_4_method_4_code 62 = .ok (.istore 7, 2) := by decide +kernel
theorem kdX2_transformBack_64 : decode prog_4_method_4_code 64 = .ok (.aload_n 1, 1) := by decide +kernel
theorem kdX2_transformBack_65 : decode prog_4_method_4_code 65 = .ok (.iload 6, 2) := by decide +kernel
theorem kdX2_transformBack_67 : decode prog_4_method_4_code 67 = .ok (.aload_n 1, 1) := by decide +kernel
theorem kdX2_transformBack_68 : decode prog_4_method_4_code 68 = .ok (.iload 6, 2) := by decide +kernel
theorem kdX2_transformBack_70 : decode prog_4_method_4_code 70 = .ok (.iaload, 1) := by decide +kernel
theorem kdX2_transformBack_71 : decode prog_4_method_4_code 71 = .ok (.aload_n 1, 1) := by decide +kernel
theorem kdX2_transformBack_72 : decode prog_4_method_4_code 72 = .ok (.iload 6, 2) := by decide +kernel
theorem kdX2_transformBack_74 : decode prog_4_method_4_code 74 = .ok (.iload_n 3, 1) := by decide +kernel
theorem kdX2_transformBack_75 : decode prog_4_method_4_code 75 = .ok (.iadd, 1) := by decide +kernel
theorem kdX2_transformBack_76 : decode prog_4_method_4_code 76 = .ok (.iaload, 1) := by decide +kernel
theorem kdX2_transformBack_77 : decode prog_4_method_4_code 77 = .ok (.iadd, 1) := by decide +kernel
theorem kdX2_transformBack_78 : decode prog_4_method_4_code 78 = .ok (.sipush 3329, 3) := by decide +kernel
theorem kdX2_transformBack_81 : decode prog_4_method_4_code 81 = .ok (.irem, 1) := by decide +kernel
theorem kdX2_transformBack_82 : decode prog_4_method_4_code 82 = .ok (.iastore, 1) := by decide +kernel
theorem kdX2_transformBack_83 : decode prog_4_method_4_code 83 = .ok (.aload_n 1, 1) := by decide +kernel
theorem kdX2_transformBack_84 : decode prog_4_method_4_code 84 = .ok (.iload 6, 2) := by decide +kernel
theorem kdX2_transformBack_86 : decode prog_4_method_4_code 86 = .ok (.iload_n 3, 1) := by decide +kernel
theorem kdX2_transformBack_87 : decode prog_4_method_4_code 87 = .ok (.iadd, 1) := by decide +kernel
theorem kdX2_transformBack_88 : decode prog_4_method_4_code 88 = .ok (.iload 5, 2) := by decide +kernel
theorem kdX2_transformBack_90 : decode prog_4_method_4_code 90 = .ok (.iload 7, 2) := by decide +kernel
theorem kdX2_transformBack_92 : decode prog_4_method_4_code 92 = .ok (.imul, 1) := by decide +kernel
theorem kdX2_transformBack_93 : decode prog_4_method_4_code 93 = .ok (.sipush 3329, 3) := by decide +kernel
theorem kdX2_transformBack_96 : decode prog_4_method_4_code 96 = .ok (.irem, 1) := by decide +kernel
theorem kdX2_transformBack_97 : decode prog_4_method_4_code 97 = .ok (.iastore, 1) := by decide +kernel
theorem kdX2_transformBack_98 : decode prog_4_method_4_code 98 = .ok (.iinc 6 1, 3) := by decide +kernel
theorem kdX2_transformBack_101 : decode prog_4_method_4_code 101 = .ok (.goto (-63), 3) := by decide +kernel
theorem kdX2_transformBack_104 : decode prog_4_method_4_code 104 = .ok (.iload 4, 2) := by decide +kernel
theorem kdX2_transformBack_106 : decode prog_4_method_4_code 106 = .ok (.iconst 2, 1) := by decide +kernel
theorem kdX2_transformBack_107 : decode prog_4_method_4_code 107 = .ok (.iload_n 3, 1) := by decide +kernel
theorem kdX2_transformBack_108 : decode prog_4_method_4_code 108 = .ok (.imul, 1) := by decide +kernel
theorem kdX2_transformBack_109 : decode prog_4_method_4_code 109 = .ok (.iadd, 1) := by decide +kernel
theorem kdX2_transformBack_110 : decode prog_4_method_4_code 110 = .ok (.istore 4, 2) := by decide +kernel
theorem kdX2_transformBack_112 : decode prog_4_method_4_code 112 = .ok (.goto (-97), 3) := by decide +kernel
theorem kdX2_transformBack_115 : decode prog_4_method_4_code 115 = .ok (.iload_n 3, 1) := by decide +kernel
theorem kdX2_transformBack_116 : decode prog_4_method_4_code 116 = .ok (.iconst 2, 1) := by decide +kernel
theorem kdX2_transformBack_117 : decode prog_4_method_4_code 117 = .ok (.imul, 1) := by decide +kernel
theorem kdX2_transformBack_118 : decode prog_4_method_4_code 118 = .ok (.istore_n 3, 1) := by decide +kernel
theorem kdX2_transformBack_119 : decode prog_4_method_4_code 119 = .ok (.goto (-114), 3) := by decide +kernel
theorem kdX2_transformBack_122 : decode prog_4_method_4_code 122 = .ok (.iconst 0, 1) := by decide +kernel
theorem kdX2_transformBack_123 : decode prog_4_method_4_code 123 = .ok (.istore_n 3, 1) := by decide +kernel
theorem kdX2_transformBack_124 : decode prog_4_method_4_code 124 = .ok (.iload_n 3, 1) := by decide +kernel
theorem kdX2_transformBack_125 : decode prog_4_method_4_code 125 = .ok (.sipush 256, 3) := by decide +kernel
theorem kdX2_transformBack_128 : decode prog_4_method_4_code 128 = .ok (.if_icmp .ge 23, 3) := by decide +kernel
theorem kdX2_transformBack_131 : decode prog_4_method_4_code 131 = .ok (.aload_n 1, 1) := by decide +kernel
theorem kdX2_transformBack_132 : decode prog_4_method_4_code 132 = .ok (.iload_n 3, 1) := by decide +kernel
theorem kdX2_transformBack_133 : decode prog_4_method_4_code 133 = .ok (.aload_n 1, 1) := by decide +kernel
theorem kdX2_transformBack_134 : decode prog_4_method_4_code 134 = .ok (.iload_n 3, 1) := by decide +kernel
theorem kdX2_transformBack_135 : decode prog_4_method_4_code 135 = .ok (.iaload, 1) := by decide +kernel
theorem kdX2_transformBack_136 : decode prog_4_method_4_code 136 = .ok (.sipush 3303, 3) := by decide +kernel
theorem kdX2_transformBack_139 : decode prog_4_method_4_code 139 = .ok (.imul, 1) := by decide +kernel
theorem kdX2_transformBack_140 : decode prog_4_method_4_code 140 = .ok (.sipush 3329, 3) := by decide +kernel
theorem kdX2_transformBack_143 : decode prog_4_method_4_code 143 = .ok (.irem, 1) := by decide +kernel
theorem kdX2_transformBack_144 : decode prog_4_method_4_code 144 = .ok (.iastore, 1) := by decide +kernel
theorem kdX2_transformBack_145 : decode prog_4_method_4_code 145 = .ok (.iinc 3 1, 3) := by decide +kernel
theorem kdX2_transformBack_148 : decode prog_4_method_4_code 148 = .ok (.goto (-24), 3) := by decide +kernel
theorem kdX2_transformBack_151 : decode prog_4_method_4_code 151 = .ok (.return_, 1) := by decide +kernel
theorem kdX2_addProduct_0 : decode prog_4_method_5_code 0 = .ok (.iconst 0, 1) := by decide +kernel
theorem kdX2_addProduct_1 : decode prog_4_method_5_code 1 = .ok (.istore 4, 2) := by decide +kernel
theorem kdX2_addProduct_3 : decode prog_4_method_5_code 3 = .ok (.iload 4, 2) := by decide +kernel
theorem kdX2_addProduct_5 : decode prog_4_method_5_code 5 = .ok (.bipush 64, 2) := by decide +kernel
theorem kdX2_addProduct_7 : decode prog_4_method_5_code 7 = .ok (.if_icmp .ge 51, 3) := by decide +kernel
theorem kdX2_addProduct_10 : decode prog_4_method_5_code 10 = .ok (.aload_n 0, 1) := by decide +kernel
theorem kdX2_addProduct_11 : decode prog_4_method_5_code 11 = .ok (.getfield 9, 3) := by decide +kernel
theorem kdX2_addProduct_14 : decode prog_4_method_5_code 14 = .ok (.bipush 64, 2) := by decide +kernel
theorem kdX2_addProduct_16 : decode prog_4_method_5_code 16 = .ok (.iload 4, 2) := by decide +kernel
theorem kdX2_addProduct_18 : decode prog_4_method_5_code 18 = .ok (.iadd, 1) := by decide +kernel
theorem kdX2_addProduct_19 : decode prog_4_method_5_code 19 = .ok (.iaload, 1) := by decide +kernel
theorem kdX2_addProduct_20 : decode prog_4_method_5_code 20 = .ok (.istore 5, 2) := by decide +kernel
theorem kdX2_addProduct_22 : decode prog_4_method_5_code 22 = .ok (.aload_n 1, 1) := by decide +kernel
theorem kdX2_addProduct_23 : decode prog_4_method_5_code 23 = .ok (.aload_n 2, 1) := by decide +kernel
theorem kdX2_addProduct_24 : decode prog_4_method_5_code 24 = .ok (.aload_n 3, 1) := by decide +kernel
theorem kdX2_addProduct_25 : decode prog_4_method_5_code 25 = .ok (.iconst 4, 1) := by decide +kernel
theorem kdX2_addProduct_26 : decode prog_4_method_5_code 26 = .ok (.iload 4, 2) := by decide +kernel
theorem kdX2_addProduct_28 : decode prog_4_method_5_code 28 = .ok (.imul, 1) := by decide +kernel
theorem kdX2_addProduct_29 : decode prog_4_method_5_code 29 = .ok (.iload 5, 2) := by decide +kernel
theorem kdX2_addProduct_31 : decode prog_4_method_5_code 31 = .ok (.invokestatic 19, 3) := by decide +kernel
theorem kdX2_addProduct_34 : decode prog_4_method_5_code 34 = .ok (.aload_n 1, 1) := by decide +kernel
theorem kdX2_addProduct_35 : decode prog_4_method_5_code 35 = .ok (.aload_n 2, 1) := by decide +kernel
theorem kdX2_addProduct_36 : decode prog_4_method_5_code 36 = .ok (.aload_n 3, 1) := by decide +kernel
theorem kdX2_addProduct_37 : decode prog_4_method_5_code 37 = .ok (.iconst 4, 1) := by decide +kernel
theorem kdX2_addProduct_38 : decode prog_4_method_5_code 38 = .ok (.iload 4, 2) := by decide +kernel
theorem kdX2_addProduct_40 : decode prog_4_method_5_code 40 = .ok (.imul, 1) := by decide +kernel
theorem kdX2_addProduct_41 : decode prog_4_method_5_code 41 = .ok (.iconst 2, 1) := by decide +kernel
theorem kdX2_addProduct_42 : decode prog_4_method_5_code 42 = .ok (.iadd, 1) := by decide +kernel
theorem kdX2_addProduct_43 : decode prog_4_method_5_code 43 = .ok (.sipush 3329, 3) := by decide +kernel
theorem kdX2_addProduct_46 : decode prog_4_method_5_code 46 = .ok (.iload 5, 2) := by decide +kernel
theorem kdX2_addProduct_48 : decode prog_4_method_5_code 48 = .ok (.isub, 1) := by decide +kernel
theorem kdX2_addProduct_49 : decode prog_4_method_5_code 49 = .ok (.invokestatic 19, 3) := by decide +kernel
theorem kdX2_addProduct_52 : decode prog_4_method_5_code 52 = .ok (.iinc 4 1, 3) := by decide +kernel
theorem kdX2_addProduct_55 : decode prog_4_method_5_code 55 = .ok (.goto (-52), 3) := by decide +kernel
theorem kdX2_addProduct_58 : decode prog_4_method_5_code 58 = .ok (.return_, 1) := by decide +kernel
theorem kdX2_addPairProduct_0 : decode prog_4_method_6_code 0 = .ok (.aload_n 1, 1) := by decide +kernel
theorem kdX2_addPairProduct_1 : decode prog_4_method_6_code 1 = .ok (.iload_n 3, 1) := by decide +kernel
theorem kdX2_addPairProduct_2 : decode prog_4_method_6_code 2 = .ok (.iconst 1, 1) := by decide +kernel
theorem kdX2_addPairProduct_3 : decode prog_4_method_6_code 3 = .ok (.iadd, 1) := by decide +kernel
theorem kdX2_addPairProduct_4 : decode prog_4_method_6_code 4 = .ok (.iaload, 1) := by decide +kernel
theorem kdX2_addPairProduct_5 : decode prog_4_method_6_code 5 = .ok (.aload_n 2, 1) := by decide +kernel
theorem kdX2_addPairProduct_6 : decode prog_4_method_6_code 6 = .ok (.iload_n 3, 1) := by decide +kernel
theorem kdX2_addPairProduct_7 : decode prog_4_method_6_code 7 = .ok (.iconst 1, 1) := by decide +kernel
theorem kdX2_addPairProduct_8 : decode prog_4_method_6_code 8 = .ok (.iadd, 1) := by decide +kernel
theorem kdX2_addPairProduct_9 : decode prog_4_method_6_code 9 = .ok (.iaload, 1) := by decide +kernel
theorem kdX2_addPairProduct_10 : decode prog_4_method_6_code 10 = .ok (.imul, 1) := by decide +kernel
theorem kdX2_addPairProduct_11 : decode prog_4_method_6_code 11 = .ok (.sipush 3329, 3) := by decide +kernel
theorem kdX2_addPairProduct_14 : decode prog_4_method_6_code 14 = .ok (.irem, 1) := by decide +kernel
theorem kdX2_addPairProduct_15 : decode prog_4_method_6_code 15 = .ok (.istore 5, 2) := by decide +kernel
theorem kdX2_addPairProduct_17 : decode prog_4_method_6_code 17 = .ok (.aload_n 0, 1) := by decide +kernel
theorem kdX2_addPairProduct_18 : decode prog_4_method_6_code 18 = .ok (.iload_n 3, 1) := by decide +kernel
theorem kdX2_addPairProduct_19 : decode prog_4_method_6_code 19 = .ok (.aload_n 0, 1) := by decide +kernel
theorem kdX2_addPairProduct_20 : decode prog_4_method_6_code 20 = .ok (.iload_n 3, 1) := by decide +kernel
theorem kdX2_addPairProduct_21 : decode prog_4_method_6_code 21 = .ok (.iaload, 1) := by decide +kernel
theorem kdX2_addPairProduct_22 : decode prog_4_method_6_code 22 = .ok (.aload_n 1, 1) := by decide +kernel
theorem kdX2_addPairProduct_23 : decode prog_4_method_6_code 23 = .ok (.iload_n 3, 1) := by decide +kernel
theorem kdX2_addPairProduct_24 : decode prog_4_method_6_code 24 = .ok (.iaload, 1) := by decide +kernel
theorem kdX2_addPairProduct_25 : decode prog_4_method_6_code 25 = .ok (.aload_n 2, 1) := by decide +kernel
theorem kdX2_addPairProduct_26 : decode prog_4_method_6_code 26 = .ok (.iload_n 3, 1) := by decide +kernel
theorem kdX2_addPairProduct_27 : decode prog_4_method_6_code 27 = .ok (.iaload, 1) := by decide +kernel
theorem kdX2_addPairProduct_28 : decode prog_4_method_6_code 28 = .ok (.imul, 1) := by decide +kernel
theorem kdX2_addPairProduct_29 : decode prog_4_method_6_code 29 = .ok (.iadd, 1) := by decide +kernel
theorem kdX2_addPairProduct_30 : decode prog_4_method_6_code 30 = .ok (.iload 5, 2) := by decide +kernel
theorem kdX2_addPairProduct_32 : decode prog_4_method_6_code 32 = .ok (.iload 4, 2) := by decide +kernel
theorem kdX2_addPairProduct_34 : decode prog_4_method_6_code 34 = .ok (.imul, 1) := by decide +kernel
theorem kdX2_addPairProduct_35 : decode prog_4_method_6_code 35 = .ok (.iadd, 1) := by decide +kernel
theorem kdX2_addPairProduct_36 : decode prog_4_method_6_code 36 = .ok (.sipush 3329, 3) := by decide +kernel
theorem kdX2_addPairProduct_39 : decode prog_4_method_6_code 39 = .ok (.irem, 1) := by decide +kernel
theorem kdX2_addPairProduct_40 : decode prog_4_method_6_code 40 = .ok (.iastore, 1) := by decide +kernel
theorem kdX2_addPairProduct_41 : decode prog_4_method_6_code 41 = .ok (.aload_n 0, 1) := by decide +kernel
theorem kdX2_addPairProduct_42 : decode prog_4_method_6_code 42 = .ok (.iload_n 3, 1) := by decide +kernel
theorem kdX2_addPairProduct_43 : decode prog_4_method_6_code 43 = .ok (.iconst 1, 1) := by decide +kernel
theorem kdX2_addPairProduct_44 : decode prog_4_method_6_code 44 = .ok (.iadd, 1) := by decide +kernel
theorem kdX2_addPairProduct_45 : decode prog_4_method_6_code 45 = .ok (.aload_n 0, 1) := by decide +kernel
theorem kdX2_addPairProduct_46 : decode prog_4_method_6_code 46 = .ok (.iload_n 3, 1) := by decide +kernel
theorem kdX2_addPairProduct_47 : decode prog_4_method_6_code 47 = .ok (.iconst 1, 1) := by decide +kernel
theorem kdX2_addPairProduct_48 : decode prog_4_method_6_code 48 = .ok (.iadd, 1) := by decide +kernel
theorem kdX2_addPairProduct_49 : decode prog_4_method_6_code 49 = .ok (.iaload, 1) := by decide +kernel
theorem kdX2_addPairProduct_50 : decode prog_4_method_6_code 50 = .ok (.aload_n 1, 1) := by decide +kernel
theorem kdX2_addPairProduct_51 : decode prog_4_method_6_code 51 = .ok (.iload_n 3, 1) := by decide +kernel
theorem kdX2_addPairProduct_52 : decode prog_4_method_6_code 52 = .ok (.iaload, 1) := by decide +kernel
theorem kdX2_addPairProduct_53 : decode prog_4_method_6_code 53 = .ok (.aload_n 2, 1) := by decide +kernel
theorem kdX2_addPairProduct_54 : decode prog_4_method_6_code 54 = .ok (.iload_n 3, 1) := by decide +kernel
theorem kdX2_addPairProduct_55 : decode prog_4_method_6_code 55 = .ok (.iconst 1, 1) := by decide +kernel
theorem kdX2_addPairProduct_56 : decode prog_4_method_6_code 56 = .ok (.iadd, 1) := by decide +kernel
theorem kdX2_addPairProduct_57 : decode prog_4_method_6_code 57 = .ok (.iaload, 1) := by decide +kernel
theorem kdX2_addPairProduct_58 : decode prog_4_method_6_code 58 = .ok (.imul, 1) := by decide +kernel
theorem kdX2_addPairProduct_59 : decode prog_4_method_6_code 59 = .ok (.iadd, 1) := by decide +kernel
theorem kdX2_addPairProduct_60 : decode prog_4_method_6_code 60 = .ok (.aload_n 1, 1) := by decide +kernel
theorem kdX2_addPairProduct_61 : decode prog_4_method_6_code 61 = .ok (.iload_n 3, 1) := by decide +kernel
theorem kdX2_addPairProduct_62 : decode prog_4_method_6_code 62 = .ok (.iconst 1, 1) := by decide +kernel
theorem kdX2_addPairProduct_63 : decode prog_4_method_6_code 63 = .ok (.iadd, 1) := by decide +kernel
theorem kdX2_addPairProduct_64 : decode prog_4_method_6_code 64 = .ok (.iaload, 1) := by decide +kernel
theorem kdX2_addPairProduct_65 : decode prog_4_method_6_code 65 = .ok (.aload_n 2, 1) := by decide +kernel
theorem kdX2_addPairProduct_66 : decode prog_4_method_6_code 66 = .ok (.iload_n 3, 1) := by decide +kernel
theorem kdX2_addPairProduct_67 : decode prog_4_method_6_code 67 = .ok (.iaload, 1) := by decide +kernel
theorem kdX2_addPairProduct_68 : decode prog_4_method_6_code 68 = .ok (.imul, 1) := by decide +kernel
theorem kdX2_addPairProduct_69 : decode prog_4_method_6_code 69 = .ok (.iadd, 1) := by decide +kernel
theorem kdX2_addPairProduct_70 : decode prog_4_method_6_code 70 = .ok (.sipush 3329, 3) := by decide +kernel
theorem kdX2_addPairProduct_73 : decode prog_4_method_6_code 73 = .ok (.irem, 1) := by decide +kernel
theorem kdX2_addPairProduct_74 : decode prog_4_method_6_code 74 = .ok (.iastore, 1) := by decide +kernel
theorem kdX2_addPairProduct_75 : decode prog_4_method_6_code 75 = .ok (.return_, 1) := by decide +kernel
theorem kdX2_add_0 : decode prog_4_method_7_code 0 = .ok (.iconst 0, 1) := by decide +kernel
theorem kdX2_add_1 : decode prog_4_method_7_code 1 = .ok (.istore_n 2, 1) := by decide +kernel
theorem kdX2_add_2 : decode prog_4_method_7_code 2 = .ok (.iload_n 2, 1) := by decide +kernel
theorem kdX2_add_3 : decode prog_4_method_7_code 3 = .ok (.sipush 256, 3) := by decide +kernel
theorem kdX2_add_6 : decode prog_4_method_7_code 6 = .ok (.if_icmp .ge 23, 3) := by decide +kernel
theorem kdX2_add_9 : decode prog_4_method_7_code 9 = .ok (.aload_n 0, 1) := by decide +kernel
theorem kdX2_add_10 : decode prog_4_method_7_code 10 = .ok (.iload_n 2, 1) := by decide +kernel
theorem kdX2_add_11 : decode prog_4_method_7_code 11 = .ok (.aload_n 0, 1) := by decide +kernel
theorem kdX2_add_12 : decode prog_4_method_7_code 12 = .ok (.iload_n 2, 1) := by decide +kernel
theorem kdX2_add_13 : decode prog_4_method_7_code 13 = .ok (.iaload, 1) := by decide +kernel
theorem kdX2_add_14 : decode prog_4_method_7_code 14 = .ok (.aload_n 1, 1) := by decide +kernel
theorem kdX2_add_15 : decode prog_4_method_7_code 15 = .ok (.iload_n 2, 1) := by decide +kernel
theorem kdX2_add_16 : decode prog_4_method_7_code 16 = .ok (.iaload, 1) := by decide +kernel
theorem kdX2_add_17 : decode prog_4_method_7_code 17 = .ok (.iadd, 1) := by decide +kernel
theorem kdX2_add_18 : decode prog_4_method_7_code 18 = .ok (.sipush 3329, 3) := by decide +kernel
theorem kdX2_add_21 : decode prog_4_method_7_code 21 = .ok (.irem, 1) := by decide +kernel
theorem kdX2_add_22 : decode prog_4_method_7_code 22 = .ok (.iastore, 1) := by decide +kernel
theorem kdX2_add_23 : decode prog_4_method_7_code 23 = .ok (.iinc 2 1, 3) := by decide +kernel
theorem kdX2_add_26 : decode prog_4_method_7_code 26 = .ok (.goto (-24), 3) := by decide +kernel
theorem kdX2_add_29 : decode prog_4_method_7_code 29 = .ok (.return_, 1) := by decide +kernel
theorem kdX2_clear_0 : decode prog_4_method_8_code 0 = .ok (.iconst 0, 1) := by decide +kernel
theorem kdX2_clear_1 : decode prog_4_method_8_code 1 = .ok (.istore_n 1, 1) := by decide +kernel
theorem kdX2_clear_2 : decode prog_4_method_8_code 2 = .ok (.iload_n 1, 1) := by decide +kernel
theorem kdX2_clear_3 : decode prog_4_method_8_code 3 = .ok (.sipush 256, 3) := by decide +kernel
theorem kdX2_clear_6 : decode prog_4_method_8_code 6 = .ok (.if_icmp .ge 13, 3) := by decide +kernel
theorem kdX2_clear_9 : decode prog_4_method_8_code 9 = .ok (.aload_n 0, 1) := by decide +kernel
theorem kdX2_clear_10 : decode prog_4_method_8_code 10 = .ok (.iload_n 1, 1) := by decide +kernel
theorem kdX2_clear_11 : decode prog_4_method_8_code 11 = .ok (.iconst 0, 1) := by decide +kernel
theorem kdX2_clear_12 : decode prog_4_method_8_code 12 = .ok (.iastore, 1) := by decide +kernel
theorem kdX2_clear_13 : decode prog_4_method_8_code 13 = .ok (.iinc 1 1, 3) := by decide +kernel
theorem kdX2_clear_16 : decode prog_4_method_8_code 16 = .ok (.goto (-14), 3) := by decide +kernel
theorem kdX2_clear_19 : decode prog_4_method_8_code 19 = .ok (.return_, 1) := by decide +kernel
theorem kdX2_subtractFrom_0 : decode prog_4_method_9_code 0 = .ok (.iconst 0, 1) := by decide +kernel
theorem kdX2_subtractFrom_1 : decode prog_4_method_9_code 1 = .ok (.istore_n 2, 1) := by decide +kernel
theorem kdX2_subtractFrom_2 : decode prog_4_method_9_code 2 = .ok (.iload_n 2, 1) := by decide +kernel
theorem kdX2_subtractFrom_3 : decode prog_4_method_9_code 3 = .ok (.sipush 256, 3) := by decide +kernel
theorem kdX2_subtractFrom_6 : decode prog_4_method_9_code 6 = .ok (.if_icmp .ge 27, 3) := by decide +kernel
theorem kdX2_subtractFrom_9 : decode prog_4_method_9_code 9 = .ok (.aload_n 1, 1) := by decide +kernel
theorem kdX2_subtractFrom_10 : decode prog_4_method_9_code 10 = .ok (.iload_n 2, 1) := by decide +kernel
theorem kdX2_subtractFrom_11 : decode prog_4_method_9_code 11 = .ok (.aload_n 0, 1) := by decide +kernel
theorem kdX2_subtractFrom_12 : decode prog_4_method_9_code 12 = .ok (.iload_n 2, 1) := by decide +kernel
theorem kdX2_subtractFrom_13 : decode prog_4_method_9_code 13 = .ok (.iaload, 1) := by decide +kernel
theorem kdX2_subtractFrom_14 : decode prog_4_method_9_code 14 = .ok (.sipush 3329, 3) := by decide +kernel
theorem kdX2_subtractFrom_17 : decode prog_4_method_9_code 17 = .ok (.iadd, 1) := by decide +kernel
theorem kdX2_subtractFrom_18 : decode prog_4_method_9_code 18 = .ok (.aload_n 1, 1) := by decide +kernel
theorem kdX2_subtractFrom_19 : decode prog_4_method_9_code 19 = .ok (.iload_n 2, 1) := by decide +kernel
theorem kdX2_subtractFrom_20 : decode prog_4_method_9_code 20 = .ok (.iaload, 1) := by decide +kernel
theorem kdX2_subtractFrom_21 : decode prog_4_method_9_code 21 = .ok (.isub, 1) := by decide +kernel
theorem kdX2_subtractFrom_22 : decode prog_4_method_9_code 22 = .ok (.sipush 3329, 3) := by decide +kernel
theorem kdX2_subtractFrom_25 : decode prog_4_method_9_code 25 = .ok (.irem, 1) := by decide +kernel
theorem kdX2_subtractFrom_26 : decode prog_4_method_9_code 26 = .ok (.iastore, 1) := by decide +kernel
theorem kdX2_subtractFrom_27 : decode prog_4_method_9_code 27 = .ok (.iinc 2 1, 3) := by decide +kernel
theorem kdX2_subtractFrom_30 : decode prog_4_method_9_code 30 = .ok (.goto (-28), 3) := by decide +kernel
theorem kdX2_subtractFrom_33 : decode prog_4_method_9_code 33 = .ok (.return_, 1) := by decide +kernel
