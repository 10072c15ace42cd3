theorem kdX6_pack_0 : decode prog_2_method_2_code 0 = .ok (.iconst 0, 1) := by decide +kernel
theorem kdX6_pack_1 : decode prog_2_method_2_code 1 = .ok (.istore 4, 2) := by decide +kernel
theorem kdX6_pack_3 : decode prog_2_method_2_code 3 = .ok (.iconst 0, 1) := by decide +kernel
theorem kdX6_pack_4 : decode prog_2_method_2_code 4 = .ok (.istore 5, 2) := by decide +kernel
theorem kdX6_pack_6 : decode prog_2_method_2_code 6 = .ok (.iload_n 3, 1) := by decide +kernel
theorem kdX6_pack_7 : decode prog_2_method_2_code 7 = .ok (.istore 6, 2) := by decide +kernel
theorem kdX6_pack_9 : decode prog_2_method_2_code 9 = .ok (.iconst 0, 1) := by decide +kernel
theorem kdX6_pack_10 : decode prog_2_method_2_code 10 = .ok (.istore 7, 2) := by decide +kernel
theorem kdX6_pack_12 : decode prog_2_method_2_code 12 = .ok (.iload 7, 2) := by decide +kernel
theorem kdX6_pack_14 : decode prog_2_method_2_code 14 = .ok (.sipush 256, 3) := by decide +kernel
theorem kdX6_pack_17 : decode prog_2_method_2_code 17 = .ok (.if_icmp .ge 57, 3) := by decide +kernel
theorem kdX6_pack_20 : decode prog_2_method_2_code 20 = .ok (.iload 4, 2) := by decide +kernel
theorem kdX6_pack_22 : decode prog_2_method_2_code 22 = .ok (.aload_n 0, 1) := by decide +kernel
theorem kdX6_pack_23 : decode prog_2_method_2_code 23 = .ok (.iload 7, 2) := by decide +kernel
theorem kdX6_pack_25 : decode prog_2_method_2_code 25 = .ok (.iaload, 1) := by decide +kernel
theorem kdX6_pack_26 : decode prog_2_method_2_code 26 = .ok (.iload 5, 2) := by decide +kernel
theorem kdX6_pack_28 : decode prog_2_method_2_code 28 = .ok (.ishl, 1) := by decide +kernel
theorem kdX6_pack_29 : decode prog_2_method_2_code 29 = .ok (.ior, 1) := by decide +kernel
theorem kdX6_pack_30 : decode prog_2_method_2_code 30 = .ok (.istore 4, 2) := by decide +kernel
theorem kdX6_pack_32 : decode prog_2_method_2_code 32 = .ok (.iload 5, 2) := by decide +kernel
theorem kdX6_pack_34 : decode prog_2_method_2_code 34 = .ok (.iload_n 1, 1) := by decide +kernel
theorem kdX6_pack_35 : decode prog_2_method_2_code 35 = .ok (.iadd, 1) := by decide +kernel
theorem kdX6_pack_36 : decode prog_2_method_2_code 36 = .ok (.istore 5, 2) := by decide +kernel
theorem kdX6_pack_38 : decode prog_2_method_2_code 38 = .ok (.iload 5, 2) := by decide +kernel
theorem kdX6_pack_40 : decode prog_2_method_2_code 40 = .ok (.bipush 8, 2) := by decide +kernel
theorem kdX6_pack_42 : decode prog_2_method_2_code 42 = .ok (.if_icmp .lt 26, 3) := by decide +kernel
theorem kdX6_pack_45 : decode prog_2_method_2_code 45 = .ok (.aload_n 2, 1) := by decide +kernel
theorem kdX6_pack_46 : decode prog_2_method_2_code 46 = .ok (.iload 6, 2) := by decide +kernel
theorem kdX6_pack_48 : decode prog_2_method_2_code 48 = .ok (.iload 4, 2) := by decide +kernel
theorem kdX6_pack_50 : decode prog_2_method_2_code 50 = .ok (.i2b, 1) := by decide +kernel
theorem kdX6_pack_51 : decode prog_2_method_2_code 51 = .ok (.bastore, 1) := by decide +kernel
theorem kdX6_pack_52 : decode prog_2_method_2_code 52 = .ok (.iinc 6 1, 3) := by decide +kernel
theorem kdX6_pack_55 : decode prog_2_method_2_code 55 = .ok (.iload 4, 2) := by decide +kernel
theorem kdX6_pack_57 : decode prog_2_method_2_code 57 = .ok (.bipush 8, 2) := by decide +kernel
theorem kdX6_pack_59 : decode prog_2_method_2_code 59 = .ok (.iushr, 1) := by decide +kernel
theorem kdX6_pack_60 : decode prog_2_method_2_code 60 = .ok (.istore 4, 2) := by decide +kernel
theorem kdX6_pack_62 : decode prog_2_method_2_code 62 = .ok (.iinc 5 (-8), 3) := by decide +kernel
theorem kdX6_pack_65 : decode prog_2_method_2_code 65 = .ok (.goto (-27), 3) := by decide +kernel
theorem kdX6_pack_68 : decode prog_2_method_2_code 68 = .ok (.iinc 7 1, 3) := by decide +kernel
theorem kdX6_pack_71 : decode prog_2_method_2_code 71 = .ok (.goto (-59), 3) := by decide +kernel
theorem kdX6_pack_74 : decode prog_2_method_2_code 74 = .ok (.return_, 1) := by decide +kernel
theorem kdX6_unpack_0 : decode prog_2_method_3_code 0 = .ok (.iconst 0, 1) := by decide +kernel
theorem kdX6_unpack_1 : decode prog_2_method_3_code 1 = .ok (.istore 4, 2) := by decide +kernel
theorem kdX6_unpack_3 : decode prog_2_method_3_code 3 = .ok (.iconst 0, 1) := by decide +kernel
theorem kdX6_unpack_4 : decode prog_2_method_3_code 4 = .ok (.istore 5, 2) := by decide +kernel
theorem kdX6_unpack_6 : decode prog_2_method_3_code 6 = .ok (.iload_n 1, 1) := by decide +kernel
theorem kdX6_unpack_7 : decode prog_2_method_3_code 7 = .ok (.istore 6, 2) := by decide +kernel
theorem kdX6_unpack_9 : decode prog_2_method_3_code 9 = .ok (.iconst 0, 1) := by decide +kernel
theorem kdX6_unpack_10 : decode prog_2_method_3_code 10 = .ok (.istore 7, 2) := by decide +kernel
theorem kdX6_unpack_12 : decode prog_2_method_3_code 12 = .ok (.iload 7, 2) := by decide +kernel
theorem kdX6_unpack_14 : decode prog_2_method_3_code 14 = .ok (.sipush 256, 3) := by decide +kernel
theorem kdX6_unpack_17 : decode prog_2_method_3_code 17 = .ok (.if_icmp .ge 64, 3) := by decide +kernel
theorem kdX6_unpack_20 : decode prog_2_method_3_code 20 = .ok (.iload 5, 2) := by decide +kernel
theorem kdX6_unpack_22 : decode prog_2_method_3_code 22 = .ok (.iload_n 2, 1) := by decide +kernel
theorem kdX6_unpack_23 : decode prog_2_method_3_code 23 = .ok (.if_icmp .ge 28, 3) := by decide +kernel
theorem kdX6_unpack_26 : decode prog_2_method_3_code 26 = .ok (.iload 4, 2) := by decide +kernel
theorem kdX6_unpack_28 : decode prog_2_method_3_code 28 = .ok (.aload_n 0, 1) := by decide +kernel
theorem kdX6_unpack_29 : decode prog_2_method_3_code 29 = .ok (.iload 6, 2) := by decide +kernel
theorem kdX6_unpack_31 : decode prog_2_method_3_code 31 = .ok (.baload, 1) := by decide +kernel
theorem kdX6_unpack_32 : decode prog_2_method_3_code 32 = .ok (.sipush 255, 3) := by decide +kernel
theorem kdX6_unpack_35 : decode prog_2_method_3_code 35 = .ok (.iand, 1) := by decide +kernel
theorem kdX6_unpack_36 : decode prog_2_method_3_code 36 = .ok (.iload 5, 2) := by decide +kernel
theorem kdX6_unpack_38 : decode prog_2_method_3_code 38 = .ok (.ishl, 1) := by decide +kernel
theorem kdX6_unpack_39 : decode prog_2_method_3_code 39 = .ok (.ior, 1) := by decide +kernel
theorem kdX6_unpack_40 : decode prog_2_method_3_code 40 = .ok (.istore 4, 2) := by decide +kernel
theorem kdX6_unpack_42 : decode prog_2_method_3_code 42 = .ok (.iinc 6 1, 3) := by decide +kernel
theorem kdX6_unpack_45 : decode prog_2_method_3_code 45 = .ok (.iinc 5 8, 3) := by decide +kernel
theorem kdX6_unpack_48 : decode prog_2_method_3_code 48 = .ok (.goto (-28), 3) := by decide +kernel
theorem kdX6_unpack_51 : decode prog_2_method_3_code 51 = .ok (.aload_n 3, 1) := by decide +kernel
theorem kdX6_unpack_52 : decode prog_2_method_3_code 52 = .ok (.iload 7, 2) := by decide +kernel
theorem kdX6_unpack_54 : decode prog_2_method_3_code 54 = .ok (.iload 4, 2) := by decide +kernel
theorem kdX6_unpack_56 : decode prog_2_method_3_code 56 = .ok (.iconst 1, 1) := by decide +kernel
theorem kdX6_unpack_57 : decode prog_2_method_3_code 57 = .ok (.iload_n 2, 1) := by decide +kernel
theorem kdX6_unpack_58 : decode prog_2_method_3_code 58 = .ok (.ishl, 1) := by decide +kernel
theorem kdX6_unpack_59 : decode prog_2_method_3_code 59 = .ok (.iconst 1, 1) := by decide +kernel
theorem kdX6_unpack_60 : decode prog_2_method_3_code 60 = .ok (.isub, 1) := by decide +kernel
theorem kdX6_unpack_61 : decode prog_2_method_3_code 61 = .ok (.iand, 1) := by decide +kernel
theorem kdX6_unpack_62 : decode prog_2_method_3_code 62 = .ok (.iastore, 1) := by decide +kernel
theorem kdX6_unpack_63 : decode prog_2_method_3_code 63 = .ok (.iload 4, 2) := by decide +kernel
theorem kdX6_unpack_65 : decode prog_2_method_3_code 65 = .ok (.iload_n 2, 1) := by decide +kernel
theorem kdX6_unpack_66 : decode prog_2_method_3_code 66 = .ok (.iushr, 1) := by decide +kernel
theorem kdX6_unpack_67 : decode prog_2_method_3_code 67 = .ok (.istore 4, 2) := by decide +kernel
theorem kdX6_unpack_69 : decode prog_2_method_3_code 69 = .ok (.iload 5, 2) := by decide +kernel
theorem kdX6_unpack_71 : decode prog_2_method_3_code 71 = .ok (.iload_n 2, 1) := by decide +kernel
theorem kdX6_unpack_72 : decode prog_2_method_3_code 72 = .ok (.isub, 1) := by decide +kernel
theorem kdX6_unpack_73 : decode prog_2_method_3_code 73 = .ok (.istore 5, 2) := by decide +kernel
theorem kdX6_unpack_75 : decode prog_2_method_3_code 75 = .ok (.iinc 7 1, 3) := by decide +kernel
theorem kdX6_unpack_78 : decode prog_2_method_3_code 78 = .ok (.goto (-66), 3) := by decide +kernel
theorem kdX6_unpack_81 : decode prog_2_method_3_code 81 = .ok (.return_, 1) := by decide +kernel
theorem kdX6_packCompressed_0 : decode prog_2_method_4_code 0 = .ok (.iconst 0, 1) := by decide +kernel
theorem kdX6_packCompressed_1 : decode prog_2_method_4_code 1 = .ok (.istore 4, 2) := by decide +kernel
theorem kdX6_packCompressed_3 : decode prog_2_method_4_code 3 = .ok (.iload 4, 2) := by decide +kernel
theorem kdX6_packCompressed_5 : decode prog_2_method_4_code 5 = .ok (.sipush 256, 3) := by decide +kernel
theorem kdX6_packCompressed_8 : decode prog_2_method_4_code 8 = .ok (.if_icmp .ge 35, 3) := by decide +kernel
theorem kdX6_packCompressed_11 : decode prog_2_method_4_code 11 = .ok (.aload_n 0, 1) := by decide +kernel
theorem kdX6_packCompressed_12 : decode prog_2_method_4_code 12 = .ok (.iload 4, 2) := by decide +kernel
theorem kdX6_packCompressed_14 : decode prog_2_method_4_code 14 = .ok (.aload_n 0, 1) := by decide +kernel
theorem kdX6_packCompressed_15 : decode prog_2_method_4_code 15 = .ok (.iload 4, 2) := by decide +kernel
theorem kdX6_packCompressed_17 : decode prog_2_method_4_code 17 = .ok (.iaload, 1) := by decide +kernel
theorem kdX6_packCompressed_18 : decode prog_2_method_4_code 18 = .ok (.iload_n 1, 1) := by decide +kernel
theorem kdX6_packCompressed_19 : decode prog_2_method_4_code 19 = .ok (.iconst 1, 1) := by decide +kernel
theorem kdX6_packCompressed_20 : decode prog_2_method_4_code 20 = .ok (.iadd, 1) := by decide +kernel
theorem kdX6_packCompressed_21 : decode prog_2_method_4_code 21 = .ok (.ishl, 1) := by decide +kernel
theorem kdX6_packCompressed_22 : decode prog_2_method_4_code 22 = .ok (.sipush 3329, 3) := by decide +kernel
theorem kdX6_packCompressed_25 : decode prog_2_method_4_code 25 = .ok (.iadd, 1) := by decide +kernel
theorem kdX6_packCompressed_26 : decode prog_2_method_4_code 26 = .ok (.sipush 6658, 3) := by decide +kernel
theorem kdX6_packCompressed_29 : decode prog_2_method_4_code 29 = .ok (.idiv, 1) := by decide +kernel
theorem kdX6_packCompressed_30 : decode prog_2_method_4_code 30 = .ok (.iconst 1, 1) := by decide +kernel
theorem kdX6_packCompressed_31 : decode prog_2_method_4_code 31 = .ok (.iload_n 1, 1) := by decide +kernel
theorem kdX6_packCompressed_32 : decode prog_2_method_4_code 32 = .ok (.ishl, 1) := by decide +kernel
theorem kdX6_packCompressed_33 : decode prog_2_method_4_code 33 = .ok (.iconst 1, 1) := by decide +kernel
theorem kdX6_packCompressed_34 : decode prog_2_method_4_code 34 = .ok (.isub, 1) := by decide +kernel
theorem kdX6_packCompressed_35 : decode prog_2_method_4_code 35 = .ok (.iand, 1) := by decide +kernel
theorem kdX6_packCompressed_36 : decode prog_2_method_4_code 36 = .ok (.iastore, 1) := by decide +kernel
theorem kdX6_packCompressed_37 : decode prog_2_method_4_code 37 = .ok (.iinc 4 1, 3) := by decide +kernel
theorem kdX6_packCompressed_40 : decode prog_2_method_4_code 40 = .ok (.goto (-37), 3) := by decide +kernel
theorem kdX6_packCompressed_43 : decode prog_2_method_4_code 43 = .ok (.aload_n 0, 1) := by decide +kernel
theorem kdX6_packCompressed_44 : decode prog_2_method_4_code 44 = .ok (.iload_n 1, 1) := by decide +kernel
theorem kdX6_packCompressed_45 : decode prog_2_method_4_code 45 = .ok (.aload_n 2, 1) := by decide +kernel
theorem kdX6_packCompressed_46 : decode prog_2_method_4_code 46 = .ok (.iload_n 3, 1) := by decide +kernel
theorem kdX6_packCompressed_47 : decode prog_2_method_4_code 47 = .ok (.invokestatic 9, 3) := by decide +kernel
theorem kdX6_packCompressed_50 : decode prog_2_method_4_code 50 = .ok (.return_, 1) := by decide +kernel
theorem kdX6_unpackCompressed_0 : decode prog_2_method_5_code 0 = .ok (.aload_n 0, 1) := by decide +kernel
theorem kdX6_unpackCompressed_1 : decode prog_2_method_5_code 1 = .ok (.iload_n 1, 1) := by decide +kernel
theorem kdX6_unpackCompressed_2 : decode prog_2_method_5_code 2 = .ok (.iload_n 2, 1) := by decide +kernel
theorem kdX6_unpackCompressed_3 : decode prog_2_method_5_code 3 = .ok (.aload_n 3, 1) := by decide +kernel
theorem kdX6_unpackCompressed_4 : decode prog_2_method_5_code 4 = .ok (.invokestatic 15, 3) := by decide +kernel
theorem kdX6_unpackCompressed_7 : decode prog_2_method_5_code 7 = .ok (.iconst 0, 1) := by decide +kernel
theorem kdX6_unpackCompressed_8 : decode prog_2_method_5_code 8 = .ok (.istore 4, 2) := by decide +kernel
theorem kdX6_unpackCompressed_10 : decode prog_2_method_5_code 10 = .ok (.iload 4, 2) := by decide +kernel
theorem kdX6_unpackCompressed_12 : decode prog_2_method_5_code 12 = .ok (.sipush 256, 3) := by decide +kernel
theorem kdX6_unpackCompressed_15 : decode prog_2_method_5_code 15 = .ok (.if_icmp .ge 29, 3) := by decide +kernel
theorem kdX6_unpackCompressed_18 : decode prog_2_method_5_code 18 = .ok (.aload_n 3, 1) := by decide +kernel
theorem kdX6_unpackCompressed_19 : decode prog_2_method_5_code 19 = .ok (.iload 4, 2) := by decide +kernel
theorem kdX6_unpackCompressed_21 : decode prog_2_method_5_code 21 = .ok (.sipush 3329, 3) := by decide +kernel
theorem kdX6_unpackCompressed_24 : decode prog_2_method_5_code 24 = .ok (.aload_n 3, 1) := by decide +kernel
theorem kdX6_unpackCompressed_25 : decode prog_2_method_5_code 25 = .ok (.iload 4, 2) := by decide +kernel
theorem kdX6_unpackCompressed_27 : decode prog_2_method_5_code 27 = .ok (.iaload, 1) := by decide +kernel
theorem kdX6_unpackCompressed_28 : decode prog_2_method_5_code 28 = .ok (.imul, 1) := by decide +kernel
theorem kdX6_unpackCompressed_29 : decode prog_2_method_5_code 29 = .ok (.iconst 1, 1) := by decide +kernel
theorem kdX6_unpackCompressed_30 : decode prog_2_method_5_code 30 = .ok (.iload_n 2, 1) := by decide +kernel
theorem kdX6_unpackCompressed_31 : decode prog_2_method_5_code 31 = .ok (.iconst 1, 1) := by decide +kernel
theorem kdX6_unpackCompressed_32 : decode prog_2_method_5_code 32 = .ok (.isub, 1) := by decide +kernel
theorem kdX6_unpackCompressed_33 : decode prog_2_method_5_code 33 = .ok (.ishl, 1) := by decide +kernel
theorem kdX6_unpackCompressed_34 : decode prog_2_method_5_code 34 = .ok (.iadd, 1) := by decide +kernel
theorem kdX6_unpackCompressed_35 : decode prog_2_method_5_code 35 = .ok (.iload_n 2, 1) := by decide +kernel
theorem kdX6_unpackCompressed_36 : decode prog_2_method_5_code 36 = .ok (.ishr, 1) := by decide +kernel
theorem kdX6_unpackCompressed_37 : decode prog_2_method_5_code 37 = .ok (.iastore, 1) := by decide +kernel
theorem kdX6_unpackCompressed_38 : decode prog_2_method_5_code 38 = .ok (.iinc 4 1, 3) := by decide +kernel
theorem kdX6_unpackCompressed_41 : decode prog_2_method_5_code 41 = .ok (.goto (-31), 3) := by decide +kernel
theorem kdX6_unpackCompressed_44 : decode prog_2_method_5_code 44 = .ok (.return_, 1) := by decide +kernel
theorem kdX6_unpackNumbers_0 : decode prog_2_method_6_code 0 = .ok (.aload_n 0, 1) := by decide +kernel
theorem kdX6_unpackNumbers_1 : decode prog_2_method_6_code 1 = .ok (.iload_n 1, 1) := by decide +kernel
theorem kdX6_unpackNumbers_2 : decode prog_2_method_6_code 2 = .ok (.bipush 12, 2) := by decide +kernel
theorem kdX6_unpackNumbers_4 : decode prog_2_method_6_code 4 = .ok (.aload_n 2, 1) := by decide +kernel
theorem kdX6_unpackNumbers_5 : decode prog_2_method_6_code 5 = .ok (.invokestatic 15, 3) := by decide +kernel
theorem kdX6_unpackNumbers_8 : decode prog_2_method_6_code 8 = .ok (.iconst 0, 1) := by decide +kernel
theorem kdX6_unpackNumbers_9 : decode prog_2_method_6_code 9 = .ok (.istore_n 3, 1) := by decide +kernel
theorem kdX6_unpackNumbers_10 : decode prog_2_method_6_code 10 = .ok (.iload_n 3, 1) := by decide +kernel
theorem kdX6_unpackNumbers_11 : decode prog_2_method_6_code 11 = .ok (.sipush 256, 3) := by decide +kernel
theorem kdX6_unpackNumbers_14 : decode prog_2_method_6_code 14 = .ok (.if_icmp .ge 19, 3) := by decide +kernel
theorem kdX6_unpackNumbers_17 : decode prog_2_method_6_code 17 = .ok (.aload_n 2, 1) := by decide +kernel
theorem kdX6_unpackNumbers_18 : decode prog_2_method_6_code 18 = .ok (.iload_n 3, 1) := by decide +kernel
theorem kdX6_unpackNumbers_19 : decode prog_2_method_6_code 19 = .ok (.aload_n 2, 1) := by decide +kernel
theorem kdX6_unpackNumbers_20 : decode prog_2_method_6_code 20 = .ok (.iload_n 3, 1) := by decide +kernel
theorem kdX6_unpackNumbers_21 : decode prog_2_method_6_code 21 = .ok (.iaload, 1) := by decide +kernel
theorem kdX6_unpackNumbers_22 : decode prog_2_method_6_code 22 = .ok (.sipush 3329, 3) := by decide +kernel
theorem kdX6_unpackNumbers_25 : decode prog_2_method_6_code 25 = .ok (.irem, 1) := by decide +kernel
theorem kdX6_unpackNumbers_26 : decode prog_2_method_6_code 26 = .ok (.iastore, 1) := by decide +kernel
theorem kdX6_unpackNumbers_27 : decode prog_2_method_6_code 27 = .ok (.iinc 3 1, 3) := by decide +kernel
theorem kdX6_unpackNumbers_30 : decode prog_2_method_6_code 30 = .ok (.goto (-20), 3) := by decide +kernel
theorem kdX6_unpackNumbers_33 : decode prog_2_method_6_code 33 = .ok (.return_, 1) := by decide +kernel
