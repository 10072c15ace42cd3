theorem kdX0_init_0 : decode prog_1_method_1_code 0 = .ok (.aload_n 0, 1) := by decide +kernel
theorem kdX0_init_1 : decode prog_1_method_1_code 1 = .ok (.invokespecial 1, 3) := by decide +kernel
theorem kdX0_init_4 : decode prog_1_method_1_code 4 = .ok (.aload_n 0, 1) := by decide +kernel
theorem kdX0_init_5 : decode prog_1_method_1_code 5 = .ok (.bipush 8, 2) := by decide +kernel
theorem kdX0_init_7 : decode prog_1_method_1_code 7 = .ok (.sipush 8192, 3) := by decide +kernel
theorem kdX0_init_10 : decode prog_1_method_1_code 10 = .ok (.multianewarray 9 2, 4) := by decide +kernel
theorem kdX0_init_14 : decode prog_1_method_1_code 14 = .ok (.putfield 11, 3) := by decide +kernel
theorem kdX0_init_17 : decode prog_1_method_1_code 17 = .ok (.aload_n 0, 1) := by decide +kernel
theorem kdX0_init_18 : decode prog_1_method_1_code 18 = .ok (.bipush 8, 2) := by decide +kernel
theorem kdX0_init_20 : decode prog_1_method_1_code 20 = .ok (.newarray .int, 2) := by decide +kernel
theorem kdX0_init_22 : decode prog_1_method_1_code 22 = .ok (.putfield 14, 3) := by decide +kernel
theorem kdX0_init_25 : decode prog_1_method_1_code 25 = .ok (.aload_n 0, 1) := by decide +kernel
theorem kdX0_init_26 : decode prog_1_method_1_code 26 = .ok (.sipush 8192, 3) := by decide +kernel
theorem kdX0_init_29 : decode prog_1_method_1_code 29 = .ok (.newarray .byte, 2) := by decide +kernel
theorem kdX0_init_31 : decode prog_1_method_1_code 31 = .ok (.putfield 18, 3) := by decide +kernel
theorem kdX0_init_34 : decode prog_1_method_1_code 34 = .ok (.aload_n 0, 1) := by decide +kernel
theorem kdX0_init_35 : decode prog_1_method_1_code 35 = .ok (.iconst 0, 1) := by decide +kernel
theorem kdX0_init_36 : decode prog_1_method_1_code 36 = .ok (.putfield 22, 3) := by decide +kernel
theorem kdX0_init_39 : decode prog_1_method_1_code 39 = .ok (.aload_n 0, 1) := by decide +kernel
theorem kdX0_init_40 : decode prog_1_method_1_code 40 = .ok (.iconst 3, 1) := by decide +kernel
theorem kdX0_init_41 : decode prog_1_method_1_code 41 = .ok (.anewarray 26, 3) := by decide +kernel
theorem kdX0_init_44 : decode prog_1_method_1_code 44 = .ok (.dup, 1) := by decide +kernel
theorem kdX0_init_45 : decode prog_1_method_1_code 45 = .ok (.iconst 0, 1) := by decide +kernel
theorem kdX0_init_46 : decode prog_1_method_1_code 46 = .ok (.new 26, 3) := by decide +kernel
theorem kdX0_init_49 : decode prog_1_method_1_code 49 = .ok (.dup, 1) := by decide +kernel
theorem kdX0_init_50 : decode prog_1_method_1_code 50 = .ok (.iconst 2, 1) := by decide +kernel
theorem kdX0_init_51 : decode prog_1_method_1_code 51 = .ok (.iconst 3, 1) := by decide +kernel
theorem kdX0_init_52 : decode prog_1_method_1_code 52 = .ok (.bipush 10, 2) := by decide +kernel
theorem kdX0_init_54 : decode prog_1_method_1_code 54 = .ok (.iconst 4, 1) := by decide +kernel
theorem kdX0_init_55 : decode prog_1_method_1_code 55 = .ok (.invokespecial 28, 3) := by decide +kernel
theorem kdX0_init_58 : decode prog_1_method_1_code 58 = .ok (.aastore, 1) := by decide +kernel
theorem kdX0_init_59 : decode prog_1_method_1_code 59 = .ok (.dup, 1) := by decide +kernel
theorem kdX0_init_60 : decode prog_1_method_1_code 60 = .ok (.iconst 1, 1) := by decide +kernel
theorem kdX0_init_61 : decode prog_1_method_1_code 61 = .ok (.new 26, 3) := by decide +kernel
theorem kdX0_init_64 : decode prog_1_method_1_code 64 = .ok (.dup, 1) := by decide +kernel
theorem kdX0_init_65 : decode prog_1_method_1_code 65 = .ok (.iconst 3, 1) := by decide +kernel
theorem kdX0_init_66 : decode prog_1_method_1_code 66 = .ok (.iconst 2, 1) := by decide +kernel
theorem kdX0_init_67 : decode prog_1_method_1_code 67 = .ok (.bipush 10, 2) := by decide +kernel
theorem kdX0_init_69 : decode prog_1_method_1_code 69 = .ok (.iconst 4, 1) := by decide +kernel
theorem kdX0_init_70 : decode prog_1_method_1_code 70 = .ok (.invokespecial 28, 3) := by decide +kernel
theorem kdX0_init_73 : decode prog_1_method_1_code 73 = .ok (.aastore, 1) := by decide +kernel
theorem kdX0_init_74 : decode prog_1_method_1_code 74 = .ok (.dup, 1) := by decide +kernel
theorem kdX0_init_75 : decode prog_1_method_1_code 75 = .ok (.iconst 2, 1) := by decide +kernel
theorem kdX0_init_76 : decode prog_1_method_1_code 76 = .ok (.new 26, 3) := by decide +kernel
theorem kdX0_init_79 : decode prog_1_method_1_code 79 = .ok (.dup, 1) := by decide +kernel
theorem kdX0_init_80 : decode prog_1_method_1_code 80 = .ok (.iconst 4, 1) := by decide +kernel
theorem kdX0_init_81 : decode prog_1_method_1_code 81 = .ok (.iconst 2, 1) := by decide +kernel
theorem kdX0_init_82 : decode prog_1_method_1_code 82 = .ok (.bipush 11, 2) := by decide +kernel
theorem kdX0_init_84 : decode prog_1_method_1_code 84 = .ok (.iconst 5, 1) := by decide +kernel
theorem kdX0_init_85 : decode prog_1_method_1_code 85 = .ok (.invokespecial 28, 3) := by decide +kernel
theorem kdX0_init_88 : decode prog_1_method_1_code 88 = .ok (.aastore, 1) := by decide +kernel
theorem kdX0_init_89 : decode prog_1_method_1_code 89 = .ok (.putfield 31, 3) := by decide +kernel
theorem kdX0_init_92 : decode prog_1_method_1_code 92 = .ok (.aload_n 0, 1) := by decide +kernel
theorem kdX0_init_93 : decode prog_1_method_1_code 93 = .ok (.new 35, 3) := by decide +kernel
theorem kdX0_init_96 : decode prog_1_method_1_code 96 = .ok (.dup, 1) := by decide +kernel
theorem kdX0_init_97 : decode prog_1_method_1_code 97 = .ok (.invokespecial 37, 3) := by decide +kernel
theorem kdX0_init_100 : decode prog_1_method_1_code 100 = .ok (.putfield 38, 3) := by decide +kernel
theorem kdX0_init_103 : decode prog_1_method_1_code 103 = .ok (.return_, 1) := by decide +kernel
theorem kdX0_feed_0 : decode prog_1_method_2_code 0 = .ok (.aload_n 0, 1) := by decide +kernel
theorem kdX0_feed_1 : decode prog_1_method_2_code 1 = .ok (.getfield 22, 3) := by decide +kernel
theorem kdX0_feed_4 : decode prog_1_method_2_code 4 = .ok (.bipush 20, 2) := by decide +kernel
theorem kdX0_feed_6 : decode prog_1_method_2_code 6 = .ok (.iadd, 1) := by decide +kernel
theorem kdX0_feed_7 : decode prog_1_method_2_code 7 = .ok (.sipush 8192, 3) := by decide +kernel
theorem kdX0_feed_10 : decode prog_1_method_2_code 10 = .ok (.if_icmp .le 13, 3) := by decide +kernel
theorem kdX0_feed_13 : decode prog_1_method_2_code 13 = .ok (.new 42, 3) := by decide +kernel
theorem kdX0_feed_16 : decode prog_1_method_2_code 16 = .ok (.dup, 1) := by decide +kernel
theorem kdX0_feed_17 : decode prog_1_method_2_code 17 = .ok (.ldc 44, 2) := by decide +kernel
theorem kdX0_feed_19 : decode prog_1_method_2_code 19 = .ok (.invokespecial 46, 3) := by decide +kernel
theorem kdX0_feed_22 : decode prog_1_method_2_code 22 = .ok (.athrow, 1) := by decide +kernel
theorem kdX0_feed_23 : decode prog_1_method_2_code 23 = .ok (.aload_n 0, 1) := by decide +kernel
theorem kdX0_feed_24 : decode prog_1_method_2_code 24 = .ok (.iload_n 1, 1) := by decide +kernel
theorem kdX0_feed_25 : decode prog_1_method_2_code 25 = .ok (.invokevirtual 49, 3) := by decide +kernel
theorem kdX0_feed_28 : decode prog_1_method_2_code 28 = .ok (.aload_n 0, 1) := by decide +kernel
theorem kdX0_feed_29 : decode prog_1_method_2_code 29 = .ok (.iload_n 2, 1) := by decide +kernel
theorem kdX0_feed_30 : decode prog_1_method_2_code 30 = .ok (.invokevirtual 49, 3) := by decide +kernel
theorem kdX0_feed_33 : decode prog_1_method_2_code 33 = .ok (.aload_n 0, 1) := by decide +kernel
theorem kdX0_feed_34 : decode prog_1_method_2_code 34 = .ok (.iload_n 3, 1) := by decide +kernel
theorem kdX0_feed_35 : decode prog_1_method_2_code 35 = .ok (.invokevirtual 49, 3) := by decide +kernel
theorem kdX0_feed_38 : decode prog_1_method_2_code 38 = .ok (.aload_n 0, 1) := by decide +kernel
theorem kdX0_feed_39 : decode prog_1_method_2_code 39 = .ok (.iload 4, 2) := by decide +kernel
theorem kdX0_feed_41 : decode prog_1_method_2_code 41 = .ok (.invokevirtual 49, 3) := by decide +kernel
theorem kdX0_feed_44 : decode prog_1_method_2_code 44 = .ok (.aload_n 0, 1) := by decide +kernel
theorem kdX0_feed_45 : decode prog_1_method_2_code 45 = .ok (.iload 5, 2) := by decide +kernel
theorem kdX0_feed_47 : decode prog_1_method_2_code 47 = .ok (.invokevirtual 49, 3) := by decide +kernel
theorem kdX0_feed_50 : decode prog_1_method_2_code 50 = .ok (.aload_n 0, 1) := by decide +kernel
theorem kdX0_feed_51 : decode prog_1_method_2_code 51 = .ok (.getfield 22, 3) := by decide +kernel
theorem kdX0_feed_54 : decode prog_1_method_2_code 54 = .ok (.ireturn, 1) := by decide +kernel
theorem kdX0_end_0 : decode prog_1_method_3_code 0 = .ok (.iload_n 1, 1) := by decide +kernel
theorem kdX0_end_1 : decode prog_1_method_3_code 1 = .ok (.invokestatic 53, 3) := by decide +kernel
theorem kdX0_end_4 : decode prog_1_method_3_code 4 = .ok (.iload_n 2, 1) := by decide +kernel
theorem kdX0_end_5 : decode prog_1_method_3_code 5 = .ok (.invokestatic 56, 3) := by decide +kernel
theorem kdX0_end_8 : decode prog_1_method_3_code 8 = .ok (.iload_n 2, 1) := by decide +kernel
theorem kdX0_end_9 : decode prog_1_method_3_code 9 = .ok (.aload_n 0, 1) := by decide +kernel
theorem kdX0_end_10 : decode prog_1_method_3_code 10 = .ok (.getfield 22, 3) := by decide +kernel
theorem kdX0_end_13 : decode prog_1_method_3_code 13 = .ok (.if_icmp .le 13, 3) := by decide +kernel
theorem kdX0_end_16 : decode prog_1_method_3_code 16 = .ok (.new 42, 3) := by decide +kernel
theorem kdX0_end_19 : decode prog_1_method_3_code 19 = .ok (.dup, 1) := by decide +kernel
theorem kdX0_end_20 : decode prog_1_method_3_code 20 = .ok (.ldc 59, 2) := by decide +kernel
theorem kdX0_end_22 : decode prog_1_method_3_code 22 = .ok (.invokespecial 46, 3) := by decide +kernel
theorem kdX0_end_25 : decode prog_1_method_3_code 25 = .ok (.athrow, 1) := by decide +kernel
theorem kdX0_end_26 : decode prog_1_method_3_code 26 = .ok (.aload_n 0, 1) := by decide +kernel
theorem kdX0_end_27 : decode prog_1_method_3_code 27 = .ok (.getfield 18, 3) := by decide +kernel
theorem kdX0_end_30 : decode prog_1_method_3_code 30 = .ok (.iconst 0, 1) := by decide +kernel
theorem kdX0_end_31 : decode prog_1_method_3_code 31 = .ok (.aload_n 0, 1) := by decide +kernel
theorem kdX0_end_32 : decode prog_1_method_3_code 32 = .ok (.getfield 11, 3) := by decide +kernel
theorem kdX0_end_35 : decode prog_1_method_3_code 35 = .ok (.iload_n 1, 1) := by decide +kernel
theorem kdX0_end_36 : decode prog_1_method_3_code 36 = .ok (.aaload, 1) := by decide +kernel
theorem kdX0_end_37 : decode prog_1_method_3_code 37 = .ok (.iconst 0, 1) := by decide +kernel
theorem kdX0_end_38 : decode prog_1_method_3_code 38 = .ok (.iload_n 2, 1) := by decide +kernel
theorem kdX0_end_39 : decode prog_1_method_3_code 39 = .ok (.invokestatic 61, 3) := by decide +kernel
theorem kdX0_end_42 : decode prog_1_method_3_code 42 = .ok (.aload_n 0, 1) := by decide +kernel
theorem kdX0_end_43 : decode prog_1_method_3_code 43 = .ok (.getfield 14, 3) := by decide +kernel
theorem kdX0_end_46 : decode prog_1_method_3_code 46 = .ok (.iload_n 1, 1) := by decide +kernel
theorem kdX0_end_47 : decode prog_1_method_3_code 47 = .ok (.iload_n 2, 1) := by decide +kernel
theorem kdX0_end_48 : decode prog_1_method_3_code 48 = .ok (.iastore, 1) := by decide +kernel
theorem kdX0_end_49 : decode prog_1_method_3_code 49 = .ok (.aload_n 0, 1) := by decide +kernel
theorem kdX0_end_50 : decode prog_1_method_3_code 50 = .ok (.iconst 0, 1) := by decide +kernel
theorem kdX0_end_51 : decode prog_1_method_3_code 51 = .ok (.putfield 22, 3) := by decide +kernel
theorem kdX0_end_54 : decode prog_1_method_3_code 54 = .ok (.iload_n 2, 1) := by decide +kernel
theorem kdX0_end_55 : decode prog_1_method_3_code 55 = .ok (.ireturn, 1) := by decide +kernel
theorem kdX0_copy_0 : decode prog_1_method_4_code 0 = .ok (.iload_n 1, 1) := by decide +kernel
theorem kdX0_copy_1 : decode prog_1_method_4_code 1 = .ok (.invokestatic 53, 3) := by decide +kernel
theorem kdX0_copy_4 : decode prog_1_method_4_code 4 = .ok (.iload_n 2, 1) := by decide +kernel
theorem kdX0_copy_5 : decode prog_1_method_4_code 5 = .ok (.invokestatic 53, 3) := by decide +kernel
theorem kdX0_copy_8 : decode prog_1_method_4_code 8 = .ok (.aload_n 0, 1) := by decide +kernel
theorem kdX0_copy_9 : decode prog_1_method_4_code 9 = .ok (.getfield 11, 3) := by decide +kernel
theorem kdX0_copy_12 : decode prog_1_method_4_code 12 = .ok (.iload_n 1, 1) := by decide +kernel
theorem kdX0_copy_13 : decode prog_1_method_4_code 13 = .ok (.aaload, 1) := by decide +kernel
theorem kdX0_copy_14 : decode prog_1_method_4_code 14 = .ok (.iconst 0, 1) := by decide +kernel
theorem kdX0_copy_15 : decode prog_1_method_4_code 15 = .ok (.aload_n 0, 1) := by decide +kernel
theorem kdX0_copy_16 : decode prog_1_method_4_code 16 = .ok (.getfield 11, 3) := by decide +kernel
theorem kdX0_copy_19 : decode prog_1_method_4_code 19 = .ok (.iload_n 2, 1) := by decide +kernel
theorem kdX0_copy_20 : decode prog_1_method_4_code 20 = .ok (.aaload, 1) := by decide +kernel
theorem kdX0_copy_21 : decode prog_1_method_4_code 21 = .ok (.iconst 0, 1) := by decide +kernel
theorem kdX0_copy_22 : decode prog_1_method_4_code 22 = .ok (.aload_n 0, 1) := by decide +kernel
theorem kdX0_copy_23 : decode prog_1_method_4_code 23 = .ok (.getfield 14, 3) := by decide +kernel
theorem kdX0_copy_26 : decode prog_1_method_4_code 26 = .ok (.iload_n 1, 1) := by decide +kernel
theorem kdX0_copy_27 : decode prog_1_method_4_code 27 = .ok (.iaload, 1) := by decide +kernel
theorem kdX0_copy_28 : decode prog_1_method_4_code 28 = .ok (.invokestatic 61, 3) := by decide +kernel
theorem kdX0_copy_31 : decode prog_1_method_4_code 31 = .ok (.aload_n 0, 1) := by decide +kernel
theorem kdX0_copy_32 : decode prog_1_method_4_code 32 = .ok (.getfield 14, 3) := by decide +kernel
theorem kdX0_copy_35 : decode prog_1_method_4_code 35 = .ok (.iload_n 2, 1) := by decide +kernel
theorem kdX0_copy_36 : decode prog_1_method_4_code 36 = .ok (.aload_n 0, 1) := by decide +kernel
theorem kdX0_copy_37 : decode prog_1_method_4_code 37 = .ok (.getfield 14, 3) := by decide +kernel
theorem kdX0_copy_40 : decode prog_1_method_4_code 40 = .ok (.iload_n 1, 1) := by decide +kernel
theorem kdX0_copy_41 : decode prog_1_method_4_code 41 = .ok (.iaload, 1) := by decide +kernel
theorem kdX0_copy_42 : decode prog_1_method_4_code 42 = .ok (.iastore, 1) := by decide +kernel
theorem kdX0_copy_43 : decode prog_1_method_4_code 43 = .ok (.aload_n 0, 1) := by decide +kernel
theorem kdX0_copy_44 : decode prog_1_method_4_code 44 = .ok (.getfield 14, 3) := by decide +kernel
theorem kdX0_copy_47 : decode prog_1_method_4_code 47 = .ok (.iload_n 2, 1) := by decide +kernel
theorem kdX0_copy_48 : decode prog_1_method_4_code 48 = .ok (.iaload, 1) := by decide +kernel
theorem kdX0_copy_49 : decode prog_1_method_4_code 49 = .ok (.ireturn, 1) := by decide +kernel
theorem kdX0_resize_0 : decode prog_1_method_5_code 0 = .ok (.iload_n 1, 1) := by decide +kernel
theorem kdX0_resize_1 : decode prog_1_method_5_code 1 = .ok (.invokestatic 53, 3) := by decide +kernel
theorem kdX0_resize_4 : decode prog_1_method_5_code 4 = .ok (.iload_n 2, 1) := by decide +kernel
theorem kdX0_resize_5 : decode prog_1_method_5_code 5 = .ok (.invokestatic 56, 3) := by decide +kernel
theorem kdX0_resize_8 : decode prog_1_method_5_code 8 = .ok (.aload_n 0, 1) := by decide +kernel
theorem kdX0_resize_9 : decode prog_1_method_5_code 9 = .ok (.getfield 14, 3) := by decide +kernel
theorem kdX0_resize_12 : decode prog_1_method_5_code 12 = .ok (.iload_n 1, 1) := by decide +kernel
theorem kdX0_resize_13 : decode prog_1_method_5_code 13 = .ok (.iaload, 1) := by decide +kernel
theorem kdX0_resize_14 : decode prog_1_method_5_code 14 = .ok (.istore_n 3, 1) := by decide +kernel
theorem kdX0_resize_15 : decode prog_1_method_5_code 15 = .ok (.iload_n 3, 1) := by decide +kernel
theorem kdX0_resize_16 : decode prog_1_method_5_code 16 = .ok (.istore 4, 2) := by decide +kernel
theorem kdX0_resize_18 : decode prog_1_method_5_code 18 = .ok (.iload 4, 2) := by decide +kernel
theorem kdX0_resize_20 : decode prog_1_method_5_code 20 = .ok (.iload_n 2, 1) := by decide +kernel
theorem kdX0_resize_21 : decode prog_1_method_5_code 21 = .ok (.if_icmp .ge 19, 3) := by decide +kernel
theorem kdX0_resize_24 : decode prog_1_method_5_code 24 = .ok (.aload_n 0, 1) := by decide +kernel
theorem kdX0_resize_25 : decode prog_1_method_5_code 25 = .ok (.getfield 11, 3) := by decide +kernel
theorem kdX0_resize_28 : decode prog_1_method_5_code 28 = .ok (.iload_n 1, 1) := by decide +kernel
theorem kdX0_resize_29 : decode prog_1_method_5_code 29 = .ok (.aaload, 1) := by decide +kernel
theorem kdX0_resize_30 : decode prog_1_method_5_code 30 = .ok (.iload 4, 2) := by decide +kernel
theorem kdX0_resize_32 : decode prog_1_method_5_code 32 = .ok (.iconst 0, 1) := by decide +kernel
theorem kdX0_resize_33 : decode prog_1_method_5_code 33 = .ok (.bastore, 1) := by decide +kernel
theorem kdX0_resize_34 : decode prog_1_method_5_code 34 = .ok (.iinc 4 1, 3) := by decide +kernel
theorem kdX0_resize_37 : decode prog_1_method_5_code 37 = .ok (.goto (-19), 3) := by decide +kernel
theorem kdX0_resize_40 : decode prog_1_method_5_code 40 = .ok (.aload_n 0, 1) := by decide +kernel
theorem kdX0_resize_41 : decode prog_1_method_5_code 41 = .ok (.getfield 14, 3) := by decide +kernel
theorem kdX0_resize_44 : decode prog_1_method_5_code 44 = .ok (.iload_n 1, 1) := by decide +kernel
theorem kdX0_resize_45 : decode prog_1_method_5_code 45 = .ok (.iload_n 2, 1) := by decide +kernel
theorem kdX0_resize_46 : decode prog_1_method_5_code 46 = .ok (.iastore, 1) := by decide +kernel
theorem kdX0_resize_47 : decode prog_1_method_5_code 47 = .ok (.iload_n 3, 1) := by decide +kernel
theorem kdX0_resize_48 : decode prog_1_method_5_code 48 = .ok (.ireturn, 1) := by decide +kernel
theorem kdX0_alter_0 : decode prog_1_method_6_code 0 = .ok (.iload_n 1, 1) := by decide +kernel
theorem kdX0_alter_1 : decode prog_1_method_6_code 1 = .ok (.invokestatic 53, 3) := by decide +kernel
theorem kdX0_alter_4 : decode prog_1_method_6_code 4 = .ok (.iload_n 3, 1) := by decide +kernel
theorem kdX0_alter_5 : decode prog_1_method_6_code 5 = .ok (.ifCond .lt 10, 3) := by decide +kernel
theorem kdX0_alter_8 : decode prog_1_method_6_code 8 = .ok (.iload_n 3, 1) := by decide +kernel
theorem kdX0_alter_9 : decode prog_1_method_6_code 9 = .ok (.sipush 255, 3) := by decide +kernel
theorem kdX0_alter_12 : decode prog_1_method_6_code 12 = .ok (.if_icmp .le 13, 3) := by decide +kernel
theorem kdX0_alter_15 : decode prog_1_method_6_code 15 = .ok (.new 67, 3) := by decide +kernel
theorem kdX0_alter_18 : decode prog_1_method_6_code 18 = .ok (.dup, 1) := by decide +kernel
theorem kdX0_alter_19 : decode prog_1_method_6_code 19 = .ok (.ldc 69, 2) := by decide +kernel
theorem kdX0_alter_21 : decode prog_1_method_6_code 21 = .ok (.invokespecial 71, 3) := by decide +kernel
theorem kdX0_alter_24 : decode prog_1_method_6_code 24 = .ok (.athrow, 1) := by decide +kernel
theorem kdX0_alter_25 : decode prog_1_method_6_code 25 = .ok (.aload_n 0, 1) := by decide +kernel
theorem kdX0_alter_26 : decode prog_1_method_6_code 26 = .ok (.iload_n 1, 1) := by decide +kernel
theorem kdX0_alter_27 : decode prog_1_method_6_code 27 = .ok (.iload_n 2, 1) := by decide +kernel
theorem kdX0_alter_28 : decode prog_1_method_6_code 28 = .ok (.invokevirtual 72, 3) := by decide +kernel
theorem kdX0_alter_31 : decode prog_1_method_6_code 31 = .ok (.aload_n 0, 1) := by decide +kernel
theorem kdX0_alter_32 : decode prog_1_method_6_code 32 = .ok (.getfield 11, 3) := by decide +kernel
theorem kdX0_alter_35 : decode prog_1_method_6_code 35 = .ok (.iload_n 1, 1) := by decide +kernel
theorem kdX0_alter_36 : decode prog_1_method_6_code 36 = .ok (.aaload, 1) := by decide +kernel
theorem kdX0_alter_37 : decode prog_1_method_6_code 37 = .ok (.iload_n 2, 1) := by decide +kernel
theorem kdX0_alter_38 : decode prog_1_method_6_code 38 = .ok (.baload, 1) := by decide +kernel
theorem kdX0_alter_39 : decode prog_1_method_6_code 39 = .ok (.sipush 255, 3) := by decide +kernel
theorem kdX0_alter_42 : decode prog_1_method_6_code 42 = .ok (.iand, 1) := by decide +kernel
theorem kdX0_alter_43 : decode prog_1_method_6_code 43 = .ok (.iload_n 3, 1) := by decide +kernel
theorem kdX0_alter_44 : decode prog_1_method_6_code 44 = .ok (.ixor, 1) := by decide +kernel
theorem kdX0_alter_45 : decode prog_1_method_6_code 45 = .ok (.istore 4, 2) := by decide +kernel
theorem kdX0_alter_47 : decode prog_1_method_6_code 47 = .ok (.aload_n 0, 1) := by decide +kernel
theorem kdX0_alter_48 : decode prog_1_method_6_code 48 = .ok (.getfield 11, 3) := by decide +kernel
theorem kdX0_alter_51 : decode prog_1_method_6_code 51 = .ok (.iload_n 1, 1) := by decide +kernel
theorem kdX0_alter_52 : decode prog_1_method_6_code 52 = .ok (.aaload, 1) := by decide +kernel
theorem kdX0_alter_53 : decode prog_1_method_6_code 53 = .ok (.iload_n 2, 1) := by decide +kernel
theorem kdX0_alter_54 : decode prog_1_method_6_code 54 = .ok (.iload 4, 2) := by decide +kernel
theorem kdX0_alter_56 : decode prog_1_method_6_code 56 = .ok (.i2b, 1) := by decide +kernel
theorem kdX0_alter_57 : decode prog_1_method_6_code 57 = .ok (.bastore, 1) := by decide +kernel
theorem kdX0_alter_58 : decode prog_1_method_6_code 58 = .ok (.iload 4, 2) := by decide +kernel
theorem kdX0_alter_60 : decode prog_1_method_6_code 60 = .ok (.ireturn, 1) := by decide +kernel
theorem kdX0_length_0 : decode prog_1_method_7_code 0 = .ok (.iload_n 1, 1) := by decide +kernel
theorem kdX0_length_1 : decode prog_1_method_7_code 1 = .ok (.invokestatic 53, 3) := by decide +kernel
theorem kdX0_length_4 : decode prog_1_method_7_code 4 = .ok (.aload_n 0, 1) := by decide +kernel
theorem kdX0_length_5 : decode prog_1_method_7_code 5 = .ok (.getfield 14, 3) := by decide +kernel
theorem kdX0_length_8 : decode prog_1_method_7_code 8 = .ok (.iload_n 1, 1) := by decide +kernel
theorem kdX0_length_9 : decode prog_1_method_7_code 9 = .ok (.iaload, 1) := by decide +kernel
theorem kdX0_length_10 : decode prog_1_method_7_code 10 = .ok (.ireturn, 1) := by decide +kernel
theorem kdX0_word_0 : decode prog_1_method_8_code 0 = .ok (.iload_n 1, 1) := by decide +kernel
theorem kdX0_word_1 : decode prog_1_method_8_code 1 = .ok (.invokestatic 53, 3) := by decide +kernel
theorem kdX0_word_4 : decode prog_1_method_8_code 4 = .ok (.aload_n 0, 1) := by decide +kernel
theorem kdX0_word_5 : decode prog_1_method_8_code 5 = .ok (.iload_n 1, 1) := by decide +kernel
theorem kdX0_word_6 : decode prog_1_method_8_code 6 = .ok (.iload_n 2, 1) := by decide +kernel
theorem kdX0_word_7 : decode prog_1_method_8_code 7 = .ok (.invokevirtual 72, 3) := by decide +kernel
theorem kdX0_word_10 : decode prog_1_method_8_code 10 = .ok (.lconst 0, 1) := by decide +kernel
theorem kdX0_word_11 : decode prog_1_method_8_code 11 = .ok (.lstore_n 3, 1) := by decide +kernel
theorem kdX0_word_12 : decode prog_1_method_8_code 12 = .ok (.iload_n 2, 1) := by decide +kernel
theorem kdX0_word_13 : decode prog_1_method_8_code 13 = .ok (.istore 5, 2) := by decide +kernel
theorem kdX0_word_15 : decode prog_1_method_8_code 15 = .ok (.iload 5, 2) := by decide +kernel
theorem kdX0_word_17 : decode prog_1_method_8_code 17 = .ok (.iload_n 2, 1) := by decide +kernel
theorem kdX0_word_18 : decode prog_1_method_8_code 18 = .ok (.bipush 8, 2) := by decide +kernel
theorem kdX0_word_20 : decode prog_1_method_8_code 20 = .ok (.iadd, 1) := by decide +kernel
theorem kdX0_word_21 : decode prog_1_method_8_code 21 = .ok (.if_icmp .ge 48, 3) := by decide +kernel
theorem kdX0_word_24 : decode prog_1_method_8_code 24 = .ok (.iload 5, 2) := by decide +kernel
theorem kdX0_word_26 : decode prog_1_method_8_code 26 = .ok (.aload_n 0, 1) := by decide +kernel
theorem kdX0_word_27 : decode prog_1_method_8_code 27 = .ok (.getfield 14, 3) := by decide +kernel
theorem kdX0_word_30 : decode prog_1_method_8_code 30 = .ok (.iload_n 1, 1) := by decide +kernel
theorem kdX0_word_31 : decode prog_1_method_8_code 31 = .ok (.iaload, 1) := by decide +kernel
theorem kdX0_word_32 : decode prog_1_method_8_code 32 = .ok (.if_icmp .ge 19, 3) := by decide +kernel
theorem kdX0_word_35 : decode prog_1_method_8_code 35 = .ok (.aload_n 0, 1) := by decide +kernel
theorem kdX0_word_36 : decode prog_1_method_8_code 36 = .ok (.getfield 11, 3) := by decide +kernel
theorem kdX0_word_39 : decode prog_1_method_8_code 39 = .ok (.iload_n 1, 1) := by decide +kernel
theorem kdX0_word_40 : decode prog_1_method_8_code 40 = .ok (.aaload, 1) := by decide +kernel
theorem kdX0_word_41 : decode prog_1_method_8_code 41 = .ok (.iload 5, 2) := by decide +kernel
theorem kdX0_word_43 : decode prog_1_method_8_code 43 = .ok (.baload, 1) := by decide +kernel
theorem kdX0_word_44 : decode prog_1_method_8_code 44 = .ok (.sipush 255, 3) := by decide +kernel
theorem kdX0_word_47 : decode prog_1_method_8_code 47 = .ok (.iand, 1) := by decide +kernel
theorem kdX0_word_48 : decode prog_1_method_8_code 48 = .ok (.goto 4, 3) := by decide +kernel
theorem kdX0_word_51 : decode prog_1_method_8_code 51 = .ok (.iconst 0, 1) := by decide +kernel
theorem kdX0_word_52 : decode prog_1_method_8_code 52 = .ok (.istore 6, 2) := by decide +kernel
theorem kdX0_word_54 : decode prog_1_method_8_code 54 = .ok (.lload_n 3, 1) := by decide +kernel
theorem kdX0_word_55 : decode prog_1_method_8_code 55 = .ok (.bipush 8, 2) := by decide +kernel
theorem kdX0_word_57 : decode prog_1_method_8_code 57 = .ok (.lshl, 1) := by decide +kernel
theorem kdX0_word_58 : decode prog_1_method_8_code 58 = .ok (.iload 6, 2) := by decide +kernel
theorem kdX0_word_60 : decode prog_1_method_8_code 60 = .ok (.i2l, 1) := by decide +kernel
theorem kdX0_word_61 : decode prog_1_method_8_code 61 = .ok (.lor, 1) := by decide +kernel
theorem kdX0_word_62 : decode prog_1_method_8_code 62 = .ok (.lstore_n 3, 1) := by decide +kernel
theorem kdX0_word_63 : decode prog_1_method_8_code 63 = .ok (.iinc 5 1, 3) := by decide +kernel
theorem kdX0_word_66 : decode prog_1_method_8_code 66 = .ok (.goto (-51), 3) := by decide +kernel
theorem kdX0_word_69 : decode prog_1_method_8_code 69 = .ok (.lload_n 3, 1) := by decide +kernel
theorem kdX0_word_70 : decode prog_1_method_8_code 70 = .ok (.lreturn, 1) := by decide +kernel
theorem kdX0_same_0 : decode prog_1_method_9_code 0 = .ok (.iload_n 1, 1) := by decide +kernel
theorem kdX0_same_1 : decode prog_1_method_9_code 1 = .ok (.invokestatic 53, 3) := by decide +kernel
theorem kdX0_same_4 : decode prog_1_method_9_code 4 = .ok (.iload_n 2, 1) := by decide +kernel
theorem kdX0_same_5 : decode prog_1_method_9_code 5 = .ok (.invokestatic 53, 3) := by decide +kernel
theorem kdX0_same_8 : decode prog_1_method_9_code 8 = .ok (.aload_n 0, 1) := by decide +kernel
theorem kdX0_same_9 : decode prog_1_method_9_code 9 = .ok (.getfield 14, 3) := by decide +kernel
theorem kdX0_same_12 : decode prog_1_method_9_code 12 = .ok (.iload_n 1, 1) := by decide +kernel
theorem kdX0_same_13 : decode prog_1_method_9_code 13 = .ok (.iaload, 1) := by decide +kernel
theorem kdX0_same_14 : decode prog_1_method_9_code 14 = .ok (.aload_n 0, 1) := by decide +kernel
theorem kdX0_same_15 : decode prog_1_method_9_code 15 = .ok (.getfield 14, 3) := by decide +kernel
theorem kdX0_same_18 : decode prog_1_method_9_code 18 = .ok (.iload_n 2, 1) := by decide +kernel
theorem kdX0_same_19 : decode prog_1_method_9_code 19 = .ok (.iaload, 1) := by decide +kernel
theorem kdX0_same_20 : decode prog_1_method_9_code 20 = .ok (.if_icmp .ne 32, 3) := by decide +kernel
theorem kdX0_same_23 : decode prog_1_method_9_code 23 = .ok (.aload_n 0, 1) := by decide +kernel
theorem kdX0_same_24 : decode prog_1_method_9_code 24 = .ok (.getfield 11, 3) := by decide +kernel
theorem kdX0_same_27 : decode prog_1_method_9_code 27 = .ok (.iload_n 1, 1) := by decide +kernel
theorem kdX0_same_28 : decode prog_1_method_9_code 28 = .ok (.aaload, 1) := by decide +kernel
theorem kdX0_same_29 : decode prog_1_method_9_code 29 = .ok (.iconst 0, 1) := by decide +kernel
theorem kdX0_same_30 : decode prog_1_method_9_code 30 = .ok (.aload_n 0, 1) := by decide +kernel
theorem kdX0_same_31 : decode prog_1_method_9_code 31 = .ok (.getfield 11, 3) := by decide +kernel
theorem kdX0_same_34 : decode prog_1_method_9_code 34 = .ok (.iload_n 2, 1) := by decide +kernel
theorem kdX0_same_35 : decode prog_1_method_9_code 35 = .ok (.aaload, 1) := by decide +kernel
theorem kdX0_same_36 : decode prog_1_method_9_code 36 = .ok (.aload_n 0, 1) := by decide +kernel
theorem kdX0_same_37 : decode prog_1_method_9_code 37 = .ok (.getfield 14, 3) := by decide +kernel
theorem kdX0_same_40 : decode prog_1_method_9_code 40 = .ok (.iload_n 1, 1) := by decide +kernel
theorem kdX0_same_41 : decode prog_1_method_9_code 41 = .ok (.iaload, 1) := by decide +kernel
theorem kdX0_same_42 : decode prog_1_method_9_code 42 = .ok (.invokestatic 76, 3) := by decide +kernel
theorem kdX0_same_45 : decode prog_1_method_9_code 45 = .ok (.ifCond .eq 7, 3) := by decide +kernel
theorem kdX0_same_48 : decode prog_1_method_9_code 48 = .ok (.iconst 1, 1) := by decide +kernel
theorem kdX0_same_49 : decode prog_1_method_9_code 49 = .ok (.goto 4, 3) := by decide +kernel
theorem kdX0_same_52 : decode prog_1_method_9_code 52 = .ok (.iconst 0, 1) := by decide +kernel
theorem kdX0_same_53 : decode prog_1_method_9_code 53 = .ok (.ireturn, 1) := by decide +kernel
theorem kdX0_kemKeys_0 : decode prog_1_method_10_code 0 = .ok (.aload_n 0, 1) := by decide +kernel
theorem kdX0_kemKeys_1 : decode prog_1_method_10_code 1 = .ok (.iload_n 1, 1) := by decide +kernel
theorem kdX0_kemKeys_2 : decode prog_1_method_10_code 2 = .ok (.invokevirtual 80, 3) := by decide +kernel
theorem kdX0_kemKeys_5 : decode prog_1_method_10_code 5 = .ok (.astore_n 2, 1) := by decide +kernel
theorem kdX0_kemKeys_6 : decode prog_1_method_10_code 6 = .ok (.aload_n 0, 1) := by decide +kernel
theorem kdX0_kemKeys_7 : decode prog_1_method_10_code 7 = .ok (.bipush 64, 2) := by decide +kernel
theorem kdX0_kemKeys_9 : decode prog_1_method_10_code 9 = .ok (.invokevirtual 84, 3) := by decide +kernel
theorem kdX0_kemKeys_12 : decode prog_1_method_10_code 12 = .ok (.aload_n 0, 1) := by decide +kernel
theorem kdX0_kemKeys_13 : decode prog_1_method_10_code 13 = .ok (.getfield 38, 3) := by decide +kernel
theorem kdX0_kemKeys_16 : decode prog_1_method_10_code 16 = .ok (.aload_n 2, 1) := by decide +kernel
theorem kdX0_kemKeys_17 : decode prog_1_method_10_code 17 = .ok (.aload_n 0, 1) := by decide +kernel
theorem kdX0_kemKeys_18 : decode prog_1_method_10_code 18 = .ok (.getfield 11, 3) := by decide +kernel
theorem kdX0_kemKeys_21 : decode prog_1_method_10_code 21 = .ok (.iconst 0, 1) := by decide +kernel
theorem kdX0_kemKeys_22 : decode prog_1_method_10_code 22 = .ok (.aaload, 1) := by decide +kernel
theorem kdX0_kemKeys_23 : decode prog_1_method_10_code 23 = .ok (.aload_n 0, 1) := by decide +kernel
theorem kdX0_kemKeys_24 : decode prog_1_method_10_code 24 = .ok (.getfield 11, 3) := by decide +kernel
theorem kdX0_kemKeys_27 : decode prog_1_method_10_code 27 = .ok (.iconst 1, 1) := by decide +kernel
theorem kdX0_kemKeys_28 : decode prog_1_method_10_code 28 = .ok (.aaload, 1) := by decide +kernel
theorem kdX0_kemKeys_29 : decode prog_1_method_10_code 29 = .ok (.aload_n 0, 1) := by decide +kernel
theorem kdX0_kemKeys_30 : decode prog_1_method_10_code 30 = .ok (.getfield 11, 3) := by decide +kernel
theorem kdX0_kemKeys_33 : decode prog_1_method_10_code 33 = .ok (.iconst 2, 1) := by decide +kernel
theorem kdX0_kemKeys_34 : decode prog_1_method_10_code 34 = .ok (.aaload, 1) := by decide +kernel
theorem kdX0_kemKeys_35 : decode prog_1_method_10_code 35 = .ok (.invokevirtual 87, 3) := by decide +kernel
theorem kdX0_kemKeys_38 : decode prog_1_method_10_code 38 = .ok (.aload_n 0, 1) := by decide +kernel
theorem kdX0_kemKeys_39 : decode prog_1_method_10_code 39 = .ok (.getfield 14, 3) := by decide +kernel
theorem kdX0_kemKeys_42 : decode prog_1_method_10_code 42 = .ok (.iconst 1, 1) := by decide +kernel
theorem kdX0_kemKeys_43 : decode prog_1_method_10_code 43 = .ok (.aload_n 2, 1) := by decide +kernel
theorem kdX0_kemKeys_44 : decode prog_1_method_10_code 44 = .ok (.invokevirtual 91, 3) := by decide +kernel
theorem kdX0_kemKeys_47 : decode prog_1_method_10_code 47 = .ok (.iastore, 1) := by decide +kernel
theorem kdX0_kemKeys_48 : decode prog_1_method_10_code 48 = .ok (.aload_n 0, 1) := by decide +kernel
theorem kdX0_kemKeys_49 : decode prog_1_method_10_code 49 = .ok (.getfield 14, 3) := by decide +kernel
theorem kdX0_kemKeys_52 : decode prog_1_method_10_code 52 = .ok (.iconst 2, 1) := by decide +kernel
theorem kdX0_kemKeys_53 : decode prog_1_method_10_code 53 = .ok (.aload_n 2, 1) := by decide +kernel
theorem kdX0_kemKeys_54 : decode prog_1_method_10_code 54 = .ok (.invokevirtual 95, 3) := by decide +kernel
theorem kdX0_kemKeys_57 : decode prog_1_method_10_code 57 = .ok (.iastore, 1) := by decide +kernel
theorem kdX0_kemKeys_58 : decode prog_1_method_10_code 58 = .ok (.aload_n 0, 1) := by decide +kernel
theorem kdX0_kemKeys_59 : decode prog_1_method_10_code 59 = .ok (.getfield 14, 3) := by decide +kernel
theorem kdX0_kemKeys_62 : decode prog_1_method_10_code 62 = .ok (.iconst 2, 1) := by decide +kernel
theorem kdX0_kemKeys_63 : decode prog_1_method_10_code 63 = .ok (.iaload, 1) := by decide +kernel
theorem kdX0_kemKeys_64 : decode prog_1_method_10_code 64 = .ok (.ireturn, 1) := by decide +kernel
theorem kdX0_kemWrap_0 : decode prog_1_method_11_code 0 = .ok (.aload_n 0, 1) := by decide +kernel
theorem kdX0_kemWrap_1 : decode prog_1_method_11_code 1 = .ok (.iload_n 1, 1) := by decide +kernel
theorem kdX0_kemWrap_2 : decode prog_1_method_11_code 2 = .ok (.invokevirtual 80, 3) := by decide +kernel
theorem kdX0_kemWrap_5 : decode prog_1_method_11_code 5 = .ok (.astore_n 2, 1) := by decide +kernel
theorem kdX0_kemWrap_6 : decode prog_1_method_11_code 6 = .ok (.aload_n 0, 1) := by decide +kernel
theorem kdX0_kemWrap_7 : decode prog_1_method_11_code 7 = .ok (.bipush 32, 2) := by decide +kernel
theorem kdX0_kemWrap_9 : decode prog_1_method_11_code 9 = .ok (.invokevirtual 84, 3) := by decide +kernel
theorem kdX0_kemWrap_12 : decode prog_1_method_11_code 12 = .ok (.aload_n 0, 1) := by decide +kernel
theorem kdX0_kemWrap_13 : decode prog_1_method_11_code 13 = .ok (.getfield 14, 3) := by decide +kernel
theorem kdX0_kemWrap_16 : decode prog_1_method_11_code 16 = .ok (.iconst 1, 1) := by decide +kernel
theorem kdX0_kemWrap_17 : decode prog_1_method_11_code 17 = .ok (.iaload, 1) := by decide +kernel
theorem kdX0_kemWrap_18 : decode prog_1_method_11_code 18 = .ok (.aload_n 2, 1) := by decide +kernel
theorem kdX0_kemWrap_19 : decode prog_1_method_11_code 19 = .ok (.invokevirtual 91, 3) := by decide +kernel
theorem kdX0_kemWrap_22 : decode prog_1_method_11_code 22 = .ok (.if_icmp .ne 20, 3) := by decide +kernel
theorem kdX0_kemWrap_25 : decode prog_1_method_11_code 25 = .ok (.aload_n 0, 1) := by decide +kernel
theorem kdX0_kemWrap_26 : decode prog_1_method_11_code 26 = .ok (.getfield 38, 3) := by decide +kernel
theorem kdX0_kemWrap_29 : decode prog_1_method_11_code 29 = .ok (.aload_n 2, 1) := by decide +kernel
theorem kdX0_kemWrap_30 : decode prog_1_method_11_code 30 = .ok (.aload_n 0, 1) := by decide +kernel
theorem kdX0_kemWrap_31 : decode prog_1_method_11_code 31 = .ok (.getfield 11, 3) := by decide +kernel
theorem kdX0_kemWrap_34 : decode prog_1_method_11_code 34 = .ok (.iconst 1, 1) := by decide +kernel
theorem kdX0_kemWrap_35 : decode prog_1_method_11_code 35 = .ok (.aaload, 1) := by decide +kernel
theorem kdX0_kemWrap_36 : decode prog_1_method_11_code 36 = .ok (.invokevirtual 98, 3) := by decide +kernel
theorem kdX0_kemWrap_39 : decode prog_1_method_11_code 39 = .ok (.ifCond .ne 13, 3) := by decide +kernel
theorem kdX0_kemWrap_42 : decode prog_1_method_11_code 42 = .ok (.new 102, 3) := by decide +kernel
theorem kdX0_kemWrap_45 : decode prog_1_method_11_code 45 = .ok (.dup, 1) := by decide +kernel
theorem kdX0_kemWrap_46 : decode prog_1_method_11_code 46 = .ok (.ldc 104, 2) := by decide +kernel
theorem kdX0_kemWrap_48 : decode prog_1_method_11_code 48 = .ok (.invokespecial 106, 3) := by decide +kernel
theorem kdX0_kemWrap_51 : decode prog_1_method_11_code 51 = .ok (.athrow, 1) := by decide +kernel
theorem kdX0_kemWrap_52 : decode prog_1_method_11_code 52 = .ok (.aload_n 0, 1) := by decide +kernel
theorem kdX0_kemWrap_53 : decode prog_1_method_11_code 53 = .ok (.getfield 38, 3) := by decide +kernel
theorem kdX0_kemWrap_56 : decode prog_1_method_11_code 56 = .ok (.aload_n 2, 1) := by decide +kernel
theorem kdX0_kemWrap_57 : decode prog_1_method_11_code 57 = .ok (.aload_n 0, 1) := by decide +kernel
theorem kdX0_kemWrap_58 : decode prog_1_method_11_code 58 = .ok (.getfield 11, 3) := by decide +kernel
theorem kdX0_kemWrap_61 : decode prog_1_method_11_code 61 = .ok (.iconst 1, 1) := by decide +kernel
theorem kdX0_kemWrap_62 : decode prog_1_method_11_code 62 = .ok (.aaload, 1) := by decide +kernel
theorem kdX0_kemWrap_63 : decode prog_1_method_11_code 63 = .ok (.aload_n 0, 1) := by decide +kernel
theorem kdX0_kemWrap_64 : decode prog_1_method_11_code 64 = .ok (.getfield 11, 3) := by decide +kernel
theorem kdX0_kemWrap_67 : decode prog_1_method_11_code 67 = .ok (.iconst 0, 1) := by decide +kernel
theorem kdX0_kemWrap_68 : decode prog_1_method_11_code 68 = .ok (.aaload, 1) := by decide +kernel
theorem kdX0_kemWrap_69 : decode prog_1_method_11_code 69 = .ok (.aload_n 0, 1) := by decide +kernel
theorem kdX0_kemWrap_70 : decode prog_1_method_11_code 70 = .ok (.getfield 11, 3) := by decide +kernel
theorem kdX0_kemWrap_73 : decode prog_1_method_11_code 73 = .ok (.iconst 5, 1) := by decide +kernel
theorem kdX0_kemWrap_74 : decode prog_1_method_11_code 74 = .ok (.aaload, 1) := by decide +kernel
theorem kdX0_kemWrap_75 : decode prog_1_method_11_code 75 = .ok (.aload_n 0, 1) := by decide +kernel
theorem kdX0_kemWrap_76 : decode prog_1_method_11_code 76 = .ok (.getfield 11, 3) := by decide +kernel
theorem kdX0_kemWrap_79 : decode prog_1_method_11_code 79 = .ok (.bipush 6, 2) := by decide +kernel
theorem kdX0_kemWrap_81 : decode prog_1_method_11_code 81 = .ok (.aaload, 1) := by decide +kernel
theorem kdX0_kemWrap_82 : decode prog_1_method_11_code 82 = .ok (.invokevirtual 107, 3) := by decide +kernel
theorem kdX0_kemWrap_85 : decode prog_1_method_11_code 85 = .ok (.aload_n 0, 1) := by decide +kernel
theorem kdX0_kemWrap_86 : decode prog_1_method_11_code 86 = .ok (.getfield 14, 3) := by decide +kernel
theorem kdX0_kemWrap_89 : decode prog_1_method_11_code 89 = .ok (.iconst 5, 1) := by decide +kernel
theorem kdX0_kemWrap_90 : decode prog_1_method_11_code 90 = .ok (.aload_n 2, 1) := by decide +kernel
theorem kdX0_kemWrap_91 : decode prog_1_method_11_code 91 = .ok (.invokevirtual 111, 3) := by decide +kernel
theorem kdX0_kemWrap_94 : decode prog_1_method_11_code 94 = .ok (.iastore, 1) := by decide +kernel
theorem kdX0_kemWrap_95 : decode prog_1_method_11_code 95 = .ok (.aload_n 0, 1) := by decide +kernel
theorem kdX0_kemWrap_96 : decode prog_1_method_11_code 96 = .ok (.getfield 14, 3) := by decide +kernel
theorem kdX0_kemWrap_99 : decode prog_1_method_11_code 99 = .ok (.bipush 6, 2) := by decide +kernel
theorem kdX0_kemWrap_101 : decode prog_1_method_11_code 101 = .ok (.bipush 32, 2) := by decide +kernel
theorem kdX0_kemWrap_103 : decode prog_1_method_11_code 103 = .ok (.iastore, 1) := by decide +kernel
theorem kdX0_kemWrap_104 : decode prog_1_method_11_code 104 = .ok (.aload_n 0, 1) := by decide +kernel
theorem kdX0_kemWrap_105 : decode prog_1_method_11_code 105 = .ok (.getfield 14, 3) := by decide +kernel
theorem kdX0_kemWrap_108 : decode prog_1_method_11_code 108 = .ok (.iconst 5, 1) := by decide +kernel
theorem kdX0_kemWrap_109 : decode prog_1_method_11_code 109 = .ok (.iaload, 1) := by decide +kernel
theorem kdX0_kemWrap_110 : decode prog_1_method_11_code 110 = .ok (.ireturn, 1) := by decide +kernel
theorem kdX0_kemOpen_0 : decode prog_1_method_12_code 0 = .ok (.aload_n 0, 1) := by decide +kernel
theorem kdX0_kemOpen_1 : decode prog_1_method_12_code 1 = .ok (.iload_n 1, 1) := by decide +kernel
theorem kdX0_kemOpen_2 : decode prog_1_method_12_code 2 = .ok (.invokevirtual 80, 3) := by decide +kernel
theorem kdX0_kemOpen_5 : decode prog_1_method_12_code 5 = .ok (.astore_n 2, 1) := by decide +kernel
theorem kdX0_kemOpen_6 : decode prog_1_method_12_code 6 = .ok (.aload_n 0, 1) := by decide +kernel
theorem kdX0_kemOpen_7 : decode prog_1_method_12_code 7 = .ok (.getfield 14, 3) := by decide +kernel
theorem kdX0_kemOpen_10 : decode prog_1_method_12_code 10 = .ok (.iconst 5, 1) := by decide +kernel
theorem kdX0_kemOpen_11 : decode prog_1_method_12_code 11 = .ok (.iaload, 1) := by decide +kernel
theorem kdX0_kemOpen_12 : decode prog_1_method_12_code 12 = .ok (.aload_n 2, 1) := by decide +kernel
theorem kdX0_kemOpen_13 : decode prog_1_method_12_code 13 = .ok (.invokevirtual 111, 3) := by decide +kernel
theorem kdX0_kemOpen_16 : decode prog_1_method_12_code 16 = .ok (.if_icmp .eq 13, 3) := by decide +kernel
theorem kdX0_kemOpen_19 : decode prog_1_method_12_code 19 = .ok (.new 102, 3) := by decide +kernel
theorem kdX0_kemOpen_22 : decode prog_1_method_12_code 22 = .ok (.dup, 1) := by decide +kernel
theorem kdX0_kemOpen_23 : decode prog_1_method_12_code 23 = .ok (.ldc 114, 2) := by decide +kernel
theorem kdX0_kemOpen_25 : decode prog_1_method_12_code 25 = .ok (.invokespecial 106, 3) := by decide +kernel
theorem kdX0_kemOpen_28 : decode prog_1_method_12_code 28 = .ok (.athrow, 1) := by decide +kernel
theorem kdX0_kemOpen_29 : decode prog_1_method_12_code 29 = .ok (.aload_n 0, 1) := by decide +kernel
theorem kdX0_kemOpen_30 : decode prog_1_method_12_code 30 = .ok (.getfield 14, 3) := by decide +kernel
theorem kdX0_kemOpen_33 : decode prog_1_method_12_code 33 = .ok (.iconst 2, 1) := by decide +kernel
theorem kdX0_kemOpen_34 : decode prog_1_method_12_code 34 = .ok (.iaload, 1) := by decide +kernel
theorem kdX0_kemOpen_35 : decode prog_1_method_12_code 35 = .ok (.aload_n 2, 1) := by decide +kernel
theorem kdX0_kemOpen_36 : decode prog_1_method_12_code 36 = .ok (.invokevirtual 95, 3) := by decide +kernel
theorem kdX0_kemOpen_39 : decode prog_1_method_12_code 39 = .ok (.if_icmp .ne 20, 3) := by decide +kernel
theorem kdX0_kemOpen_42 : decode prog_1_method_12_code 42 = .ok (.aload_n 0, 1) := by decide +kernel
theorem kdX0_kemOpen_43 : decode prog_1_method_12_code 43 = .ok (.getfield 38, 3) := by decide +kernel
theorem kdX0_kemOpen_46 : decode prog_1_method_12_code 46 = .ok (.aload_n 2, 1) := by decide +kernel
theorem kdX0_kemOpen_47 : decode prog_1_method_12_code 47 = .ok (.aload_n 0, 1) := by decide +kernel
theorem kdX0_kemOpen_48 : decode prog_1_method_12_code 48 = .ok (.getfield 11, 3) := by decide +kernel
theorem kdX0_kemOpen_51 : decode prog_1_method_12_code 51 = .ok (.iconst 2, 1) := by decide +kernel
theorem kdX0_kemOpen_52 : decode prog_1_method_12_code 52 = .ok (.aaload, 1) := by decide +kernel
theorem kdX0_kemOpen_53 : decode prog_1_method_12_code 53 = .ok (.invokevirtual 116, 3) := by decide +kernel
theorem kdX0_kemOpen_56 : decode prog_1_method_12_code 56 = .ok (.ifCond .ne 13, 3) := by decide +kernel
theorem kdX0_kemOpen_59 : decode prog_1_method_12_code 59 = .ok (.new 102, 3) := by decide +kernel
theorem kdX0_kemOpen_62 : decode prog_1_method_12_code 62 = .ok (.dup, 1) := by decide +kernel
theorem kdX0_kemOpen_63 : decode prog_1_method_12_code 63 = .ok (.ldc 119, 2) := by decide +kernel
theorem kdX0_kemOpen_65 : decode prog_1_method_12_code 65 = .ok (.invokespecial 106, 3) := by decide +kernel
theorem kdX0_kemOpen_68 : decode prog_1_method_12_code 68 = .ok (.athrow, 1) := by decide +kernel
theorem kdX0_kemOpen_69 : decode prog_1_method_12_code 69 = .ok (.aload_n 0, 1) := by decide +kernel
theorem kdX0_kemOpen_70 : decode prog_1_method_12_code 70 = .ok (.getfield 38, 3) := by decide +kernel
theorem kdX0_kemOpen_73 : decode prog_1_method_12_code 73 = .ok (.aload_n 2, 1) := by decide +kernel
theorem kdX0_kemOpen_74 : decode prog_1_method_12_code 74 = .ok (.aload_n 0, 1) := by decide +kernel
theorem kdX0_kemOpen_75 : decode prog_1_method_12_code 75 = .ok (.getfield 11, 3) := by decide +kernel
theorem kdX0_kemOpen_78 : decode prog_1_method_12_code 78 = .ok (.iconst 2, 1) := by decide +kernel
theorem kdX0_kemOpen_79 : decode prog_1_method_12_code 79 = .ok (.aaload, 1) := by decide +kernel
theorem kdX0_kemOpen_80 : decode prog_1_method_12_code 80 = .ok (.aload_n 0, 1) := by decide +kernel
theorem kdX0_kemOpen_81 : decode prog_1_method_12_code 81 = .ok (.getfield 11, 3) := by decide +kernel
theorem kdX0_kemOpen_84 : decode prog_1_method_12_code 84 = .ok (.iconst 5, 1) := by decide +kernel
theorem kdX0_kemOpen_85 : decode prog_1_method_12_code 85 = .ok (.aaload, 1) := by decide +kernel
theorem kdX0_kemOpen_86 : decode prog_1_method_12_code 86 = .ok (.aload_n 0, 1) := by decide +kernel
theorem kdX0_kemOpen_87 : decode prog_1_method_12_code 87 = .ok (.getfield 11, 3) := by decide +kernel
theorem kdX0_kemOpen_90 : decode prog_1_method_12_code 90 = .ok (.bipush 6, 2) := by decide +kernel
theorem kdX0_kemOpen_92 : decode prog_1_method_12_code 92 = .ok (.aaload, 1) := by decide +kernel
theorem kdX0_kemOpen_93 : decode prog_1_method_12_code 93 = .ok (.invokevirtual 121, 3) := by decide +kernel
theorem kdX0_kemOpen_96 : decode prog_1_method_12_code 96 = .ok (.istore_n 3, 1) := by decide +kernel
theorem kdX0_kemOpen_97 : decode prog_1_method_12_code 97 = .ok (.aload_n 0, 1) := by decide +kernel
theorem kdX0_kemOpen_98 : decode prog_1_method_12_code 98 = .ok (.getfield 14, 3) := by decide +kernel
theorem kdX0_kemOpen_101 : decode prog_1_method_12_code 101 = .ok (.bipush 6, 2) := by decide +kernel
theorem kdX0_kemOpen_103 : decode prog_1_method_12_code 103 = .ok (.bipush 32, 2) := by decide +kernel
theorem kdX0_kemOpen_105 : decode prog_1_method_12_code 105 = .ok (.iastore, 1) := by decide +kernel
theorem kdX0_kemOpen_106 : decode prog_1_method_12_code 106 = .ok (.iload_n 3, 1) := by decide +kernel
theorem kdX0_kemOpen_107 : decode prog_1_method_12_code 107 = .ok (.ifCond .eq 7, 3) := by decide +kernel
theorem kdX0_kemOpen_110 : decode prog_1_method_12_code 110 = .ok (.iconst 1, 1) := by decide +kernel
theorem kdX0_kemOpen_111 : decode prog_1_method_12_code 111 = .ok (.goto 4, 3) := by decide +kernel
theorem kdX0_kemOpen_114 : decode prog_1_method_12_code 114 = .ok (.iconst 0, 1) := by decide +kernel
theorem kdX0_kemOpen_115 : decode prog_1_method_12_code 115 = .ok (.ireturn, 1) := by decide +kernel
theorem kdX0_putOnTape_0 : decode prog_1_method_13_code 0 = .ok (.bipush 24, 2) := by decide +kernel
theorem kdX0_putOnTape_2 : decode prog_1_method_13_code 2 = .ok (.istore_n 2, 1) := by decide +kernel
theorem kdX0_putOnTape_3 : decode prog_1_method_13_code 3 = .ok (.iload_n 2, 1) := by decide +kernel
theorem kdX0_putOnTape_4 : decode prog_1_method_13_code 4 = .ok (.ifCond .lt 32, 3) := by decide +kernel
theorem kdX0_putOnTape_7 : decode prog_1_method_13_code 7 = .ok (.aload_n 0, 1) := by decide +kernel
theorem kdX0_putOnTape_8 : decode prog_1_method_13_code 8 = .ok (.getfield 18, 3) := by decide +kernel
theorem kdX0_putOnTape_11 : decode prog_1_method_13_code 11 = .ok (.aload_n 0, 1) := by decide +kernel
theorem kdX0_putOnTape_12 : decode prog_1_method_13_code 12 = .ok (.getfield 22, 3) := by decide +kernel
theorem kdX0_putOnTape_15 : decode prog_1_method_13_code 15 = .ok (.iload_n 1, 1) := by decide +kernel
theorem kdX0_putOnTape_16 : decode prog_1_method_13_code 16 = .ok (.iload_n 2, 1) := by decide +kernel
theorem kdX0_putOnTape_17 : decode prog_1_method_13_code 17 = .ok (.ishr, 1) := by decide +kernel
theorem kdX0_putOnTape_18 : decode prog_1_method_13_code 18 = .ok (.i2b, 1) := by decide +kernel
theorem kdX0_putOnTape_19 : decode prog_1_method_13_code 19 = .ok (.bastore, 1) := by decide +kernel
theorem kdX0_putOnTape_20 : decode prog_1_method_13_code 20 = .ok (.aload_n 0, 1) := by decide +kernel
theorem kdX0_putOnTape_21 : decode prog_1_method_13_code 21 = .ok (.dup, 1) := by decide +kernel
theorem kdX0_putOnTape_22 : decode prog_1_method_13_code 22 = .ok (.getfield 22, 3) := by decide +kernel
theorem kdX0_putOnTape_25 : decode prog_1_method_13_code 25 = .ok (.iconst 1, 1) := by decide +kernel
theorem kdX0_putOnTape_26 : decode prog_1_method_13_code 26 = .ok (.iadd, 1) := by decide +kernel
theorem kdX0_putOnTape_27 : decode prog_1_method_13_code 27 = .ok (.putfield 22, 3) := by decide +kernel
theorem kdX0_putOnTape_30 : decode prog_1_method_13_code 30 = .ok (.iinc 2 (-8), 3) := by decide +kernel
theorem kdX0_putOnTape_33 : decode prog_1_method_13_code 33 = .ok (.goto (-30), 3) := by decide +kernel
theorem kdX0_putOnTape_36 : decode prog_1_method_13_code 36 = .ok (.return_, 1) := by decide +kernel
theorem kdX0_checkSlot_0 : decode prog_1_method_14_code 0 = .ok (.iload_n 0, 1) := by decide +kernel
theorem kdX0_checkSlot_1 : decode prog_1_method_14_code 1 = .ok (.ifCond .lt 9, 3) := by decide +kernel
theorem kdX0_checkSlot_4 : decode prog_1_method_14_code 4 = .ok (.iload_n 0, 1) := by decide +kernel
theorem kdX0_checkSlot_5 : decode prog_1_method_14_code 5 = .ok (.bipush 8, 2) := by decide +kernel
theorem kdX0_checkSlot_7 : decode prog_1_method_14_code 7 = .ok (.if_icmp .lt 13, 3) := by decide +kernel
theorem kdX0_checkSlot_10 : decode prog_1_method_14_code 10 = .ok (.new 67, 3) := by decide +kernel
theorem kdX0_checkSlot_13 : decode prog_1_method_14_code 13 = .ok (.dup, 1) := by decide +kernel
theorem kdX0_checkSlot_14 : decode prog_1_method_14_code 14 = .ok (.ldc 125, 2) := by decide +kernel
theorem kdX0_checkSlot_16 : decode prog_1_method_14_code 16 = .ok (.invokespecial 71, 3) := by decide +kernel
theorem kdX0_checkSlot_19 : decode prog_1_method_14_code 19 = .ok (.athrow, 1) := by decide +kernel
theorem kdX0_checkSlot_20 : decode prog_1_method_14_code 20 = .ok (.return_, 1) := by decide +kernel
theorem kdX0_checkSize_0 : decode prog_1_method_15_code 0 = .ok (.iload_n 0, 1) := by decide +kernel
theorem kdX0_checkSize_1 : decode prog_1_method_15_code 1 = .ok (.ifCond .lt 10, 3) := by decide +kernel
theorem kdX0_checkSize_4 : decode prog_1_method_15_code 4 = .ok (.iload_n 0, 1) := by decide +kernel
theorem kdX0_checkSize_5 : decode prog_1_method_15_code 5 = .ok (.sipush 8192, 3) := by decide +kernel
theorem kdX0_checkSize_8 : decode prog_1_method_15_code 8 = .ok (.if_icmp .le 13, 3) := by decide +kernel
theorem kdX0_checkSize_11 : decode prog_1_method_15_code 11 = .ok (.new 67, 3) := by decide +kernel
theorem kdX0_checkSize_14 : decode prog_1_method_15_code 14 = .ok (.dup, 1) := by decide +kernel
theorem kdX0_checkSize_15 : decode prog_1_method_15_code 15 = .ok (.ldc 127, 2) := by decide +kernel
theorem kdX0_checkSize_17 : decode prog_1_method_15_code 17 = .ok (.invokespecial 71, 3) := by decide +kernel
theorem kdX0_checkSize_20 : decode prog_1_method_15_code 20 = .ok (.athrow, 1) := by decide +kernel
theorem kdX0_checkSize_21 : decode prog_1_method_15_code 21 = .ok (.return_, 1) := by decide +kernel
theorem kdX0_checkPlace_0 : decode prog_1_method_16_code 0 = .ok (.iload_n 2, 1) := by decide +kernel
theorem kdX0_checkPlace_1 : decode prog_1_method_16_code 1 = .ok (.ifCond .lt 13, 3) := by decide +kernel
theorem kdX0_checkPlace_4 : decode prog_1_method_16_code 4 = .ok (.iload_n 2, 1) := by decide +kernel
theorem kdX0_checkPlace_5 : decode prog_1_method_16_code 5 = .ok (.aload_n 0, 1) := by decide +kernel
theorem kdX0_checkPlace_6 : decode prog_1_method_16_code 6 = .ok (.getfield 14, 3) := by decide +kernel
theorem kdX0_checkPlace_9 : decode prog_1_method_16_code 9 = .ok (.iload_n 1, 1) := by decide +kernel
theorem kdX0_checkPlace_10 : decode prog_1_method_16_code 10 = .ok (.iaload, 1) := by decide +kernel
theorem kdX0_checkPlace_11 : decode prog_1_method_16_code 11 = .ok (.if_icmp .lt 13, 3) := by decide +kernel
theorem kdX0_checkPlace_14 : decode prog_1_method_16_code 14 = .ok (.new 42, 3) := by decide +kernel
theorem kdX0_checkPlace_17 : decode prog_1_method_16_code 17 = .ok (.dup, 1) := by decide +kernel
theorem kdX0_checkPlace_18 : decode prog_1_method_16_code 18 = .ok (.ldc 129, 2) := by decide +kernel
theorem kdX0_checkPlace_20 : decode prog_1_method_16_code 20 = .ok (.invokespecial 46, 3) := by decide +kernel
theorem kdX0_checkPlace_23 : decode prog_1_method_16_code 23 = .ok (.athrow, 1) := by decide +kernel
theorem kdX0_checkPlace_24 : decode prog_1_method_16_code 24 = .ok (.return_, 1) := by decide +kernel
theorem kdX0_checkRandom_0 : decode prog_1_method_17_code 0 = .ok (.aload_n 0, 1) := by decide +kernel
theorem kdX0_checkRandom_1 : decode prog_1_method_17_code 1 = .ok (.getfield 14, 3) := by decide +kernel
theorem kdX0_checkRandom_4 : decode prog_1_method_17_code 4 = .ok (.iconst 0, 1) := by decide +kernel
theorem kdX0_checkRandom_5 : decode prog_1_method_17_code 5 = .ok (.iaload, 1) := by decide +kernel
theorem kdX0_checkRandom_6 : decode prog_1_method_17_code 6 = .ok (.iload_n 1, 1) := by decide +kernel
theorem kdX0_checkRandom_7 : decode prog_1_method_17_code 7 = .ok (.if_icmp .eq 13, 3) := by decide +kernel
theorem kdX0_checkRandom_10 : decode prog_1_method_17_code 10 = .ok (.new 131, 3) := by decide +kernel
theorem kdX0_checkRandom_13 : decode prog_1_method_17_code 13 = .ok (.dup, 1) := by decide +kernel
theorem kdX0_checkRandom_14 : decode prog_1_method_17_code 14 = .ok (.ldc 133, 2) := by decide +kernel
theorem kdX0_checkRandom_16 : decode prog_1_method_17_code 16 = .ok (.invokespecial 135, 3) := by decide +kernel
theorem kdX0_checkRandom_19 : decode prog_1_method_17_code 19 = .ok (.athrow, 1) := by decide +kernel
theorem kdX0_checkRandom_20 : decode prog_1_method_17_code 20 = .ok (.return_, 1) := by decide +kernel
theorem kdX0_shapeOf_0 : decode prog_1_method_18_code 0 = .ok (.iload_n 1, 1) := by decide +kernel
theorem kdX0_shapeOf_1 : decode prog_1_method_18_code 1 = .ok (.ifCond .lt 12, 3) := by decide +kernel
theorem kdX0_shapeOf_4 : decode prog_1_method_18_code 4 = .ok (.iload_n 1, 1) := by decide +kernel
theorem kdX0_shapeOf_5 : decode prog_1_method_18_code 5 = .ok (.aload_n 0, 1) := by decide +kernel
theorem kdX0_shapeOf_6 : decode prog_1_method_18_code 6 = .ok (.getfield 31, 3) := by decide +kernel
theorem kdX0_shapeOf_9 : decode prog_1_method_18_code 9 = .ok (.arraylength, 1) := by decide +kernel
theorem kdX0_shapeOf_10 : decode prog_1_method_18_code 10 = .ok (.if_icmp .lt 13, 3) := by decide +kernel
theorem kdX0_shapeOf_13 : decode prog_1_method_18_code 13 = .ok (.new 67, 3) := by decide +kernel
theorem kdX0_shapeOf_16 : decode prog_1_method_18_code 16 = .ok (.dup, 1) := by decide +kernel
theorem kdX0_shapeOf_17 : decode prog_1_method_18_code 17 = .ok (.ldc 136, 2) := by decide +kernel
theorem kdX0_shapeOf_19 : decode prog_1_method_18_code 19 = .ok (.invokespecial 71, 3) := by decide +kernel
theorem kdX0_shapeOf_22 : decode prog_1_method_18_code 22 = .ok (.athrow, 1) := by decide +kernel
theorem kdX0_shapeOf_23 : decode prog_1_method_18_code 23 = .ok (.aload_n 0, 1) := by decide +kernel
theorem kdX0_shapeOf_24 : decode prog_1_method_18_code 24 = .ok (.getfield 31, 3) := by decide +kernel
theorem kdX0_shapeOf_27 : decode prog_1_method_18_code 27 = .ok (.iload_n 1, 1) := by decide +kernel
theorem kdX0_shapeOf_28 : decode prog_1_method_18_code 28 = .ok (.aaload, 1) := by decide +kernel
theorem kdX0_shapeOf_29 : decode prog_1_method_18_code 29 = .ok (.areturn, 1) := by decide +kernel
theorem kdX0_startAlike_0 : decode prog_1_method_19_code 0 = .ok (.iconst 0, 1) := by decide +kernel
theorem kdX0_startAlike_1 : decode prog_1_method_19_code 1 = .ok (.istore 4, 2) := by decide +kernel
theorem kdX0_startAlike_3 : decode prog_1_method_19_code 3 = .ok (.iconst 0, 1) := by decide +kernel
theorem kdX0_startAlike_4 : decode prog_1_method_19_code 4 = .ok (.istore 5, 2) := by decide +kernel
theorem kdX0_startAlike_6 : decode prog_1_method_19_code 6 = .ok (.iload 5, 2) := by decide +kernel
theorem kdX0_startAlike_8 : decode prog_1_method_19_code 8 = .ok (.iload_n 3, 1) := by decide +kernel
theorem kdX0_startAlike_9 : decode prog_1_method_19_code 9 = .ok (.if_icmp .ge 25, 3) := by decide +kernel
theorem kdX0_startAlike_12 : decode prog_1_method_19_code 12 = .ok (.iload 4, 2) := by decide +kernel
theorem kdX0_startAlike_14 : decode prog_1_method_19_code 14 = .ok (.aload_n 0, 1) := by decide +kernel
theorem kdX0_startAlike_15 : decode prog_1_method_19_code 15 = .ok (.iload_n 1, 1) := by decide +kernel
theorem kdX0_startAlike_16 : decode prog_1_method_19_code 16 = .ok (.iload 5, 2) := by decide +kernel
theorem kdX0_startAlike_18 : decode prog_1_method_19_code 18 = .ok (.iadd, 1) := by decide +kernel
theorem kdX0_startAlike_19 : decode prog_1_method_19_code 19 = .ok (.baload, 1) := by decide +kernel
theorem kdX0_startAlike_20 : decode prog_1_method_19_code 20 = .ok (.aload_n 2, 1) := by decide +kernel
theorem kdX0_startAlike_21 : decode prog_1_method_19_code 21 = .ok (.iload 5, 2) := by decide +kernel
theorem kdX0_startAlike_23 : decode prog_1_method_19_code 23 = .ok (.baload, 1) := by decide +kernel
theorem kdX0_startAlike_24 : decode prog_1_method_19_code 24 = .ok (.ixor, 1) := by decide +kernel
theorem kdX0_startAlike_25 : decode prog_1_method_19_code 25 = .ok (.ior, 1) := by decide +kernel
theorem kdX0_startAlike_26 : decode prog_1_method_19_code 26 = .ok (.istore 4, 2) := by decide +kernel
theorem kdX0_startAlike_28 : decode prog_1_method_19_code 28 = .ok (.iinc 5 1, 3) := by decide +kernel
theorem kdX0_startAlike_31 : decode prog_1_method_19_code 31 = .ok (.goto (-25), 3) := by decide +kernel
theorem kdX0_startAlike_34 : decode prog_1_method_19_code 34 = .ok (.iload 4, 2) := by decide +kernel
theorem kdX0_startAlike_36 : decode prog_1_method_19_code 36 = .ok (.ifCond .ne 7, 3) := by decide +kernel
theorem kdX0_startAlike_39 : decode prog_1_method_19_code 39 = .ok (.iconst 1, 1) := by decide +kernel
theorem kdX0_startAlike_40 : decode prog_1_method_19_code 40 = .ok (.goto 4, 3) := by decide +kernel
theorem kdX0_startAlike_43 : decode prog_1_method_19_code 43 = .ok (.iconst 0, 1) := by decide +kernel
theorem kdX0_startAlike_44 : decode prog_1_method_19_code 44 = .ok (.ireturn, 1) := by decide +kernel
