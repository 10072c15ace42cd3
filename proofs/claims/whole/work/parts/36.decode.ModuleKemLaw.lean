theorem kdX7_feed_0 : decode method_3_code 0 = .ok (.aload 6, 2) := by decide +kernel
theorem kdX7_feed_2 : decode method_3_code 2 = .ok (.iconst 0, 1) := by decide +kernel
theorem kdX7_feed_3 : decode method_3_code 3 = .ok (.aload_n 0, 1) := by decide +kernel
theorem kdX7_feed_4 : decode method_3_code 4 = .ok (.iload_n 1, 1) := by decide +kernel
theorem kdX7_feed_5 : decode method_3_code 5 = .ok (.iload_n 2, 1) := by decide +kernel
theorem kdX7_feed_6 : decode method_3_code 6 = .ok (.iload_n 3, 1) := by decide +kernel
theorem kdX7_feed_7 : decode method_3_code 7 = .ok (.iload 4, 2) := by decide +kernel
theorem kdX7_feed_9 : decode method_3_code 9 = .ok (.iload 5, 2) := by decide +kernel
theorem kdX7_feed_11 : decode method_3_code 11 = .ok (.invokevirtual 7, 3) := by decide +kernel
theorem kdX7_feed_14 : decode method_3_code 14 = .ok (.i2l, 1) := by decide +kernel
theorem kdX7_feed_15 : decode method_3_code 15 = .ok (.lastore, 1) := by decide +kernel
theorem kdX7_feed_16 : decode method_3_code 16 = .ok (.goto 7, 3) := by decide +kernel
theorem kdX7_feed_19 : decode method_3_code 19 = .ok (.astore 7, 2) := by decide +kernel
theorem kdX7_feed_21 : decode method_3_code 21 = .ok (.iconst 1, 1) := by decide +kernel
theorem kdX7_feed_22 : decode method_3_code 22 = .ok (.ireturn, 1) := by decide +kernel
theorem kdX7_feed_23 : decode method_3_code 23 = .ok (.iconst 0, 1) := by decide +kernel
theorem kdX7_feed_24 : decode method_3_code 24 = .ok (.ireturn, 1) := by decide +kernel
theorem kdX7_end_0 : decode method_4_code 0 = .ok (.aload_n 3, 1) := by decide +kernel
theorem kdX7_end_1 : decode method_4_code 1 = .ok (.iconst 0, 1) := by decide +kernel
theorem kdX7_end_2 : decode method_4_code 2 = .ok (.aload_n 0, 1) := by decide +kernel
theorem kdX7_end_3 : decode method_4_code 3 = .ok (.iload_n 1, 1) := by decide +kernel
theorem kdX7_end_4 : decode method_4_code 4 = .ok (.iload_n 2, 1) := by decide +kernel
theorem kdX7_end_5 : decode method_4_code 5 = .ok (.invokevirtual 15, 3) := by decide +kernel
theorem kdX7_end_8 : decode method_4_code 8 = .ok (.i2l, 1) := by decide +kernel
theorem kdX7_end_9 : decode method_4_code 9 = .ok (.lastore, 1) := by decide +kernel
theorem kdX7_end_10 : decode method_4_code 10 = .ok (.goto 11, 3) := by decide +kernel
theorem kdX7_end_13 : decode method_4_code 13 = .ok (.astore 4, 2) := by decide +kernel
theorem kdX7_end_15 : decode method_4_code 15 = .ok (.iconst 1, 1) := by decide +kernel
theorem kdX7_end_16 : decode method_4_code 16 = .ok (.ireturn, 1) := by decide +kernel
theorem kdX7_end_17 : decode method_4_code 17 = .ok (.astore 4, 2) := by decide +kernel
theorem kdX7_end_19 : decode method_4_code 19 = .ok (.iconst 2, 1) := by decide +kernel
theorem kdX7_end_20 : decode method_4_code 20 = .ok (.ireturn, 1) := by decide +kernel
theorem kdX7_end_21 : decode method_4_code 21 = .ok (.iconst 0, 1) := by decide +kernel
theorem kdX7_end_22 : decode method_4_code 22 = .ok (.ireturn, 1) := by decide +kernel
theorem kdX7_copy_0 : decode method_5_code 0 = .ok (.aload_n 3, 1) := by decide +kernel
theorem kdX7_copy_1 : decode method_5_code 1 = .ok (.iconst 0, 1) := by decide +kernel
theorem kdX7_copy_2 : decode method_5_code 2 = .ok (.aload_n 0, 1) := by decide +kernel
theorem kdX7_copy_3 : decode method_5_code 3 = .ok (.iload_n 1, 1) := by decide +kernel
theorem kdX7_copy_4 : decode method_5_code 4 = .ok (.iload_n 2, 1) := by decide +kernel
theorem kdX7_copy_5 : decode method_5_code 5 = .ok (.invokevirtual 21, 3) := by decide +kernel
theorem kdX7_copy_8 : decode method_5_code 8 = .ok (.i2l, 1) := by decide +kernel
theorem kdX7_copy_9 : decode method_5_code 9 = .ok (.lastore, 1) := by decide +kernel
theorem kdX7_copy_10 : decode method_5_code 10 = .ok (.goto 7, 3) := by decide +kernel
theorem kdX7_copy_13 : decode method_5_code 13 = .ok (.astore 4, 2) := by decide +kernel
theorem kdX7_copy_15 : decode method_5_code 15 = .ok (.iconst 1, 1) := by decide +kernel
theorem kdX7_copy_16 : decode method_5_code 16 = .ok (.ireturn, 1) := by decide +kernel
theorem kdX7_copy_17 : decode method_5_code 17 = .ok (.iconst 0, 1) := by decide +kernel
theorem kdX7_copy_18 : decode method_5_code 18 = .ok (.ireturn, 1) := by decide +kernel
theorem kdX7_resize_0 : decode method_6_code 0 = .ok (.aload_n 3, 1) := by decide +kernel
theorem kdX7_resize_1 : decode method_6_code 1 = .ok (.iconst 0, 1) := by decide +kernel
theorem kdX7_resize_2 : decode method_6_code 2 = .ok (.aload_n 0, 1) := by decide +kernel
theorem kdX7_resize_3 : decode method_6_code 3 = .ok (.iload_n 1, 1) := by decide +kernel
theorem kdX7_resize_4 : decode method_6_code 4 = .ok (.iload_n 2, 1) := by decide +kernel
theorem kdX7_resize_5 : decode method_6_code 5 = .ok (.invokevirtual 24, 3) := by decide +kernel
theorem kdX7_resize_8 : decode method_6_code 8 = .ok (.i2l, 1) := by decide +kernel
theorem kdX7_resize_9 : decode method_6_code 9 = .ok (.lastore, 1) := by decide +kernel
theorem kdX7_resize_10 : decode method_6_code 10 = .ok (.goto 7, 3) := by decide +kernel
theorem kdX7_resize_13 : decode method_6_code 13 = .ok (.astore 4, 2) := by decide +kernel
theorem kdX7_resize_15 : decode method_6_code 15 = .ok (.iconst 1, 1) := by decide +kernel
theorem kdX7_resize_16 : decode method_6_code 16 = .ok (.ireturn, 1) := by decide +kernel
theorem kdX7_resize_17 : decode method_6_code 17 = .ok (.iconst 0, 1) := by decide +kernel
theorem kdX7_resize_18 : decode method_6_code 18 = .ok (.ireturn, 1) := by decide +kernel
theorem kdX7_alter_0 : decode method_7_code 0 = .ok (.aload 4, 2) := by decide +kernel
theorem kdX7_alter_2 : decode method_7_code 2 = .ok (.iconst 0, 1) := by decide +kernel
theorem kdX7_alter_3 : decode method_7_code 3 = .ok (.aload_n 0, 1) := by decide +kernel
theorem kdX7_alter_4 : decode method_7_code 4 = .ok (.iload_n 1, 1) := by decide +kernel
theorem kdX7_alter_5 : decode method_7_code 5 = .ok (.iload_n 2, 1) := by decide +kernel
theorem kdX7_alter_6 : decode method_7_code 6 = .ok (.iload_n 3, 1) := by decide +kernel
theorem kdX7_alter_7 : decode method_7_code 7 = .ok (.invokevirtual 27, 3) := by decide +kernel
theorem kdX7_alter_10 : decode method_7_code 10 = .ok (.i2l, 1) := by decide +kernel
theorem kdX7_alter_11 : decode method_7_code 11 = .ok (.lastore, 1) := by decide +kernel
theorem kdX7_alter_12 : decode method_7_code 12 = .ok (.goto 11, 3) := by decide +kernel
theorem kdX7_alter_15 : decode method_7_code 15 = .ok (.astore 5, 2) := by decide +kernel
theorem kdX7_alter_17 : decode method_7_code 17 = .ok (.iconst 1, 1) := by decide +kernel
theorem kdX7_alter_18 : decode method_7_code 18 = .ok (.ireturn, 1) := by decide +kernel
theorem kdX7_alter_19 : decode method_7_code 19 = .ok (.astore 5, 2) := by decide +kernel
theorem kdX7_alter_21 : decode method_7_code 21 = .ok (.iconst 2, 1) := by decide +kernel
theorem kdX7_alter_22 : decode method_7_code 22 = .ok (.ireturn, 1) := by decide +kernel
theorem kdX7_alter_23 : decode method_7_code 23 = .ok (.iconst 0, 1) := by decide +kernel
theorem kdX7_alter_24 : decode method_7_code 24 = .ok (.ireturn, 1) := by decide +kernel
theorem kdX7_length_0 : decode method_8_code 0 = .ok (.aload_n 2, 1) := by decide +kernel
theorem kdX7_length_1 : decode method_8_code 1 = .ok (.iconst 0, 1) := by decide +kernel
theorem kdX7_length_2 : decode method_8_code 2 = .ok (.aload_n 0, 1) := by decide +kernel
theorem kdX7_length_3 : decode method_8_code 3 = .ok (.iload_n 1, 1) := by decide +kernel
theorem kdX7_length_4 : decode method_8_code 4 = .ok (.invokevirtual 31, 3) := by decide +kernel
theorem kdX7_length_7 : decode method_8_code 7 = .ok (.i2l, 1) := by decide +kernel
theorem kdX7_length_8 : decode method_8_code 8 = .ok (.lastore, 1) := by decide +kernel
theorem kdX7_length_9 : decode method_8_code 9 = .ok (.goto 6, 3) := by decide +kernel
theorem kdX7_length_12 : decode method_8_code 12 = .ok (.astore_n 3, 1) := by decide +kernel
theorem kdX7_length_13 : decode method_8_code 13 = .ok (.iconst 1, 1) := by decide +kernel
theorem kdX7_length_14 : decode method_8_code 14 = .ok (.ireturn, 1) := by decide +kernel
theorem kdX7_length_15 : decode method_8_code 15 = .ok (.iconst 0, 1) := by decide +kernel
theorem kdX7_length_16 : decode method_8_code 16 = .ok (.ireturn, 1) := by decide +kernel
theorem kdX7_word_0 : decode method_9_code 0 = .ok (.aload_n 3, 1) := by decide +kernel
theorem kdX7_word_1 : decode method_9_code 1 = .ok (.iconst 0, 1) := by decide +kernel
theorem kdX7_word_2 : decode method_9_code 2 = .ok (.aload_n 0, 1) := by decide +kernel
theorem kdX7_word_3 : decode method_9_code 3 = .ok (.iload_n 1, 1) := by decide +kernel
theorem kdX7_word_4 : decode method_9_code 4 = .ok (.iload_n 2, 1) := by decide +kernel
theorem kdX7_word_5 : decode method_9_code 5 = .ok (.invokevirtual 35, 3) := by decide +kernel
theorem kdX7_word_8 : decode method_9_code 8 = .ok (.lastore, 1) := by decide +kernel
theorem kdX7_word_9 : decode method_9_code 9 = .ok (.goto 11, 3) := by decide +kernel
theorem kdX7_word_12 : decode method_9_code 12 = .ok (.astore 4, 2) := by decide +kernel
theorem kdX7_word_14 : decode method_9_code 14 = .ok (.iconst 1, 1) := by decide +kernel
theorem kdX7_word_15 : decode method_9_code 15 = .ok (.ireturn, 1) := by decide +kernel
theorem kdX7_word_16 : decode method_9_code 16 = .ok (.astore 4, 2) := by decide +kernel
theorem kdX7_word_18 : decode method_9_code 18 = .ok (.iconst 2, 1) := by decide +kernel
theorem kdX7_word_19 : decode method_9_code 19 = .ok (.ireturn, 1) := by decide +kernel
theorem kdX7_word_20 : decode method_9_code 20 = .ok (.iconst 0, 1) := by decide +kernel
theorem kdX7_word_21 : decode method_9_code 21 = .ok (.ireturn, 1) := by decide +kernel
theorem kdX7_same_0 : decode method_10_code 0 = .ok (.aload_n 3, 1) := by decide +kernel
theorem kdX7_same_1 : decode method_10_code 1 = .ok (.iconst 0, 1) := by decide +kernel
theorem kdX7_same_2 : decode method_10_code 2 = .ok (.aload_n 0, 1) := by decide +kernel
theorem kdX7_same_3 : decode method_10_code 3 = .ok (.iload_n 1, 1) := by decide +kernel
theorem kdX7_same_4 : decode method_10_code 4 = .ok (.iload_n 2, 1) := by decide +kernel
theorem kdX7_same_5 : decode method_10_code 5 = .ok (.invokevirtual 39, 3) := by decide +kernel
theorem kdX7_same_8 : decode method_10_code 8 = .ok (.ifCond .eq 7, 3) := by decide +kernel
theorem kdX7_same_11 : decode method_10_code 11 = .ok (.lconst 1, 1) := by decide +kernel
theorem kdX7_same_12 : decode method_10_code 12 = .ok (.goto 4, 3) := by decide +kernel
theorem kdX7_same_15 : decode method_10_code 15 = .ok (.lconst 0, 1) := by decide +kernel
theorem kdX7_same_16 : decode method_10_code 16 = .ok (.lastore, 1) := by decide +kernel
theorem kdX7_same_17 : decode method_10_code 17 = .ok (.goto 7, 3) := by decide +kernel
theorem kdX7_same_20 : decode method_10_code 20 = .ok (.astore 4, 2) := by decide +kernel
theorem kdX7_same_22 : decode method_10_code 22 = .ok (.iconst 1, 1) := by decide +kernel
theorem kdX7_same_23 : decode method_10_code 23 = .ok (.ireturn, 1) := by decide +kernel
theorem kdX7_same_24 : decode method_10_code 24 = .ok (.iconst 0, 1) := by decide +kernel
theorem kdX7_same_25 : decode method_10_code 25 = .ok (.ireturn, 1) := by decide +kernel
theorem kdX7_kemKeys_0 : decode method_11_code 0 = .ok (.aload_n 2, 1) := by decide +kernel
theorem kdX7_kemKeys_1 : decode method_11_code 1 = .ok (.iconst 0, 1) := by decide +kernel
theorem kdX7_kemKeys_2 : decode method_11_code 2 = .ok (.aload_n 0, 1) := by decide +kernel
theorem kdX7_kemKeys_3 : decode method_11_code 3 = .ok (.iload_n 1, 1) := by decide +kernel
theorem kdX7_kemKeys_4 : decode method_11_code 4 = .ok (.invokevirtual 43, 3) := by decide +kernel
theorem kdX7_kemKeys_7 : decode method_11_code 7 = .ok (.i2l, 1) := by decide +kernel
theorem kdX7_kemKeys_8 : decode method_11_code 8 = .ok (.lastore, 1) := by decide +kernel
theorem kdX7_kemKeys_9 : decode method_11_code 9 = .ok (.goto 12, 3) := by decide +kernel
theorem kdX7_kemKeys_12 : decode method_11_code 12 = .ok (.astore_n 3, 1) := by decide +kernel
theorem kdX7_kemKeys_13 : decode method_11_code 13 = .ok (.iconst 1, 1) := by decide +kernel
theorem kdX7_kemKeys_14 : decode method_11_code 14 = .ok (.ireturn, 1) := by decide +kernel
theorem kdX7_kemKeys_15 : decode method_11_code 15 = .ok (.astore_n 3, 1) := by decide +kernel
theorem kdX7_kemKeys_16 : decode method_11_code 16 = .ok (.iconst 2, 1) := by decide +kernel
theorem kdX7_kemKeys_17 : decode method_11_code 17 = .ok (.ireturn, 1) := by decide +kernel
theorem kdX7_kemKeys_18 : decode method_11_code 18 = .ok (.astore_n 3, 1) := by decide +kernel
theorem kdX7_kemKeys_19 : decode method_11_code 19 = .ok (.iconst 3, 1) := by decide +kernel
theorem kdX7_kemKeys_20 : decode method_11_code 20 = .ok (.ireturn, 1) := by decide +kernel
theorem kdX7_kemKeys_21 : decode method_11_code 21 = .ok (.iconst 0, 1) := by decide +kernel
theorem kdX7_kemKeys_22 : decode method_11_code 22 = .ok (.ireturn, 1) := by decide +kernel
theorem kdX7_kemWrap_0 : decode method_12_code 0 = .ok (.aload_n 2, 1) := by decide +kernel
theorem kdX7_kemWrap_1 : decode method_12_code 1 = .ok (.iconst 0, 1) := by decide +kernel
theorem kdX7_kemWrap_2 : decode method_12_code 2 = .ok (.aload_n 0, 1) := by decide +kernel
theorem kdX7_kemWrap_3 : decode method_12_code 3 = .ok (.iload_n 1, 1) := by decide +kernel
theorem kdX7_kemWrap_4 : decode method_12_code 4 = .ok (.invokevirtual 50, 3) := by decide +kernel
theorem kdX7_kemWrap_7 : decode method_12_code 7 = .ok (.i2l, 1) := by decide +kernel
theorem kdX7_kemWrap_8 : decode method_12_code 8 = .ok (.lastore, 1) := by decide +kernel
theorem kdX7_kemWrap_9 : decode method_12_code 9 = .ok (.goto 15, 3) := by decide +kernel
theorem kdX7_kemWrap_12 : decode method_12_code 12 = .ok (.astore_n 3, 1) := by decide +kernel
theorem kdX7_kemWrap_13 : decode method_12_code 13 = .ok (.iconst 1, 1) := by decide +kernel
theorem kdX7_kemWrap_14 : decode method_12_code 14 = .ok (.ireturn, 1) := by decide +kernel
theorem kdX7_kemWrap_15 : decode method_12_code 15 = .ok (.astore_n 3, 1) := by decide +kernel
theorem kdX7_kemWrap_16 : decode method_12_code 16 = .ok (.iconst 2, 1) := by decide +kernel
theorem kdX7_kemWrap_17 : decode method_12_code 17 = .ok (.ireturn, 1) := by decide +kernel
theorem kdX7_kemWrap_18 : decode method_12_code 18 = .ok (.astore_n 3, 1) := by decide +kernel
theorem kdX7_kemWrap_19 : decode method_12_code 19 = .ok (.iconst 3, 1) := by decide +kernel
theorem kdX7_kemWrap_20 : decode method_12_code 20 = .ok (.ireturn, 1) := by decide +kernel
theorem kdX7_kemWrap_21 : decode method_12_code 21 = .ok (.astore_n 3, 1) := by decide +kernel
theorem kdX7_kemWrap_22 : decode method_12_code 22 = .ok (.iconst 4, 1) := by decide +kernel
theorem kdX7_kemWrap_23 : decode method_12_code 23 = .ok (.ireturn, 1) := by decide +kernel
theorem kdX7_kemWrap_24 : decode method_12_code 24 = .ok (.iconst 0, 1) := by decide +kernel
theorem kdX7_kemWrap_25 : decode method_12_code 25 = .ok (.ireturn, 1) := by decide +kernel
theorem kdX7_kemOpen_0 : decode method_13_code 0 = .ok (.aload_n 2, 1) := by decide +kernel
theorem kdX7_kemOpen_1 : decode method_13_code 1 = .ok (.iconst 0, 1) := by decide +kernel
theorem kdX7_kemOpen_2 : decode method_13_code 2 = .ok (.aload_n 0, 1) := by decide +kernel
theorem kdX7_kemOpen_3 : decode method_13_code 3 = .ok (.iload_n 1, 1) := by decide +kernel
theorem kdX7_kemOpen_4 : decode method_13_code 4 = .ok (.invokevirtual 55, 3) := by decide +kernel
theorem kdX7_kemOpen_7 : decode method_13_code 7 = .ok (.i2l, 1) := by decide +kernel
theorem kdX7_kemOpen_8 : decode method_13_code 8 = .ok (.lastore, 1) := by decide +kernel
theorem kdX7_kemOpen_9 : decode method_13_code 9 = .ok (.goto 12, 3) := by decide +kernel
theorem kdX7_kemOpen_12 : decode method_13_code 12 = .ok (.astore_n 3, 1) := by decide +kernel
theorem kdX7_kemOpen_13 : decode method_13_code 13 = .ok (.iconst 1, 1) := by decide +kernel
theorem kdX7_kemOpen_14 : decode method_13_code 14 = .ok (.ireturn, 1) := by decide +kernel
theorem kdX7_kemOpen_15 : decode method_13_code 15 = .ok (.astore_n 3, 1) := by decide +kernel
theorem kdX7_kemOpen_16 : decode method_13_code 16 = .ok (.iconst 2, 1) := by decide +kernel
theorem kdX7_kemOpen_17 : decode method_13_code 17 = .ok (.ireturn, 1) := by decide +kernel
theorem kdX7_kemOpen_18 : decode method_13_code 18 = .ok (.astore_n 3, 1) := by decide +kernel
theorem kdX7_kemOpen_19 : decode method_13_code 19 = .ok (.iconst 3, 1) := by decide +kernel
theorem kdX7_kemOpen_20 : decode method_13_code 20 = .ok (.ireturn, 1) := by decide +kernel
theorem kdX7_kemOpen_21 : decode method_13_code 21 = .ok (.iconst 0, 1) := by decide +kernel
theorem kdX7_kemOpen_22 : decode method_13_code 22 = .ok (.ireturn, 1) := by decide +kernel
theorem kdX7_law_0 : decode code 0 = .ok (.new 8, 3) := by decide +kernel
theorem kdX7_law_3 : decode code 3 = .ok (.dup, 1) := by decide +kernel
theorem kdX7_law_4 : decode code 4 = .ok (.invokespecial 58, 3) := by decide +kernel
theorem kdX7_law_7 : decode code 7 = .ok (.astore_n 1, 1) := by decide +kernel
theorem kdX7_law_8 : decode code 8 = .ok (.new 59, 3) := by decide +kernel
theorem kdX7_law_11 : decode code 11 = .ok (.dup, 1) := by decide +kernel
theorem kdX7_law_12 : decode code 12 = .ok (.invokespecial 61, 3) := by decide +kernel
theorem kdX7_law_15 : decode code 15 = .ok (.astore_n 2, 1) := by decide +kernel
theorem kdX7_law_16 : decode code 16 = .ok (.iconst 1, 1) := by decide +kernel
theorem kdX7_law_17 : decode code 17 = .ok (.newarray .long, 2) := by decide +kernel
theorem kdX7_law_19 : decode code 19 = .ok (.astore_n 3, 1) := by decide +kernel
theorem kdX7_law_20 : decode code 20 = .ok (.iconst 0, 1) := by decide +kernel
theorem kdX7_law_21 : decode code 21 = .ok (.istore 4, 2) := by decide +kernel
theorem kdX7_law_23 : decode code 23 = .ok (.iload 4, 2) := by decide +kernel
theorem kdX7_law_25 : decode code 25 = .ok (.aload_n 0, 1) := by decide +kernel
theorem kdX7_law_26 : decode code 26 = .ok (.arraylength, 1) := by decide +kernel
theorem kdX7_law_27 : decode code 27 = .ok (.bipush 6, 2) := by decide +kernel
theorem kdX7_law_29 : decode code 29 = .ok (.isub, 1) := by decide +kernel
theorem kdX7_law_30 : decode code 30 = .ok (.if_icmp .gt 830, 3) := by decide +kernel
theorem kdX7_law_33 : decode code 33 = .ok (.aload_n 0, 1) := by decide +kernel
theorem kdX7_law_34 : decode code 34 = .ok (.iload 4, 2) := by decide +kernel
theorem kdX7_law_36 : decode code 36 = .ok (.iaload, 1) := by decide +kernel
theorem kdX7_law_37 : decode code 37 = .ok (.bipush 15, 2) := by decide +kernel
theorem kdX7_law_39 : decode code 39 = .ok (.iand, 1) := by decide +kernel
theorem kdX7_law_40 : decode code 40 = .ok (.tableswitch 814 0 10 #[60, 164, 232, 300, 368, 448, 504, 571, 646, 702, 758], 60) := by decide +kernel
theorem kdX7_law_100 : decode code 100 = .ok (.aload_n 1, 1) := by decide +kernel
theorem kdX7_law_101 : decode code 101 = .ok (.aload_n 0, 1) := by decide +kernel
theorem kdX7_law_102 : decode code 102 = .ok (.iload 4, 2) := by decide +kernel
theorem kdX7_law_104 : decode code 104 = .ok (.iconst 1, 1) := by decide +kernel
theorem kdX7_law_105 : decode code 105 = .ok (.iadd, 1) := by decide +kernel
theorem kdX7_law_106 : decode code 106 = .ok (.iaload, 1) := by decide +kernel
theorem kdX7_law_107 : decode code 107 = .ok (.aload_n 0, 1) := by decide +kernel
theorem kdX7_law_108 : decode code 108 = .ok (.iload 4, 2) := by decide +kernel
theorem kdX7_law_110 : decode code 110 = .ok (.iconst 2, 1) := by decide +kernel
theorem kdX7_law_111 : decode code 111 = .ok (.iadd, 1) := by decide +kernel
theorem kdX7_law_112 : decode code 112 = .ok (.iaload, 1) := by decide +kernel
theorem kdX7_law_113 : decode code 113 = .ok (.aload_n 0, 1) := by decide +kernel
theorem kdX7_law_114 : decode code 114 = .ok (.iload 4, 2) := by decide +kernel
theorem kdX7_law_116 : decode code 116 = .ok (.iconst 3, 1) := by decide +kernel
theorem kdX7_law_117 : decode code 117 = .ok (.iadd, 1) := by decide +kernel
theorem kdX7_law_118 : decode code 118 = .ok (.iaload, 1) := by decide +kernel
theorem kdX7_law_119 : decode code 119 = .ok (.aload_n 0, 1) := by decide +kernel
theorem kdX7_law_120 : decode code 120 = .ok (.iload 4, 2) := by decide +kernel
theorem kdX7_law_122 : decode code 122 = .ok (.iconst 4, 1) := by decide +kernel
theorem kdX7_law_123 : decode code 123 = .ok (.iadd, 1) := by decide +kernel
theorem kdX7_law_124 : decode code 124 = .ok (.iaload, 1) := by decide +kernel
theorem kdX7_law_125 : decode code 125 = .ok (.aload_n 0, 1) := by decide +kernel
theorem kdX7_law_126 : decode code 126 = .ok (.iload 4, 2) := by decide +kernel
theorem kdX7_law_128 : decode code 128 = .ok (.iconst 5, 1) := by decide +kernel
theorem kdX7_law_129 : decode code 129 = .ok (.iadd, 1) := by decide +kernel
theorem kdX7_law_130 : decode code 130 = .ok (.iaload, 1) := by decide +kernel
theorem kdX7_law_131 : decode code 131 = .ok (.aload_n 3, 1) := by decide +kernel
theorem kdX7_law_132 : decode code 132 = .ok (.invokestatic 62, 3) := by decide +kernel
theorem kdX7_law_135 : decode code 135 = .ok (.istore 5, 2) := by decide +kernel
theorem kdX7_law_137 : decode code 137 = .ok (.aload_n 2, 1) := by decide +kernel
theorem kdX7_law_138 : decode code 138 = .ok (.aload_n 0, 1) := by decide +kernel
theorem kdX7_law_139 : decode code 139 = .ok (.iload 4, 2) := by decide +kernel
theorem kdX7_law_141 : decode code 141 = .ok (.iconst 1, 1) := by decide +kernel
theorem kdX7_law_142 : decode code 142 = .ok (.iadd, 1) := by decide +kernel
theorem kdX7_law_143 : decode code 143 = .ok (.iaload, 1) := by decide +kernel
theorem kdX7_law_144 : decode code 144 = .ok (.aload_n 0, 1) := by decide +kernel
theorem kdX7_law_145 : decode code 145 = .ok (.iload 4, 2) := by decide +kernel
theorem kdX7_law_147 : decode code 147 = .ok (.iconst 2, 1) := by decide +kernel
theorem kdX7_law_148 : decode code 148 = .ok (.iadd, 1) := by decide +kernel
theorem kdX7_law_149 : decode code 149 = .ok (.iaload, 1) := by decide +kernel
theorem kdX7_law_150 : decode code 150 = .ok (.aload_n 0, 1) := by decide +kernel
theorem kdX7_law_151 : decode code 151 = .ok (.iload 4, 2) := by decide +kernel
theorem kdX7_law_153 : decode code 153 = .ok (.iconst 3, 1) := by decide +kernel
theorem kdX7_law_154 : decode code 154 = .ok (.iadd, 1) := by decide +kernel
theorem kdX7_law_155 : decode code 155 = .ok (.iaload, 1) := by decide +kernel
theorem kdX7_law_156 : decode code 156 = .ok (.aload_n 0, 1) := by decide +kernel
theorem kdX7_law_157 : decode code 157 = .ok (.iload 4, 2) := by decide +kernel
theorem kdX7_law_159 : decode code 159 = .ok (.iconst 4, 1) := by decide +kernel
theorem kdX7_law_160 : decode code 160 = .ok (.iadd, 1) := by decide +kernel
theorem kdX7_law_161 : decode code 161 = .ok (.iaload, 1) := by decide +kernel
theorem kdX7_law_162 : decode code 162 = .ok (.aload_n 0, 1) := by decide +kernel
theorem kdX7_law_163 : decode code 163 = .ok (.iload 4, 2) := by decide +kernel
theorem kdX7_law_165 : decode code 165 = .ok (.iconst 5, 1) := by decide +kernel
theorem kdX7_law_166 : decode code 166 = .ok (.iadd, 1) := by decide +kernel
theorem kdX7_law_167 : decode code 167 = .ok (.iaload, 1) := by decide +kernel
theorem kdX7_law_168 : decode code 168 = .ok (.invokevirtual 67, 3) := by decide +kernel
theorem kdX7_law_171 : decode code 171 = .ok (.istore 6, 2) := by decide +kernel
theorem kdX7_law_173 : decode code 173 = .ok (.aload_n 2, 1) := by decide +kernel
theorem kdX7_law_174 : decode code 174 = .ok (.invokevirtual 68, 3) := by decide +kernel
theorem kdX7_law_177 : decode code 177 = .ok (.iload 5, 2) := by decide +kernel
theorem kdX7_law_179 : decode code 179 = .ok (.if_icmp .eq 5, 3) := by decide +kernel
theorem kdX7_law_182 : decode code 182 = .ok (.iconst 0, 1) := by decide +kernel
theorem kdX7_law_183 : decode code 183 = .ok (.ireturn, 1) := by decide +kernel
theorem kdX7_law_184 : decode code 184 = .ok (.iload 5, 2) := by decide +kernel
theorem kdX7_law_186 : decode code 186 = .ok (.ifCond .ne 15, 3) := by decide +kernel
theorem kdX7_law_189 : decode code 189 = .ok (.aload_n 3, 1) := by decide +kernel
theorem kdX7_law_190 : decode code 190 = .ok (.iconst 0, 1) := by decide +kernel
theorem kdX7_law_191 : decode code 191 = .ok (.laload, 1) := by decide +kernel
theorem kdX7_law_192 : decode code 192 = .ok (.iload 6, 2) := by decide +kernel
theorem kdX7_law_194 : decode code 194 = .ok (.i2l, 1) := by decide +kernel
theorem kdX7_law_195 : decode code 195 = .ok (.lcmp, 1) := by decide +kernel
theorem kdX7_law_196 : decode code 196 = .ok (.ifCond .eq 5, 3) := by decide +kernel
theorem kdX7_law_199 : decode code 199 = .ok (.iconst 0, 1) := by decide +kernel
theorem kdX7_law_200 : decode code 200 = .ok (.ireturn, 1) := by decide +kernel
theorem kdX7_law_201 : decode code 201 = .ok (.goto 653, 3) := by decide +kernel
theorem kdX7_law_204 : decode code 204 = .ok (.aload_n 1, 1) := by decide +kernel
theorem kdX7_law_205 : decode code 205 = .ok (.aload_n 0, 1) := by decide +kernel
theorem kdX7_law_206 : decode code 206 = .ok (.iload 4, 2) := by decide +kernel
theorem kdX7_law_208 : decode code 208 = .ok (.iconst 1, 1) := by decide +kernel
theorem kdX7_law_209 : decode code 209 = .ok (.iadd, 1) := by decide +kernel
theorem kdX7_law_210 : decode code 210 = .ok (.iaload, 1) := by decide +kernel
theorem kdX7_law_211 : decode code 211 = .ok (.aload_n 0, 1) := by decide +kernel
theorem kdX7_law_212 : decode code 212 = .ok (.iload 4, 2) := by decide +kernel
theorem kdX7_law_214 : decode code 214 = .ok (.iconst 2, 1) := by decide +kernel
theorem kdX7_law_215 : decode code 215 = .ok (.iadd, 1) := by decide +kernel
theorem kdX7_law_216 : decode code 216 = .ok (.iaload, 1) := by decide +kernel
theorem kdX7_law_217 : decode code 217 = .ok (.aload_n 3, 1) := by decide +kernel
theorem kdX7_law_218 : decode code 218 = .ok (.invokestatic 72, 3) := by decide +kernel
theorem kdX7_law_221 : decode code 221 = .ok (.istore 5, 2) := by decide +kernel
theorem kdX7_law_223 : decode code 223 = .ok (.aload_n 2, 1) := by decide +kernel
theorem kdX7_law_224 : decode code 224 = .ok (.aload_n 0, 1) := by decide +kernel
theorem kdX7_law_225 : decode code 225 = .ok (.iload 4, 2) := by decide +kernel
theorem kdX7_law_227 : decode code 227 = .ok (.iconst 1, 1) := by decide +kernel
theorem kdX7_law_228 : decode code 228 = .ok (.iadd, 1) := by decide +kernel
theorem kdX7_law_229 : decode code 229 = .ok (.iaload, 1) := by decide +kernel
theorem kdX7_law_230 : decode code 230 = .ok (.aload_n 0, 1) := by decide +kernel
theorem kdX7_law_231 : decode code 231 = .ok (.iload 4, 2) := by decide +kernel
theorem kdX7_law_233 : decode code 233 = .ok (.iconst 2, 1) := by decide +kernel
theorem kdX7_law_234 : decode code 234 = .ok (.iadd, 1) := by decide +kernel
theorem kdX7_law_235 : decode code 235 = .ok (.iaload, 1) := by decide +kernel
theorem kdX7_law_236 : decode code 236 = .ok (.invokevirtual 75, 3) := by decide +kernel
theorem kdX7_law_239 : decode code 239 = .ok (.istore 6, 2) := by decide +kernel
theorem kdX7_law_241 : decode code 241 = .ok (.aload_n 2, 1) := by decide +kernel
theorem kdX7_law_242 : decode code 242 = .ok (.invokevirtual 68, 3) := by decide +kernel
theorem kdX7_law_245 : decode code 245 = .ok (.iload 5, 2) := by decide +kernel
theorem kdX7_law_247 : decode code 247 = .ok (.if_icmp .eq 5, 3) := by decide +kernel
theorem kdX7_law_250 : decode code 250 = .ok (.iconst 0, 1) := by decide +kernel
theorem kdX7_law_251 : decode code 251 = .ok (.ireturn, 1) := by decide +kernel
theorem kdX7_law_252 : decode code 252 = .ok (.iload 5, 2) := by decide +kernel
theorem kdX7_law_254 : decode code 254 = .ok (.ifCond .ne 15, 3) := by decide +kernel
theorem kdX7_law_257 : decode code 257 = .ok (.aload_n 3, 1) := by decide +kernel
theorem kdX7_law_258 : decode code 258 = .ok (.iconst 0, 1) := by decide +kernel
theorem kdX7_law_259 : decode code 259 = .ok (.laload, 1) := by decide +kernel
theorem kdX7_law_260 : decode code 260 = .ok (.iload 6, 2) := by decide +kernel
theorem kdX7_law_262 : decode code 262 = .ok (.i2l, 1) := by decide +kernel
theorem kdX7_law_263 : decode code 263 = .ok (.lcmp, 1) := by decide +kernel
theorem kdX7_law_264 : decode code 264 = .ok (.ifCond .eq 5, 3) := by decide +kernel
theorem kdX7_law_267 : decode code 267 = .ok (.iconst 0, 1) := by decide +kernel
theorem kdX7_law_268 : decode code 268 = .ok (.ireturn, 1) := by decide +kernel
theorem kdX7_law_269 : decode code 269 = .ok (.goto 585, 3) := by decide +kernel
theorem kdX7_law_272 : decode code 272 = .ok (.aload_n 1, 1) := by decide +kernel
theorem kdX7_law_273 : decode code 273 = .ok (.aload_n 0, 1) := by decide +kernel
theorem kdX7_law_274 : decode code 274 = .ok (.iload 4, 2) := by decide +kernel
theorem kdX7_law_276 : decode code 276 = .ok (.iconst 1, 1) := by decide +kernel
theorem kdX7_law_277 : decode code 277 = .ok (.iadd, 1) := by decide +kernel
theorem kdX7_law_278 : decode code 278 = .ok (.iaload, 1) := by decide +kernel
theorem kdX7_law_279 : decode code 279 = .ok (.aload_n 0, 1) := by decide +kernel
theorem kdX7_law_280 : decode code 280 = .ok (.iload 4, 2) := by decide +kernel
theorem kdX7_law_282 : decode code 282 = .ok (.iconst 2, 1) := by decide +kernel
theorem kdX7_law_283 : decode code 283 = .ok (.iadd, 1) := by decide +kernel
theorem kdX7_law_284 : decode code 284 = .ok (.iaload, 1) := by decide +kernel
theorem kdX7_law_285 : decode code 285 = .ok (.aload_n 3, 1) := by decide +kernel
theorem kdX7_law_286 : decode code 286 = .ok (.invokestatic 76, 3) := by decide +kernel
theorem kdX7_law_289 : decode code 289 = .ok (.istore 5, 2) := by decide +kernel
theorem kdX7_law_291 : decode code 291 = .ok (.aload_n 2, 1) := by decide +kernel
theorem kdX7_law_292 : decode code 292 = .ok (.aload_n 0, 1) := by decide +kernel
theorem kdX7_law_293 : decode code 293 = .ok (.iload 4, 2) := by decide +kernel
theorem kdX7_law_295 : decode code 295 = .ok (.iconst 1, 1) := by decide +kernel
theorem kdX7_law_296 : decode code 296 = .ok (.iadd, 1) := by decide +kernel
theorem kdX7_law_297 : decode code 297 = .ok (.iaload, 1) := by decide +kernel
theorem kdX7_law_298 : decode code 298 = .ok (.aload_n 0, 1) := by decide +kernel
theorem kdX7_law_299 : decode code 299 = .ok (.iload 4, 2) := by decide +kernel
theorem kdX7_law_301 : decode code 301 = .ok (.iconst 2, 1) := by decide +kernel
theorem kdX7_law_302 : decode code 302 = .ok (.iadd, 1) := by decide +kernel
theorem kdX7_law_303 : decode code 303 = .ok (.iaload, 1) := by decide +kernel
theorem kdX7_law_304 : decode code 304 = .ok (.invokevirtual 78, 3) := by decide +kernel
theorem kdX7_law_307 : decode code 307 = .ok (.istore 6, 2) := by decide +kernel
theorem kdX7_law_309 : decode code 309 = .ok (.aload_n 2, 1) := by decide +kernel
theorem kdX7_law_310 : decode code 310 = .ok (.invokevirtual 68, 3) := by decide +kernel
theorem kdX7_law_313 : decode code 313 = .ok (.iload 5, 2) := by decide +kernel
theorem kdX7_law_315 : decode code 315 = .ok (.if_icmp .eq 5, 3) := by decide +kernel
theorem kdX7_law_318 : decode code 318 = .ok (.iconst 0, 1) := by decide +kernel
theorem kdX7_law_319 : decode code 319 = .ok (.ireturn, 1) := by decide +kernel
theorem kdX7_law_320 : decode code 320 = .ok (.iload 5, 2) := by decide +kernel
theorem kdX7_law_322 : decode code 322 = .ok (.ifCond .ne 15, 3) := by decide +kernel
theorem kdX7_law_325 : decode code 325 = .ok (.aload_n 3, 1) := by decide +kernel
theorem kdX7_law_326 : decode code 326 = .ok (.iconst 0, 1) := by decide +kernel
theorem kdX7_law_327 : decode code 327 = .ok (.laload, 1) := by decide +kernel
theorem kdX7_law_328 : decode code 328 = .ok (.iload 6, 2) := by decide +kernel
theorem kdX7_law_330 : decode code 330 = .ok (.i2l, 1) := by decide +kernel
theorem kdX7_law_331 : decode code 331 = .ok (.lcmp, 1) := by decide +kernel
theorem kdX7_law_332 : decode code 332 = .ok (.ifCond .eq 5, 3) := by decide +kernel
theorem kdX7_law_335 : decode code 335 = .ok (.iconst 0, 1) := by decide +kernel
theorem kdX7_law_336 : decode code 336 = .ok (.ireturn, 1) := by decide +kernel
theorem kdX7_law_337 : decode code 337 = .ok (.goto 517, 3) := by decide +kernel
theorem kdX7_law_340 : decode code 340 = .ok (.aload_n 1, 1) := by decide +kernel
theorem kdX7_law_341 : decode code 341 = .ok (.aload_n 0, 1) := by decide +kernel
theorem kdX7_law_342 : decode code 342 = .ok (.iload 4, 2) := by decide +kernel
theorem kdX7_law_344 : decode code 344 = .ok (.iconst 1, 1) := by decide +kernel
theorem kdX7_law_345 : decode code 345 = .ok (.iadd, 1) := by decide +kernel
theorem kdX7_law_346 : decode code 346 = .ok (.iaload, 1) := by decide +kernel
theorem kdX7_law_347 : decode code 347 = .ok (.aload_n 0, 1) := by decide +kernel
theorem kdX7_law_348 : decode code 348 = .ok (.iload 4, 2) := by decide +kernel
theorem kdX7_law_350 : decode code 350 = .ok (.iconst 2, 1) := by decide +kernel
theorem kdX7_law_351 : decode code 351 = .ok (.iadd, 1) := by decide +kernel
theorem kdX7_law_352 : decode code 352 = .ok (.iaload, 1) := by decide +kernel
theorem kdX7_law_353 : decode code 353 = .ok (.aload_n 3, 1) := by decide +kernel
theorem kdX7_law_354 : decode code 354 = .ok (.invokestatic 79, 3) := by decide +kernel
theorem kdX7_law_357 : decode code 357 = .ok (.istore 5, 2) := by decide +kernel
theorem kdX7_law_359 : decode code 359 = .ok (.aload_n 2, 1) := by decide +kernel
theorem kdX7_law_360 : decode code 360 = .ok (.aload_n 0, 1) := by decide +kernel
theorem kdX7_law_361 : decode code 361 = .ok (.iload 4, 2) := by decide +kernel
theorem kdX7_law_363 : decode code 363 = .ok (.iconst 1, 1) := by decide +kernel
theorem kdX7_law_364 : decode code 364 = .ok (.iadd, 1) := by decide +kernel
theorem kdX7_law_365 : decode code 365 = .ok (.iaload, 1) := by decide +kernel
theorem kdX7_law_366 : decode code 366 = .ok (.aload_n 0, 1) := by decide +kernel
theorem kdX7_law_367 : decode code 367 = .ok (.iload 4, 2) := by decide +kernel
theorem kdX7_law_369 : decode code 369 = .ok (.iconst 2, 1) := by decide +kernel
theorem kdX7_law_370 : decode code 370 = .ok (.iadd, 1) := by decide +kernel
theorem kdX7_law_371 : decode code 371 = .ok (.iaload, 1) := by decide +kernel
theorem kdX7_law_372 : decode code 372 = .ok (.invokevirtual 81, 3) := by decide +kernel
theorem kdX7_law_375 : decode code 375 = .ok (.istore 6, 2) := by decide +kernel
theorem kdX7_law_377 : decode code 377 = .ok (.aload_n 2, 1) := by decide +kernel
theorem kdX7_law_378 : decode code 378 = .ok (.invokevirtual 68, 3) := by decide +kernel
theorem kdX7_law_381 : decode code 381 = .ok (.iload 5, 2) := by decide +kernel
theorem kdX7_law_383 : decode code 383 = .ok (.if_icmp .eq 5, 3) := by decide +kernel
theorem kdX7_law_386 : decode code 386 = .ok (.iconst 0, 1) := by decide +kernel
theorem kdX7_law_387 : decode code 387 = .ok (.ireturn, 1) := by decide +kernel
theorem kdX7_law_388 : decode code 388 = .ok (.iload 5, 2) := by decide +kernel
theorem kdX7_law_390 : decode code 390 = .ok (.ifCond .ne 15, 3) := by decide +kernel
theorem kdX7_law_393 : decode code 393 = .ok (.aload_n 3, 1) := by decide +kernel
theorem kdX7_law_394 : decode code 394 = .ok (.iconst 0, 1) := by decide +kernel
theorem kdX7_law_395 : decode code 395 = .ok (.laload, 1) := by decide +kernel
theorem kdX7_law_396 : decode code 396 = .ok (.iload 6, 2) := by decide +kernel
theorem kdX7_law_398 : decode code 398 = .ok (.i2l, 1) := by decide +kernel
theorem kdX7_law_399 : decode code 399 = .ok (.lcmp, 1) := by decide +kernel
theorem kdX7_law_400 : decode code 400 = .ok (.ifCond .eq 5, 3) := by decide +kernel
theorem kdX7_law_403 : decode code 403 = .ok (.iconst 0, 1) := by decide +kernel
theorem kdX7_law_404 : decode code 404 = .ok (.ireturn, 1) := by decide +kernel
theorem kdX7_law_405 : decode code 405 = .ok (.goto 449, 3) := by decide +kernel
theorem kdX7_law_408 : decode code 408 = .ok (.aload_n 1, 1) := by decide +kernel
theorem kdX7_law_409 : decode code 409 = .ok (.aload_n 0, 1) := by decide +kernel
theorem kdX7_law_410 : decode code 410 = .ok (.iload 4, 2) := by decide +kernel
theorem kdX7_law_412 : decode code 412 = .ok (.iconst 1, 1) := by decide +kernel
theorem kdX7_law_413 : decode code 413 = .ok (.iadd, 1) := by decide +kernel
theorem kdX7_law_414 : decode code 414 = .ok (.iaload, 1) := by decide +kernel
theorem kdX7_law_415 : decode code 415 = .ok (.aload_n 0, 1) := by decide +kernel
theorem kdX7_law_416 : decode code 416 = .ok (.iload 4, 2) := by decide +kernel
theorem kdX7_law_418 : decode code 418 = .ok (.iconst 2, 1) := by decide +kernel
theorem kdX7_law_419 : decode code 419 = .ok (.iadd, 1) := by decide +kernel
theorem kdX7_law_420 : decode code 420 = .ok (.iaload, 1) := by decide +kernel
theorem kdX7_law_421 : decode code 421 = .ok (.aload_n 0, 1) := by decide +kernel
theorem kdX7_law_422 : decode code 422 = .ok (.iload 4, 2) := by decide +kernel
theorem kdX7_law_424 : decode code 424 = .ok (.iconst 3, 1) := by decide +kernel
theorem kdX7_law_425 : decode code 425 = .ok (.iadd, 1) := by decide +kernel
theorem kdX7_law_426 : decode code 426 = .ok (.iaload, 1) := by decide +kernel
theorem kdX7_law_427 : decode code 427 = .ok (.aload_n 3, 1) := by decide +kernel
theorem kdX7_law_428 : decode code 428 = .ok (.invokestatic 82, 3) := by decide +kernel
theorem kdX7_law_431 : decode code 431 = .ok (.istore 5, 2) := by decide +kernel
theorem kdX7_law_433 : decode code 433 = .ok (.aload_n 2, 1) := by decide +kernel
theorem kdX7_law_434 : decode code 434 = .ok (.aload_n 0, 1) := by decide +kernel
theorem kdX7_law_435 : decode code 435 = .ok (.iload 4, 2) := by decide +kernel
theorem kdX7_law_437 : decode code 437 = .ok (.iconst 1, 1) := by decide +kernel
theorem kdX7_law_438 : decode code 438 = .ok (.iadd, 1) := by decide +kernel
theorem kdX7_law_439 : decode code 439 = .ok (.iaload, 1) := by decide +kernel
theorem kdX7_law_440 : decode code 440 = .ok (.aload_n 0, 1) := by decide +kernel
theorem kdX7_law_441 : decode code 441 = .ok (.iload 4, 2) := by decide +kernel
theorem kdX7_law_443 : decode code 443 = .ok (.iconst 2, 1) := by decide +kernel
theorem kdX7_law_444 : decode code 444 = .ok (.iadd, 1) := by decide +kernel
theorem kdX7_law_445 : decode code 445 = .ok (.iaload, 1) := by decide +kernel
theorem kdX7_law_446 : decode code 446 = .ok (.aload_n 0, 1) := by decide +kernel
theorem kdX7_law_447 : decode code 447 = .ok (.iload 4, 2) := by decide +kernel
theorem kdX7_law_449 : decode code 449 = .ok (.iconst 3, 1) := by decide +kernel
theorem kdX7_law_450 : decode code 450 = .ok (.iadd, 1) := by decide +kernel
theorem kdX7_law_451 : decode code 451 = .ok (.iaload, 1) := by decide +kernel
theorem kdX7_law_452 : decode code 452 = .ok (.invokevirtual 85, 3) := by decide +kernel
theorem kdX7_law_455 : decode code 455 = .ok (.istore 6, 2) := by decide +kernel
theorem kdX7_law_457 : decode code 457 = .ok (.aload_n 2, 1) := by decide +kernel
theorem kdX7_law_458 : decode code 458 = .ok (.invokevirtual 68, 3) := by decide +kernel
theorem kdX7_law_461 : decode code 461 = .ok (.iload 5, 2) := by decide +kernel
theorem kdX7_law_463 : decode code 463 = .ok (.if_icmp .eq 5, 3) := by decide +kernel
theorem kdX7_law_466 : decode code 466 = .ok (.iconst 0, 1) := by decide +kernel
theorem kdX7_law_467 : decode code 467 = .ok (.ireturn, 1) := by decide +kernel
theorem kdX7_law_468 : decode code 468 = .ok (.iload 5, 2) := by decide +kernel
theorem kdX7_law_470 : decode code 470 = .ok (.ifCond .ne 15, 3) := by decide +kernel
theorem kdX7_law_473 : decode code 473 = .ok (.aload_n 3, 1) := by decide +kernel
theorem kdX7_law_474 : decode code 474 = .ok (.iconst 0, 1) := by decide +kernel
theorem kdX7_law_475 : decode code 475 = .ok (.laload, 1) := by decide +kernel
theorem kdX7_law_476 : decode code 476 = .ok (.iload 6, 2) := by decide +kernel
theorem kdX7_law_478 : decode code 478 = .ok (.i2l, 1) := by decide +kernel
theorem kdX7_law_479 : decode code 479 = .ok (.lcmp, 1) := by decide +kernel
theorem kdX7_law_480 : decode code 480 = .ok (.ifCond .eq 5, 3) := by decide +kernel
theorem kdX7_law_483 : decode code 483 = .ok (.iconst 0, 1) := by decide +kernel
theorem kdX7_law_484 : decode code 484 = .ok (.ireturn, 1) := by decide +kernel
theorem kdX7_law_485 : decode code 485 = .ok (.goto 369, 3) := by decide +kernel
theorem kdX7_law_488 : decode code 488 = .ok (.aload_n 1, 1) := by decide +kernel
theorem kdX7_law_489 : decode code 489 = .ok (.aload_n 0, 1) := by decide +kernel
theorem kdX7_law_490 : decode code 490 = .ok (.iload 4, 2) := by decide +kernel
theorem kdX7_law_492 : decode code 492 = .ok (.iconst 1, 1) := by decide +kernel
theorem kdX7_law_493 : decode code 493 = .ok (.iadd, 1) := by decide +kernel
theorem kdX7_law_494 : decode code 494 = .ok (.iaload, 1) := by decide +kernel
theorem kdX7_law_495 : decode code 495 = .ok (.aload_n 3, 1) := by decide +kernel
theorem kdX7_law_496 : decode code 496 = .ok (.invokestatic 86, 3) := by decide +kernel
theorem kdX7_law_499 : decode code 499 = .ok (.istore 5, 2) := by decide +kernel
theorem kdX7_law_501 : decode code 501 = .ok (.aload_n 2, 1) := by decide +kernel
theorem kdX7_law_502 : decode code 502 = .ok (.aload_n 0, 1) := by decide +kernel
theorem kdX7_law_503 : decode code 503 = .ok (.iload 4, 2) := by decide +kernel
theorem kdX7_law_505 : decode code 505 = .ok (.iconst 1, 1) := by decide +kernel
theorem kdX7_law_506 : decode code 506 = .ok (.iadd, 1) := by decide +kernel
theorem kdX7_law_507 : decode code 507 = .ok (.iaload, 1) := by decide +kernel
theorem kdX7_law_508 : decode code 508 = .ok (.invokevirtual 89, 3) := by decide +kernel
theorem kdX7_law_511 : decode code 511 = .ok (.istore 6, 2) := by decide +kernel
theorem kdX7_law_513 : decode code 513 = .ok (.aload_n 2, 1) := by decide +kernel
theorem kdX7_law_514 : decode code 514 = .ok (.invokevirtual 68, 3) := by decide +kernel
theorem kdX7_law_517 : decode code 517 = .ok (.iload 5, 2) := by decide +kernel
theorem kdX7_law_519 : decode code 519 = .ok (.if_icmp .eq 5, 3) := by decide +kernel
theorem kdX7_law_522 : decode code 522 = .ok (.iconst 0, 1) := by decide +kernel
theorem kdX7_law_523 : decode code 523 = .ok (.ireturn, 1) := by decide +kernel
theorem kdX7_law_524 : decode code 524 = .ok (.iload 5, 2) := by decide +kernel
theorem kdX7_law_526 : decode code 526 = .ok (.ifCond .ne 15, 3) := by decide +kernel
theorem kdX7_law_529 : decode code 529 = .ok (.aload_n 3, 1) := by decide +kernel
theorem kdX7_law_530 : decode code 530 = .ok (.iconst 0, 1) := by decide +kernel
theorem kdX7_law_531 : decode code 531 = .ok (.laload, 1) := by decide +kernel
theorem kdX7_law_532 : decode code 532 = .ok (.iload 6, 2) := by decide +kernel
theorem kdX7_law_534 : decode code 534 = .ok (.i2l, 1) := by decide +kernel
theorem kdX7_law_535 : decode code 535 = .ok (.lcmp, 1) := by decide +kernel
theorem kdX7_law_536 : decode code 536 = .ok (.ifCond .eq 5, 3) := by decide +kernel
theorem kdX7_law_539 : decode code 539 = .ok (.iconst 0, 1) := by decide +kernel
theorem kdX7_law_540 : decode code 540 = .ok (.ireturn, 1) := by decide +kernel
theorem kdX7_law_541 : decode code 541 = .ok (.goto 313, 3) := by decide +kernel
theorem kdX7_law_544 : decode code 544 = .ok (.aload_n 1, 1) := by decide +kernel
theorem kdX7_law_545 : decode code 545 = .ok (.aload_n 0, 1) := by decide +kernel
theorem kdX7_law_546 : decode code 546 = .ok (.iload 4, 2) := by decide +kernel
theorem kdX7_law_548 : decode code 548 = .ok (.iconst 1, 1) := by decide +kernel
theorem kdX7_law_549 : decode code 549 = .ok (.iadd, 1) := by decide +kernel
theorem kdX7_law_550 : decode code 550 = .ok (.iaload, 1) := by decide +kernel
theorem kdX7_law_551 : decode code 551 = .ok (.aload_n 0, 1) := by decide +kernel
theorem kdX7_law_552 : decode code 552 = .ok (.iload 4, 2) := by decide +kernel
theorem kdX7_law_554 : decode code 554 = .ok (.iconst 2, 1) := by decide +kernel
theorem kdX7_law_555 : decode code 555 = .ok (.iadd, 1) := by decide +kernel
theorem kdX7_law_556 : decode code 556 = .ok (.iaload, 1) := by decide +kernel
theorem kdX7_law_557 : decode code 557 = .ok (.aload_n 3, 1) := by decide +kernel
theorem kdX7_law_558 : decode code 558 = .ok (.invokestatic 90, 3) := by decide +kernel
theorem kdX7_law_561 : decode code 561 = .ok (.istore 5, 2) := by decide +kernel
theorem kdX7_law_563 : decode code 563 = .ok (.aload_n 2, 1) := by decide +kernel
theorem kdX7_law_564 : decode code 564 = .ok (.aload_n 0, 1) := by decide +kernel
theorem kdX7_law_565 : decode code 565 = .ok (.iload 4, 2) := by decide +kernel
theorem kdX7_law_567 : decode code 567 = .ok (.iconst 1, 1) := by decide +kernel
theorem kdX7_law_568 : decode code 568 = .ok (.iadd, 1) := by decide +kernel
theorem kdX7_law_569 : decode code 569 = .ok (.iaload, 1) := by decide +kernel
theorem kdX7_law_570 : decode code 570 = .ok (.aload_n 0, 1) := by decide +kernel
theorem kdX7_law_571 : decode code 571 = .ok (.iload 4, 2) := by decide +kernel
theorem kdX7_law_573 : decode code 573 = .ok (.iconst 2, 1) := by decide +kernel
theorem kdX7_law_574 : decode code 574 = .ok (.iadd, 1) := by decide +kernel
theorem kdX7_law_575 : decode code 575 = .ok (.iaload, 1) := by decide +kernel
theorem kdX7_law_576 : decode code 576 = .ok (.invokevirtual 92, 3) := by decide +kernel
theorem kdX7_law_579 : decode code 579 = .ok (.lstore 6, 2) := by decide +kernel
theorem kdX7_law_581 : decode code 581 = .ok (.aload_n 2, 1) := by decide +kernel
theorem kdX7_law_582 : decode code 582 = .ok (.invokevirtual 68, 3) := by decide +kernel
theorem kdX7_law_585 : decode code 585 = .ok (.iload 5, 2) := by decide +kernel
theorem kdX7_law_587 : decode code 587 = .ok (.if_icmp .eq 5, 3) := by decide +kernel
theorem kdX7_law_590 : decode code 590 = .ok (.iconst 0, 1) := by decide +kernel
theorem kdX7_law_591 : decode code 591 = .ok (.ireturn, 1) := by decide +kernel
theorem kdX7_law_592 : decode code 592 = .ok (.iload 5, 2) := by decide +kernel
theorem kdX7_law_594 : decode code 594 = .ok (.ifCond .ne 14, 3) := by decide +kernel
theorem kdX7_law_597 : decode code 597 = .ok (.aload_n 3, 1) := by decide +kernel
theorem kdX7_law_598 : decode code 598 = .ok (.iconst 0, 1) := by decide +kernel
theorem kdX7_law_599 : decode code 599 = .ok (.laload, 1) := by decide +kernel
theorem kdX7_law_600 : decode code 600 = .ok (.lload 6, 2) := by decide +kernel
theorem kdX7_law_602 : decode code 602 = .ok (.lcmp, 1) := by decide +kernel
theorem kdX7_law_603 : decode code 603 = .ok (.ifCond .eq 5, 3) := by decide +kernel
theorem kdX7_law_606 : decode code 606 = .ok (.iconst 0, 1) := by decide +kernel
theorem kdX7_law_607 : decode code 607 = .ok (.ireturn, 1) := by decide +kernel
theorem kdX7_law_608 : decode code 608 = .ok (.goto 246, 3) := by decide +kernel
theorem kdX7_law_611 : decode code 611 = .ok (.aload_n 1, 1) := by decide +kernel
theorem kdX7_law_612 : decode code 612 = .ok (.aload_n 0, 1) := by decide +kernel
theorem kdX7_law_613 : decode code 613 = .ok (.iload 4, 2) := by decide +kernel
theorem kdX7_law_615 : decode code 615 = .ok (.iconst 1, 1) := by decide +kernel
theorem kdX7_law_616 : decode code 616 = .ok (.iadd, 1) := by decide +kernel
theorem kdX7_law_617 : decode code 617 = .ok (.iaload, 1) := by decide +kernel
theorem kdX7_law_618 : decode code 618 = .ok (.aload_n 0, 1) := by decide +kernel
theorem kdX7_law_619 : decode code 619 = .ok (.iload 4, 2) := by decide +kernel
theorem kdX7_law_621 : decode code 621 = .ok (.iconst 2, 1) := by decide +kernel
theorem kdX7_law_622 : decode code 622 = .ok (.iadd, 1) := by decide +kernel
theorem kdX7_law_623 : decode code 623 = .ok (.iaload, 1) := by decide +kernel
theorem kdX7_law_624 : decode code 624 = .ok (.aload_n 3, 1) := by decide +kernel
theorem kdX7_law_625 : decode code 625 = .ok (.invokestatic 93, 3) := by decide +kernel
theorem kdX7_law_628 : decode code 628 = .ok (.istore 5, 2) := by decide +kernel
theorem kdX7_law_630 : decode code 630 = .ok (.aload_n 2, 1) := by decide +kernel
theorem kdX7_law_631 : decode code 631 = .ok (.aload_n 0, 1) := by decide +kernel
theorem kdX7_law_632 : decode code 632 = .ok (.iload 4, 2) := by decide +kernel
theorem kdX7_law_634 : decode code 634 = .ok (.iconst 1, 1) := by decide +kernel
theorem kdX7_law_635 : decode code 635 = .ok (.iadd, 1) := by decide +kernel
theorem kdX7_law_636 : decode code 636 = .ok (.iaload, 1) := by decide +kernel
theorem kdX7_law_637 : decode code 637 = .ok (.aload_n 0, 1) := by decide +kernel
theorem kdX7_law_638 : decode code 638 = .ok (.iload 4, 2) := by decide +kernel
theorem kdX7_law_640 : decode code 640 = .ok (.iconst 2, 1) := by decide +kernel
theorem kdX7_law_641 : decode code 641 = .ok (.iadd, 1) := by decide +kernel
theorem kdX7_law_642 : decode code 642 = .ok (.iaload, 1) := by decide +kernel
theorem kdX7_law_643 : decode code 643 = .ok (.invokevirtual 95, 3) := by decide +kernel
theorem kdX7_law_646 : decode code 646 = .ok (.istore 6, 2) := by decide +kernel
theorem kdX7_law_648 : decode code 648 = .ok (.aload_n 2, 1) := by decide +kernel
theorem kdX7_law_649 : decode code 649 = .ok (.invokevirtual 68, 3) := by decide +kernel
theorem kdX7_law_652 : decode code 652 = .ok (.iload 5, 2) := by decide +kernel
theorem kdX7_law_654 : decode code 654 = .ok (.if_icmp .eq 5, 3) := by decide +kernel
theorem kdX7_law_657 : decode code 657 = .ok (.iconst 0, 1) := by decide +kernel
theorem kdX7_law_658 : decode code 658 = .ok (.ireturn, 1) := by decide +kernel
theorem kdX7_law_659 : decode code 659 = .ok (.iload 5, 2) := by decide +kernel
theorem kdX7_law_661 : decode code 661 = .ok (.ifCond .ne 22, 3) := by decide +kernel
theorem kdX7_law_664 : decode code 664 = .ok (.aload_n 3, 1) := by decide +kernel
theorem kdX7_law_665 : decode code 665 = .ok (.iconst 0, 1) := by decide +kernel
theorem kdX7_law_666 : decode code 666 = .ok (.laload, 1) := by decide +kernel
theorem kdX7_law_667 : decode code 667 = .ok (.iload 6, 2) := by decide +kernel
theorem kdX7_law_669 : decode code 669 = .ok (.ifCond .eq 7, 3) := by decide +kernel
theorem kdX7_law_672 : decode code 672 = .ok (.lconst 1, 1) := by decide +kernel
theorem kdX7_law_673 : decode code 673 = .ok (.goto 4, 3) := by decide +kernel
theorem kdX7_law_676 : decode code 676 = .ok (.lconst 0, 1) := by decide +kernel
theorem kdX7_law_677 : decode code 677 = .ok (.lcmp, 1) := by decide +kernel
theorem kdX7_law_678 : decode code 678 = .ok (.ifCond .eq 5, 3) := by decide +kernel
theorem kdX7_law_681 : decode code 681 = .ok (.iconst 0, 1) := by decide +kernel
theorem kdX7_law_682 : decode code 682 = .ok (.ireturn, 1) := by decide +kernel
theorem kdX7_law_683 : decode code 683 = .ok (.goto 171, 3) := by decide +kernel
theorem kdX7_law_686 : decode code 686 = .ok (.aload_n 1, 1) := by decide +kernel
theorem kdX7_law_687 : decode code 687 = .ok (.aload_n 0, 1) := by decide +kernel
theorem kdX7_law_688 : decode code 688 = .ok (.iload 4, 2) := by decide +kernel
theorem kdX7_law_690 : decode code 690 = .ok (.iconst 1, 1) := by decide +kernel
theorem kdX7_law_691 : decode code 691 = .ok (.iadd, 1) := by decide +kernel
theorem kdX7_law_692 : decode code 692 = .ok (.iaload, 1) := by decide +kernel
theorem kdX7_law_693 : decode code 693 = .ok (.aload_n 3, 1) := by decide +kernel
theorem kdX7_law_694 : decode code 694 = .ok (.invokestatic 96, 3) := by decide +kernel
theorem kdX7_law_697 : decode code 697 = .ok (.istore 5, 2) := by decide +kernel
theorem kdX7_law_699 : decode code 699 = .ok (.aload_n 2, 1) := by decide +kernel
theorem kdX7_law_700 : decode code 700 = .ok (.aload_n 0, 1) := by decide +kernel
theorem kdX7_law_701 : decode code 701 = .ok (.iload 4, 2) := by decide +kernel
theorem kdX7_law_703 : decode code 703 = .ok (.iconst 1, 1) := by decide +kernel
theorem kdX7_law_704 : decode code 704 = .ok (.iadd, 1) := by decide +kernel
theorem kdX7_law_705 : decode code 705 = .ok (.iaload, 1) := by decide +kernel
theorem kdX7_law_706 : decode code 706 = .ok (.invokevirtual 98, 3) := by decide +kernel
theorem kdX7_law_709 : decode code 709 = .ok (.istore 6, 2) := by decide +kernel
theorem kdX7_law_711 : decode code 711 = .ok (.aload_n 2, 1) := by decide +kernel
theorem kdX7_law_712 : decode code 712 = .ok (.invokevirtual 68, 3) := by decide +kernel
theorem kdX7_law_715 : decode code 715 = .ok (.iload 5, 2) := by decide +kernel
theorem kdX7_law_717 : decode code 717 = .ok (.if_icmp .eq 5, 3) := by decide +kernel
theorem kdX7_law_720 : decode code 720 = .ok (.iconst 0, 1) := by decide +kernel
theorem kdX7_law_721 : decode code 721 = .ok (.ireturn, 1) := by decide +kernel
theorem kdX7_law_722 : decode code 722 = .ok (.iload 5, 2) := by decide +kernel
theorem kdX7_law_724 : decode code 724 = .ok (.ifCond .ne 15, 3) := by decide +kernel
theorem kdX7_law_727 : decode code 727 = .ok (.aload_n 3, 1) := by decide +kernel
theorem kdX7_law_728 : decode code 728 = .ok (.iconst 0, 1) := by decide +kernel
theorem kdX7_law_729 : decode code 729 = .ok (.laload, 1) := by decide +kernel
theorem kdX7_law_730 : decode code 730 = .ok (.iload 6, 2) := by decide +kernel
theorem kdX7_law_732 : decode code 732 = .ok (.i2l, 1) := by decide +kernel
theorem kdX7_law_733 : decode code 733 = .ok (.lcmp, 1) := by decide +kernel
theorem kdX7_law_734 : decode code 734 = .ok (.ifCond .eq 5, 3) := by decide +kernel
theorem kdX7_law_737 : decode code 737 = .ok (.iconst 0, 1) := by decide +kernel
theorem kdX7_law_738 : decode code 738 = .ok (.ireturn, 1) := by decide +kernel
theorem kdX7_law_739 : decode code 739 = .ok (.goto 115, 3) := by decide +kernel
theorem kdX7_law_742 : decode code 742 = .ok (.aload_n 1, 1) := by decide +kernel
theorem kdX7_law_743 : decode code 743 = .ok (.aload_n 0, 1) := by decide +kernel
theorem kdX7_law_744 : decode code 744 = .ok (.iload 4, 2) := by decide +kernel
theorem kdX7_law_746 : decode code 746 = .ok (.iconst 1, 1) := by decide +kernel
theorem kdX7_law_747 : decode code 747 = .ok (.iadd, 1) := by decide +kernel
theorem kdX7_law_748 : decode code 748 = .ok (.iaload, 1) := by decide +kernel
theorem kdX7_law_749 : decode code 749 = .ok (.aload_n 3, 1) := by decide +kernel
theorem kdX7_law_750 : decode code 750 = .ok (.invokestatic 99, 3) := by decide +kernel
theorem kdX7_law_753 : decode code 753 = .ok (.istore 5, 2) := by decide +kernel
theorem kdX7_law_755 : decode code 755 = .ok (.aload_n 2, 1) := by decide +kernel
theorem kdX7_law_756 : decode code 756 = .ok (.aload_n 0, 1) := by decide +kernel
theorem kdX7_law_757 : decode code 757 = .ok (.iload 4, 2) := by decide +kernel
theorem kdX7_law_759 : decode code 759 = .ok (.iconst 1, 1) := by decide +kernel
theorem kdX7_law_760 : decode code 760 = .ok (.iadd, 1) := by decide +kernel
theorem kdX7_law_761 : decode code 761 = .ok (.iaload, 1) := by decide +kernel
theorem kdX7_law_762 : decode code 762 = .ok (.invokevirtual 101, 3) := by decide +kernel
theorem kdX7_law_765 : decode code 765 = .ok (.istore 6, 2) := by decide +kernel
theorem kdX7_law_767 : decode code 767 = .ok (.aload_n 2, 1) := by decide +kernel
theorem kdX7_law_768 : decode code 768 = .ok (.invokevirtual 68, 3) := by decide +kernel
theorem kdX7_law_771 : decode code 771 = .ok (.iload 5, 2) := by decide +kernel
theorem kdX7_law_773 : decode code 773 = .ok (.if_icmp .eq 5, 3) := by decide +kernel
theorem kdX7_law_776 : decode code 776 = .ok (.iconst 0, 1) := by decide +kernel
theorem kdX7_law_777 : decode code 777 = .ok (.ireturn, 1) := by decide +kernel
theorem kdX7_law_778 : decode code 778 = .ok (.iload 5, 2) := by decide +kernel
theorem kdX7_law_780 : decode code 780 = .ok (.ifCond .ne 15, 3) := by decide +kernel
theorem kdX7_law_783 : decode code 783 = .ok (.aload_n 3, 1) := by decide +kernel
theorem kdX7_law_784 : decode code 784 = .ok (.iconst 0, 1) := by decide +kernel
theorem kdX7_law_785 : decode code 785 = .ok (.laload, 1) := by decide +kernel
theorem kdX7_law_786 : decode code 786 = .ok (.iload 6, 2) := by decide +kernel
theorem kdX7_law_788 : decode code 788 = .ok (.i2l, 1) := by decide +kernel
theorem kdX7_law_789 : decode code 789 = .ok (.lcmp, 1) := by decide +kernel
theorem kdX7_law_790 : decode code 790 = .ok (.ifCond .eq 5, 3) := by decide +kernel
theorem kdX7_law_793 : decode code 793 = .ok (.iconst 0, 1) := by decide +kernel
theorem kdX7_law_794 : decode code 794 = .ok (.ireturn, 1) := by decide +kernel
theorem kdX7_law_795 : decode code 795 = .ok (.goto 59, 3) := by decide +kernel
theorem kdX7_law_798 : decode code 798 = .ok (.aload_n 1, 1) := by decide +kernel
theorem kdX7_law_799 : decode code 799 = .ok (.aload_n 0, 1) := by decide +kernel
theorem kdX7_law_800 : decode code 800 = .ok (.iload 4, 2) := by decide +kernel
theorem kdX7_law_802 : decode code 802 = .ok (.iconst 1, 1) := by decide +kernel
theorem kdX7_law_803 : decode code 803 = .ok (.iadd, 1) := by decide +kernel
theorem kdX7_law_804 : decode code 804 = .ok (.iaload, 1) := by decide +kernel
theorem kdX7_law_805 : decode code 805 = .ok (.aload_n 3, 1) := by decide +kernel
theorem kdX7_law_806 : decode code 806 = .ok (.invokestatic 102, 3) := by decide +kernel
theorem kdX7_law_809 : decode code 809 = .ok (.istore 5, 2) := by decide +kernel
theorem kdX7_law_811 : decode code 811 = .ok (.aload_n 2, 1) := by decide +kernel
theorem kdX7_law_812 : decode code 812 = .ok (.aload_n 0, 1) := by decide +kernel
theorem kdX7_law_813 : decode code 813 = .ok (.iload 4, 2) := by decide +kernel
theorem kdX7_law_815 : decode code 815 = .ok (.iconst 1, 1) := by decide +kernel
theorem kdX7_law_816 : decode code 816 = .ok (.iadd, 1) := by decide +kernel
theorem kdX7_law_817 : decode code 817 = .ok (.iaload, 1) := by decide +kernel
theorem kdX7_law_818 : decode code 818 = .ok (.invokevirtual 104, 3) := by decide +kernel
theorem kdX7_law_821 : decode code 821 = .ok (.istore 6, 2) := by decide +kernel
theorem kdX7_law_823 : decode code 823 = .ok (.aload_n 2, 1) := by decide +kernel
theorem kdX7_law_824 : decode code 824 = .ok (.invokevirtual 68, 3) := by decide +kernel
theorem kdX7_law_827 : decode code 827 = .ok (.iload 5, 2) := by decide +kernel
theorem kdX7_law_829 : decode code 829 = .ok (.if_icmp .eq 5, 3) := by decide +kernel
theorem kdX7_law_832 : decode code 832 = .ok (.iconst 0, 1) := by decide +kernel
theorem kdX7_law_833 : decode code 833 = .ok (.ireturn, 1) := by decide +kernel
theorem kdX7_law_834 : decode code 834 = .ok (.iload 5, 2) := by decide +kernel
theorem kdX7_law_836 : decode code 836 = .ok (.ifCond .ne 15, 3) := by decide +kernel
theorem kdX7_law_839 : decode code 839 = .ok (.aload_n 3, 1) := by decide +kernel
theorem kdX7_law_840 : decode code 840 = .ok (.iconst 0, 1) := by decide +kernel
theorem kdX7_law_841 : decode code 841 = .ok (.laload, 1) := by decide +kernel
theorem kdX7_law_842 : decode code 842 = .ok (.iload 6, 2) := by decide +kernel
theorem kdX7_law_844 : decode code 844 = .ok (.i2l, 1) := by decide +kernel
theorem kdX7_law_845 : decode code 845 = .ok (.lcmp, 1) := by decide +kernel
theorem kdX7_law_846 : decode code 846 = .ok (.ifCond .eq 5, 3) := by decide +kernel
theorem kdX7_law_849 : decode code 849 = .ok (.iconst 0, 1) := by decide +kernel
theorem kdX7_law_850 : decode code 850 = .ok (.ireturn, 1) := by decide +kernel
theorem kdX7_law_851 : decode code 851 = .ok (.goto 3, 3) := by decide +kernel
theorem kdX7_law_854 : decode code 854 = .ok (.iinc 4 6, 3) := by decide +kernel
theorem kdX7_law_857 : decode code 857 = .ok (.goto (-834), 3) := by decide +kernel
theorem kdX7_law_860 : decode code 860 = .ok (.iconst 1, 1) := by decide +kernel
theorem kdX7_law_861 : decode code 861 = .ok (.ireturn, 1) := by decide +kernel
