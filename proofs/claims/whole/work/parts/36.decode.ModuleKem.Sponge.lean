theorem kdX4_init_0 : decode prog_6_method_1_code 0 = .ok (.aload_n 0, 1) := by decide +kernel
theorem kdX4_init_1 : decode prog_6_method_1_code 1 = .ok (.invokespecial 1, 3) := by decide +kernel
theorem kdX4_init_4 : decode prog_6_method_1_code 4 = .ok (.aload_n 0, 1) := by decide +kernel
theorem kdX4_init_5 : decode prog_6_method_1_code 5 = .ok (.bipush 25, 2) := by decide +kernel
theorem kdX4_init_7 : decode prog_6_method_1_code 7 = .ok (.newarray .long, 2) := by decide +kernel
theorem kdX4_init_9 : decode prog_6_method_1_code 9 = .ok (.putfield 9, 3) := by decide +kernel
theorem kdX4_init_12 : decode prog_6_method_1_code 12 = .ok (.aload_n 0, 1) := by decide +kernel
theorem kdX4_init_13 : decode prog_6_method_1_code 13 = .ok (.bipush 25, 2) := by decide +kernel
theorem kdX4_init_15 : decode prog_6_method_1_code 15 = .ok (.newarray .long, 2) := by decide +kernel
theorem kdX4_init_17 : decode prog_6_method_1_code 17 = .ok (.putfield 13, 3) := by decide +kernel
theorem kdX4_init_20 : decode prog_6_method_1_code 20 = .ok (.aload_n 0, 1) := by decide +kernel
theorem kdX4_init_21 : decode prog_6_method_1_code 21 = .ok (.iconst 5, 1) := by decide +kernel
theorem kdX4_init_22 : decode prog_6_method_1_code 22 = .ok (.newarray .long, 2) := by decide +kernel
theorem kdX4_init_24 : decode prog_6_method_1_code 24 = .ok (.putfield 16, 3) := by decide +kernel
theorem kdX4_init_27 : decode prog_6_method_1_code 27 = .ok (.aload_n 0, 1) := by decide +kernel
theorem kdX4_init_28 : decode prog_6_method_1_code 28 = .ok (.invokestatic 19, 3) := by decide +kernel
theorem kdX4_init_31 : decode prog_6_method_1_code 31 = .ok (.putfield 23, 3) := by decide +kernel
theorem kdX4_init_34 : decode prog_6_method_1_code 34 = .ok (.aload_n 0, 1) := by decide +kernel
theorem kdX4_init_35 : decode prog_6_method_1_code 35 = .ok (.invokestatic 27, 3) := by decide +kernel
theorem kdX4_init_38 : decode prog_6_method_1_code 38 = .ok (.putfield 30, 3) := by decide +kernel
theorem kdX4_init_41 : decode prog_6_method_1_code 41 = .ok (.aload_n 0, 1) := by decide +kernel
theorem kdX4_init_42 : decode prog_6_method_1_code 42 = .ok (.invokestatic 33, 3) := by decide +kernel
theorem kdX4_init_45 : decode prog_6_method_1_code 45 = .ok (.putfield 37, 3) := by decide +kernel
theorem kdX4_init_48 : decode prog_6_method_1_code 48 = .ok (.aload_n 0, 1) := by decide +kernel
theorem kdX4_init_49 : decode prog_6_method_1_code 49 = .ok (.sipush 136, 3) := by decide +kernel
theorem kdX4_init_52 : decode prog_6_method_1_code 52 = .ok (.putfield 40, 3) := by decide +kernel
theorem kdX4_init_55 : decode prog_6_method_1_code 55 = .ok (.aload_n 0, 1) := by decide +kernel
theorem kdX4_init_56 : decode prog_6_method_1_code 56 = .ok (.iconst 0, 1) := by decide +kernel
theorem kdX4_init_57 : decode prog_6_method_1_code 57 = .ok (.putfield 44, 3) := by decide +kernel
theorem kdX4_init_60 : decode prog_6_method_1_code 60 = .ok (.return_, 1) := by decide +kernel
theorem kdX4_target_0 : decode prog_6_method_2_code 0 = .ok (.iload_n 1, 1) := by decide +kernel
theorem kdX4_target_1 : decode prog_6_method_2_code 1 = .ok (.iconst 5, 1) := by decide +kernel
theorem kdX4_target_2 : decode prog_6_method_2_code 2 = .ok (.iconst 2, 1) := by decide +kernel
theorem kdX4_target_3 : decode prog_6_method_2_code 3 = .ok (.iload_n 0, 1) := by decide +kernel
theorem kdX4_target_4 : decode prog_6_method_2_code 4 = .ok (.imul, 1) := by decide +kernel
theorem kdX4_target_5 : decode prog_6_method_2_code 5 = .ok (.iconst 3, 1) := by decide +kernel
theorem kdX4_target_6 : decode prog_6_method_2_code 6 = .ok (.iload_n 1, 1) := by decide +kernel
theorem kdX4_target_7 : decode prog_6_method_2_code 7 = .ok (.imul, 1) := by decide +kernel
theorem kdX4_target_8 : decode prog_6_method_2_code 8 = .ok (.iadd, 1) := by decide +kernel
theorem kdX4_target_9 : decode prog_6_method_2_code 9 = .ok (.iconst 5, 1) := by decide +kernel
theorem kdX4_target_10 : decode prog_6_method_2_code 10 = .ok (.irem, 1) := by decide +kernel
theorem kdX4_target_11 : decode prog_6_method_2_code 11 = .ok (.imul, 1) := by decide +kernel
theorem kdX4_target_12 : decode prog_6_method_2_code 12 = .ok (.iadd, 1) := by decide +kernel
theorem kdX4_target_13 : decode prog_6_method_2_code 13 = .ok (.ireturn, 1) := by decide +kernel
theorem kdX4_newTargets_0 : decode prog_6_method_3_code 0 = .ok (.bipush 25, 2) := by decide +kernel
theorem kdX4_newTargets_2 : decode prog_6_method_3_code 2 = .ok (.newarray .int, 2) := by decide +kernel
theorem kdX4_newTargets_4 : decode prog_6_method_3_code 4 = .ok (.astore_n 0, 1) := by decide +kernel
theorem kdX4_newTargets_5 : decode prog_6_method_3_code 5 = .ok (.iconst 0, 1) := by decide +kernel
theorem kdX4_newTargets_6 : decode prog_6_method_3_code 6 = .ok (.istore_n 1, 1) := by decide +kernel
theorem kdX4_newTargets_7 : decode prog_6_method_3_code 7 = .ok (.iload_n 1, 1) := by decide +kernel
theorem kdX4_newTargets_8 : decode prog_6_method_3_code 8 = .ok (.bipush 25, 2) := by decide +kernel
theorem kdX4_newTargets_10 : decode prog_6_method_3_code 10 = .ok (.if_icmp .ge 21, 3) := by decide +kernel
theorem kdX4_newTargets_13 : decode prog_6_method_3_code 13 = .ok (.aload_n 0, 1) := by decide +kernel
theorem kdX4_newTargets_14 : decode prog_6_method_3_code 14 = .ok (.iload_n 1, 1) := by decide +kernel
theorem kdX4_newTargets_15 : decode prog_6_method_3_code 15 = .ok (.iload_n 1, 1) := by decide +kernel
theorem kdX4_newTargets_16 : decode prog_6_method_3_code 16 = .ok (.iconst 5, 1) := by decide +kernel
theorem kdX4_newTargets_17 : decode prog_6_method_3_code 17 = .ok (.irem, 1) := by decide +kernel
theorem kdX4_newTargets_18 : decode prog_6_method_3_code 18 = .ok (.iload_n 1, 1) := by decide +kernel
theorem kdX4_newTargets_19 : decode prog_6_method_3_code 19 = .ok (.iconst 5, 1) := by decide +kernel
theorem kdX4_newTargets_20 : decode prog_6_method_3_code 20 = .ok (.idiv, 1) := by decide +kernel
theorem kdX4_newTargets_21 : decode prog_6_method_3_code 21 = .ok (.invokestatic 47, 3) := by decide +kernel
theorem kdX4_newTargets_24 : decode prog_6_method_3_code 24 = .ok (.iastore, 1) := by decide +kernel
theorem kdX4_newTargets_25 : decode prog_6_method_3_code 25 = .ok (.iinc 1 1, 3) := by decide +kernel
theorem kdX4_newTargets_28 : decode prog_6_method_3_code 28 = .ok (.goto (-21), 3) := by decide +kernel
theorem kdX4_newTargets_31 : decode prog_6_method_3_code 31 = .ok (.aload_n 0, 1) := by decide +kernel
theorem kdX4_newTargets_32 : decode prog_6_method_3_code 32 = .ok (.areturn, 1) := by decide +kernel
theorem kdX4_newTurns_0 : decode prog_6_method_4_code 0 = .ok (.bipush 25, 2) := by decide +kernel
theorem kdX4_newTurns_2 : decode prog_6_method_4_code 2 = .ok (.newarray .int, 2) := by decide +kernel
theorem kdX4_newTurns_4 : decode prog_6_method_4_code 4 = .ok (.astore_n 0, 1) := by decide +kernel
theorem kdX4_newTurns_5 : decode prog_6_method_4_code 5 = .ok (.iconst 1, 1) := by decide +kernel
theorem kdX4_newTurns_6 : decode prog_6_method_4_code 6 = .ok (.istore_n 1, 1) := by decide +kernel
theorem kdX4_newTurns_7 : decode prog_6_method_4_code 7 = .ok (.iconst 0, 1) := by decide +kernel
theorem kdX4_newTurns_8 : decode prog_6_method_4_code 8 = .ok (.istore_n 2, 1) := by decide +kernel
theorem kdX4_newTurns_9 : decode prog_6_method_4_code 9 = .ok (.iload_n 2, 1) := by decide +kernel
theorem kdX4_newTurns_10 : decode prog_6_method_4_code 10 = .ok (.bipush 24, 2) := by decide +kernel
theorem kdX4_newTurns_12 : decode prog_6_method_4_code 12 = .ok (.if_icmp .ge 34, 3) := by decide +kernel
theorem kdX4_newTurns_15 : decode prog_6_method_4_code 15 = .ok (.aload_n 0, 1) := by decide +kernel
theorem kdX4_newTurns_16 : decode prog_6_method_4_code 16 = .ok (.iload_n 1, 1) := by decide +kernel
theorem kdX4_newTurns_17 : decode prog_6_method_4_code 17 = .ok (.iload_n 2, 1) := by decide +kernel
theorem kdX4_newTurns_18 : decode prog_6_method_4_code 18 = .ok (.iconst 1, 1) := by decide +kernel
theorem kdX4_newTurns_19 : decode prog_6_method_4_code 19 = .ok (.iadd, 1) := by decide +kernel
theorem kdX4_newTurns_20 : decode prog_6_method_4_code 20 = .ok (.iload_n 2, 1) := by decide +kernel
theorem kdX4_newTurns_21 : decode prog_6_method_4_code 21 = .ok (.iconst 2, 1) := by decide +kernel
theorem kdX4_newTurns_22 : decode prog_6_method_4_code 22 = .ok (.iadd, 1) := by decide +kernel
theorem kdX4_newTurns_23 : decode prog_6_method_4_code 23 = .ok (.imul, 1) := by decide +kernel
theorem kdX4_newTurns_24 : decode prog_6_method_4_code 24 = .ok (.iconst 2, 1) := by decide +kernel
theorem kdX4_newTurns_25 : decode prog_6_method_4_code 25 = .ok (.idiv, 1) := by decide +kernel
theorem kdX4_newTurns_26 : decode prog_6_method_4_code 26 = .ok (.bipush 64, 2) := by decide +kernel
theorem kdX4_newTurns_28 : decode prog_6_method_4_code 28 = .ok (.irem, 1) := by decide +kernel
theorem kdX4_newTurns_29 : decode prog_6_method_4_code 29 = .ok (.iastore, 1) := by decide +kernel
theorem kdX4_newTurns_30 : decode prog_6_method_4_code 30 = .ok (.iload_n 1, 1) := by decide +kernel
theorem kdX4_newTurns_31 : decode prog_6_method_4_code 31 = .ok (.iconst 5, 1) := by decide +kernel
theorem kdX4_newTurns_32 : decode prog_6_method_4_code 32 = .ok (.irem, 1) := by decide +kernel
theorem kdX4_newTurns_33 : decode prog_6_method_4_code 33 = .ok (.iload_n 1, 1) := by decide +kernel
theorem kdX4_newTurns_34 : decode prog_6_method_4_code 34 = .ok (.iconst 5, 1) := by decide +kernel
theorem kdX4_newTurns_35 : decode prog_6_method_4_code 35 = .ok (.idiv, 1) := by decide +kernel
theorem kdX4_newTurns_36 : decode prog_6_method_4_code 36 = .ok (.invokestatic 47, 3) := by decide +kernel
theorem kdX4_newTurns_39 : decode prog_6_method_4_code 39 = .ok (.istore_n 1, 1) := by decide +kernel
theorem kdX4_newTurns_40 : decode prog_6_method_4_code 40 = .ok (.iinc 2 1, 3) := by decide +kernel
theorem kdX4_newTurns_43 : decode prog_6_method_4_code 43 = .ok (.goto (-34), 3) := by decide +kernel
theorem kdX4_newTurns_46 : decode prog_6_method_4_code 46 = .ok (.aload_n 0, 1) := by decide +kernel
theorem kdX4_newTurns_47 : decode prog_6_method_4_code 47 = .ok (.areturn, 1) := by decide +kernel
theorem kdX4_newRoundConstants_0 : decode prog_6_method_5_code 0 = .ok (.bipush 24, 2) := by decide +kernel
theorem kdX4_newRoundConstants_2 : decode prog_6_method_5_code 2 = .ok (.newarray .long, 2) := by decide +kernel
theorem kdX4_newRoundConstants_4 : decode prog_6_method_5_code 4 = .ok (.astore_n 0, 1) := by decide +kernel
theorem kdX4_newRoundConstants_5 : decode prog_6_method_5_code 5 = .ok (.iconst 1, 1) := by decide +kernel
theorem kdX4_newRoundConstants_6 : decode prog_6_method_5_code 6 = .ok (.istore_n 1, 1) := by decide +kernel
theorem kdX4_newRoundConstants_7 : decode prog_6_method_5_code 7 = .ok (.iconst 0, 1) := by decide +kernel
theorem kdX4_newRoundConstants_8 : decode prog_6_method_5_code 8 = .ok (.istore_n 2, 1) := by decide +kernel
theorem kdX4_newRoundConstants_9 : decode prog_6_method_5_code 9 = .ok (.iload_n 2, 1) := by decide +kernel
theorem kdX4_newRoundConstants_10 : decode prog_6_method_5_code 10 = .ok (.bipush 24, 2) := by decide +kernel
theorem kdX4_newRoundConstants_12 : decode prog_6_method_5_code 12 = .ok (.if_icmp .ge 63, 3) := by decide +kernel
theorem kdX4_newRoundConstants_15 : decode prog_6_method_5_code 15 = .ok (.iconst 0, 1) := by decide +kernel
theorem kdX4_newRoundConstants_16 : decode prog_6_method_5_code 16 = .ok (.istore_n 3, 1) := by decide +kernel
theorem kdX4_newRoundConstants_17 : decode prog_6_method_5_code 17 = .ok (.iload_n 3, 1) := by decide +kernel
theorem kdX4_newRoundConstants_18 : decode prog_6_method_5_code 18 = .ok (.bipush 7, 2) := by decide +kernel
theorem kdX4_newRoundConstants_20 : decode prog_6_method_5_code 20 = .ok (.if_icmp .ge 49, 3) := by decide +kernel
theorem kdX4_newRoundConstants_23 : decode prog_6_method_5_code 23 = .ok (.iload_n 1, 1) := by decide +kernel
theorem kdX4_newRoundConstants_24 : decode prog_6_method_5_code 24 = .ok (.iconst 1, 1) := by decide +kernel
theorem kdX4_newRoundConstants_25 : decode prog_6_method_5_code 25 = .ok (.iand, 1) := by decide +kernel
theorem kdX4_newRoundConstants_26 : decode prog_6_method_5_code 26 = .ok (.i2l, 1) := by decide +kernel
theorem kdX4_newRoundConstants_27 : decode prog_6_method_5_code 27 = .ok (.lstore 4, 2) := by decide +kernel
theorem kdX4_newRoundConstants_29 : decode prog_6_method_5_code 29 = .ok (.aload_n 0, 1) := by decide +kernel
theorem kdX4_newRoundConstants_30 : decode prog_6_method_5_code 30 = .ok (.iload_n 2, 1) := by decide +kernel
theorem kdX4_newRoundConstants_31 : decode prog_6_method_5_code 31 = .ok (.dup2, 1) := by decide +kernel
theorem kdX4_newRoundConstants_32 : decode prog_6_method_5_code 32 = .ok (.laload, 1) := by decide +kernel
theorem kdX4_newRoundConstants_33 : decode prog_6_method_5_code 33 = .ok (.lload 4, 2) := by decide +kernel
theorem kdX4_newRoundConstants_35 : decode prog_6_method_5_code 35 = .ok (.iconst 1, 1) := by decide +kernel
theorem kdX4_newRoundConstants_36 : decode prog_6_method_5_code 36 = .ok (.iload_n 3, 1) := by decide +kernel
theorem kdX4_newRoundConstants_37 : decode prog_6_method_5_code 37 = .ok (.ishl, 1) := by decide +kernel
theorem kdX4_newRoundConstants_38 : decode prog_6_method_5_code 38 = .ok (.iconst 1, 1) := by decide +kernel
theorem kdX4_newRoundConstants_39 : decode prog_6_method_5_code 39 = .ok (.isub, 1) := by decide +kernel
theorem kdX4_newRoundConstants_40 : decode prog_6_method_5_code 40 = .ok (.lshl, 1) := by decide +kernel
theorem kdX4_newRoundConstants_41 : decode prog_6_method_5_code 41 = .ok (.lor, 1) := by decide +kernel
theorem kdX4_newRoundConstants_42 : decode prog_6_method_5_code 42 = .ok (.lastore, 1) := by decide +kernel
theorem kdX4_newRoundConstants_43 : decode prog_6_method_5_code 43 = .ok (.iload_n 1, 1) := by decide +kernel
theorem kdX4_newRoundConstants_44 : decode prog_6_method_5_code 44 = .ok (.iconst 1, 1) := by decide +kernel
theorem kdX4_newRoundConstants_45 : decode prog_6_method_5_code 45 = .ok (.ishl, 1) := by decide +kernel
theorem kdX4_newRoundConstants_46 : decode prog_6_method_5_code 46 = .ok (.istore_n 1, 1) := by decide +kernel
theorem kdX4_newRoundConstants_47 : decode prog_6_method_5_code 47 = .ok (.iload_n 1, 1) := by decide +kernel
theorem kdX4_newRoundConstants_48 : decode prog_6_method_5_code 48 = .ok (.sipush 255, 3) := by decide +kernel
theorem kdX4_newRoundConstants_51 : decode prog_6_method_5_code 51 = .ok (.if_icmp .le 12, 3) := by decide +kernel
theorem kdX4_newRoundConstants_54 : decode prog_6_method_5_code 54 = .ok (.iload_n 1, 1) := by decide +kernel
theorem kdX4_newRoundConstants_55 : decode prog_6_method_5_code 55 = .ok (.sipush 255, 3) := by decide +kernel
theorem kdX4_newRoundConstants_58 : decode prog_6_method_5_code 58 = .ok (.iand, 1) := by decide +kernel
theorem kdX4_newRoundConstants_59 : decode prog_6_method_5_code 59 = .ok (.bipush 113, 2) := by decide +kernel
theorem kdX4_newRoundConstants_61 : decode prog_6_method_5_code 61 = .ok (.ixor, 1) := by decide +kernel
theorem kdX4_newRoundConstants_62 : decode prog_6_method_5_code 62 = .ok (.istore_n 1, 1) := by decide +kernel
theorem kdX4_newRoundConstants_63 : decode prog_6_method_5_code 63 = .ok (.iinc 3 1, 3) := by decide +kernel
theorem kdX4_newRoundConstants_66 : decode prog_6_method_5_code 66 = .ok (.goto (-49), 3) := by decide +kernel
theorem kdX4_newRoundConstants_69 : decode prog_6_method_5_code 69 = .ok (.iinc 2 1, 3) := by decide +kernel
theorem kdX4_newRoundConstants_72 : decode prog_6_method_5_code 72 = .ok (.goto (-63), 3) := by decide +kernel
theorem kdX4_newRoundConstants_75 : decode prog_6_method_5_code 75 = .ok (.aload_n 0, 1) := by decide +kernel
theorem kdX4_newRoundConstants_76 : decode prog_6_method_5_code 76 = .ok (.areturn, 1) := by decide +kernel
theorem kdX4_start_0 : decode prog_6_method_6_code 0 = .ok (.iconst 0, 1) := by decide +kernel
theorem kdX4_start_1 : decode prog_6_method_6_code 1 = .ok (.istore_n 2, 1) := by decide +kernel
theorem kdX4_start_2 : decode prog_6_method_6_code 2 = .ok (.iload_n 2, 1) := by decide +kernel
theorem kdX4_start_3 : decode prog_6_method_6_code 3 = .ok (.bipush 25, 2) := by decide +kernel
theorem kdX4_start_5 : decode prog_6_method_6_code 5 = .ok (.if_icmp .ge 16, 3) := by decide +kernel
theorem kdX4_start_8 : decode prog_6_method_6_code 8 = .ok (.aload_n 0, 1) := by decide +kernel
theorem kdX4_start_9 : decode prog_6_method_6_code 9 = .ok (.getfield 9, 3) := by decide +kernel
theorem kdX4_start_12 : decode prog_6_method_6_code 12 = .ok (.iload_n 2, 1) := by decide +kernel
theorem kdX4_start_13 : decode prog_6_method_6_code 13 = .ok (.lconst 0, 1) := by decide +kernel
theorem kdX4_start_14 : decode prog_6_method_6_code 14 = .ok (.lastore, 1) := by decide +kernel
theorem kdX4_start_15 : decode prog_6_method_6_code 15 = .ok (.iinc 2 1, 3) := by decide +kernel
theorem kdX4_start_18 : decode prog_6_method_6_code 18 = .ok (.goto (-16), 3) := by decide +kernel
theorem kdX4_start_21 : decode prog_6_method_6_code 21 = .ok (.aload_n 0, 1) := by decide +kernel
theorem kdX4_start_22 : decode prog_6_method_6_code 22 = .ok (.iload_n 1, 1) := by decide +kernel
theorem kdX4_start_23 : decode prog_6_method_6_code 23 = .ok (.putfield 40, 3) := by decide +kernel
theorem kdX4_start_26 : decode prog_6_method_6_code 26 = .ok (.aload_n 0, 1) := by decide +kernel
theorem kdX4_start_27 : decode prog_6_method_6_code 27 = .ok (.iconst 0, 1) := by decide +kernel
theorem kdX4_start_28 : decode prog_6_method_6_code 28 = .ok (.putfield 44, 3) := by decide +kernel
theorem kdX4_start_31 : decode prog_6_method_6_code 31 = .ok (.return_, 1) := by decide +kernel
theorem kdX4_take_0 : decode prog_6_method_7_code 0 = .ok (.iconst 0, 1) := by decide +kernel
theorem kdX4_take_1 : decode prog_6_method_7_code 1 = .ok (.istore 4, 2) := by decide +kernel
theorem kdX4_take_3 : decode prog_6_method_7_code 3 = .ok (.iload 4, 2) := by decide +kernel
theorem kdX4_take_5 : decode prog_6_method_7_code 5 = .ok (.iload_n 3, 1) := by decide +kernel
theorem kdX4_take_6 : decode prog_6_method_7_code 6 = .ok (.if_icmp .ge 53, 3) := by decide +kernel
theorem kdX4_take_9 : decode prog_6_method_7_code 9 = .ok (.aload_n 0, 1) := by decide +kernel
theorem kdX4_take_10 : decode prog_6_method_7_code 10 = .ok (.aload_n 0, 1) := by decide +kernel
theorem kdX4_take_11 : decode prog_6_method_7_code 11 = .ok (.getfield 44, 3) := by decide +kernel
theorem kdX4_take_14 : decode prog_6_method_7_code 14 = .ok (.aload_n 1, 1) := by decide +kernel
theorem kdX4_take_15 : decode prog_6_method_7_code 15 = .ok (.iload_n 2, 1) := by decide +kernel
theorem kdX4_take_16 : decode prog_6_method_7_code 16 = .ok (.iload 4, 2) := by decide +kernel
theorem kdX4_take_18 : decode prog_6_method_7_code 18 = .ok (.iadd, 1) := by decide +kernel
theorem kdX4_take_19 : decode prog_6_method_7_code 19 = .ok (.baload, 1) := by decide +kernel
theorem kdX4_take_20 : decode prog_6_method_7_code 20 = .ok (.invokevirtual 51, 3) := by decide +kernel
theorem kdX4_take_23 : decode prog_6_method_7_code 23 = .ok (.aload_n 0, 1) := by decide +kernel
theorem kdX4_take_24 : decode prog_6_method_7_code 24 = .ok (.dup, 1) := by decide +kernel
theorem kdX4_take_25 : decode prog_6_method_7_code 25 = .ok (.getfield 44, 3) := by decide +kernel
theorem kdX4_take_28 : decode prog_6_method_7_code 28 = .ok (.iconst 1, 1) := by decide +kernel
theorem kdX4_take_29 : decode prog_6_method_7_code 29 = .ok (.iadd, 1) := by decide +kernel
theorem kdX4_take_30 : decode prog_6_method_7_code 30 = .ok (.putfield 44, 3) := by decide +kernel
theorem kdX4_take_33 : decode prog_6_method_7_code 33 = .ok (.aload_n 0, 1) := by decide +kernel
theorem kdX4_take_34 : decode prog_6_method_7_code 34 = .ok (.getfield 44, 3) := by decide +kernel
theorem kdX4_take_37 : decode prog_6_method_7_code 37 = .ok (.aload_n 0, 1) := by decide +kernel
theorem kdX4_take_38 : decode prog_6_method_7_code 38 = .ok (.getfield 40, 3) := by decide +kernel
theorem kdX4_take_41 : decode prog_6_method_7_code 41 = .ok (.if_icmp .ne 12, 3) := by decide +kernel
theorem kdX4_take_44 : decode prog_6_method_7_code 44 = .ok (.aload_n 0, 1) := by decide +kernel
theorem kdX4_take_45 : decode prog_6_method_7_code 45 = .ok (.invokevirtual 55, 3) := by decide +kernel
theorem kdX4_take_48 : decode prog_6_method_7_code 48 = .ok (.aload_n 0, 1) := by decide +kernel
theorem kdX4_take_49 : decode prog_6_method_7_code 49 = .ok (.iconst 0, 1) := by decide +kernel
theorem kdX4_take_50 : decode prog_6_method_7_code 50 = .ok (.putfield 44, 3) := by decide +kernel
theorem kdX4_take_53 : decode prog_6_method_7_code 53 = .ok (.iinc 4 1, 3) := by decide +kernel
theorem kdX4_take_56 : decode prog_6_method_7_code 56 = .ok (.goto (-53), 3) := by decide +kernel
theorem kdX4_take_59 : decode prog_6_method_7_code 59 = .ok (.return_, 1) := by decide +kernel
theorem kdX4_finish_0 : decode prog_6_method_8_code 0 = .ok (.aload_n 0, 1) := by decide +kernel
theorem kdX4_finish_1 : decode prog_6_method_8_code 1 = .ok (.aload_n 0, 1) := by decide +kernel
theorem kdX4_finish_2 : decode prog_6_method_8_code 2 = .ok (.getfield 44, 3) := by decide +kernel
theorem kdX4_finish_5 : decode prog_6_method_8_code 5 = .ok (.iload_n 1, 1) := by decide +kernel
theorem kdX4_finish_6 : decode prog_6_method_8_code 6 = .ok (.invokevirtual 51, 3) := by decide +kernel
theorem kdX4_finish_9 : decode prog_6_method_8_code 9 = .ok (.aload_n 0, 1) := by decide +kernel
theorem kdX4_finish_10 : decode prog_6_method_8_code 10 = .ok (.aload_n 0, 1) := by decide +kernel
theorem kdX4_finish_11 : decode prog_6_method_8_code 11 = .ok (.getfield 40, 3) := by decide +kernel
theorem kdX4_finish_14 : decode prog_6_method_8_code 14 = .ok (.iconst 1, 1) := by decide +kernel
theorem kdX4_finish_15 : decode prog_6_method_8_code 15 = .ok (.isub, 1) := by decide +kernel
theorem kdX4_finish_16 : decode prog_6_method_8_code 16 = .ok (.sipush 128, 3) := by decide +kernel
theorem kdX4_finish_19 : decode prog_6_method_8_code 19 = .ok (.invokevirtual 51, 3) := by decide +kernel
theorem kdX4_finish_22 : decode prog_6_method_8_code 22 = .ok (.aload_n 0, 1) := by decide +kernel
theorem kdX4_finish_23 : decode prog_6_method_8_code 23 = .ok (.invokevirtual 55, 3) := by decide +kernel
theorem kdX4_finish_26 : decode prog_6_method_8_code 26 = .ok (.aload_n 0, 1) := by decide +kernel
theorem kdX4_finish_27 : decode prog_6_method_8_code 27 = .ok (.iconst 0, 1) := by decide +kernel
theorem kdX4_finish_28 : decode prog_6_method_8_code 28 = .ok (.putfield 44, 3) := by decide +kernel
theorem kdX4_finish_31 : decode prog_6_method_8_code 31 = .ok (.return_, 1) := by decide +kernel
theorem kdX4_give_0 : decode prog_6_method_9_code 0 = .ok (.iconst 0, 1) := by decide +kernel
theorem kdX4_give_1 : decode prog_6_method_9_code 1 = .ok (.istore 4, 2) := by decide +kernel
theorem kdX4_give_3 : decode prog_6_method_9_code 3 = .ok (.iload 4, 2) := by decide +kernel
theorem kdX4_give_5 : decode prog_6_method_9_code 5 = .ok (.iload_n 3, 1) := by decide +kernel
theorem kdX4_give_6 : decode prog_6_method_9_code 6 = .ok (.if_icmp .ge 69, 3) := by decide +kernel
theorem kdX4_give_9 : decode prog_6_method_9_code 9 = .ok (.aload_n 0, 1) := by decide +kernel
theorem kdX4_give_10 : decode prog_6_method_9_code 10 = .ok (.getfield 44, 3) := by decide +kernel
theorem kdX4_give_13 : decode prog_6_method_9_code 13 = .ok (.aload_n 0, 1) := by decide +kernel
theorem kdX4_give_14 : decode prog_6_method_9_code 14 = .ok (.getfield 40, 3) := by decide +kernel
theorem kdX4_give_17 : decode prog_6_method_9_code 17 = .ok (.if_icmp .ne 12, 3) := by decide +kernel
theorem kdX4_give_20 : decode prog_6_method_9_code 20 = .ok (.aload_n 0, 1) := by decide +kernel
theorem kdX4_give_21 : decode prog_6_method_9_code 21 = .ok (.invokevirtual 55, 3) := by decide +kernel
theorem kdX4_give_24 : decode prog_6_method_9_code 24 = .ok (.aload_n 0, 1) := by decide +kernel
theorem kdX4_give_25 : decode prog_6_method_9_code 25 = .ok (.iconst 0, 1) := by decide +kernel
theorem kdX4_give_26 : decode prog_6_method_9_code 26 = .ok (.putfield 44, 3) := by decide +kernel
theorem kdX4_give_29 : decode prog_6_method_9_code 29 = .ok (.aload_n 1, 1) := by decide +kernel
theorem kdX4_give_30 : decode prog_6_method_9_code 30 = .ok (.iload_n 2, 1) := by decide +kernel
theorem kdX4_give_31 : decode prog_6_method_9_code 31 = .ok (.iload 4, 2) := by decide +kernel
theorem kdX4_give_33 : decode prog_6_method_9_code 33 = .ok (.iadd, 1) := by decide +kernel
theorem kdX4_give_34 : decode prog_6_method_9_code 34 = .ok (.aload_n 0, 1) := by decide +kernel
theorem kdX4_give_35 : decode prog_6_method_9_code 35 = .ok (.getfield 9, 3) := by decide +kernel
theorem kdX4_give_38 : decode prog_6_method_9_code 38 = .ok (.aload_n 0, 1) := by decide +kernel
theorem kdX4_give_39 : decode prog_6_method_9_code 39 = .ok (.getfield 44, 3) := by decide +kernel
theorem kdX4_give_42 : decode prog_6_method_9_code 42 = .ok (.iconst 3, 1) := by decide +kernel
theorem kdX4_give_43 : decode prog_6_method_9_code 43 = .ok (.ishr, 1) := by decide +kernel
theorem kdX4_give_44 : decode prog_6_method_9_code 44 = .ok (.laload, 1) := by decide +kernel
theorem kdX4_give_45 : decode prog_6_method_9_code 45 = .ok (.bipush 8, 2) := by decide +kernel
theorem kdX4_give_47 : decode prog_6_method_9_code 47 = .ok (.aload_n 0, 1) := by decide +kernel
theorem kdX4_give_48 : decode prog_6_method_9_code 48 = .ok (.getfield 44, 3) := by decide +kernel
theorem kdX4_give_51 : decode prog_6_method_9_code 51 = .ok (.bipush 7, 2) := by decide +kernel
theorem kdX4_give_53 : decode prog_6_method_9_code 53 = .ok (.iand, 1) := by decide +kernel
theorem kdX4_give_54 : decode prog_6_method_9_code 54 = .ok (.imul, 1) := by decide +kernel
theorem kdX4_give_55 : decode prog_6_method_9_code 55 = .ok (.lushr, 1) := by decide +kernel
theorem kdX4_give_56 : decode prog_6_method_9_code 56 = .ok (.l2i, 1) := by decide +kernel
theorem kdX4_give_57 : decode prog_6_method_9_code 57 = .ok (.i2b, 1) := by decide +kernel
theorem kdX4_give_58 : decode prog_6_method_9_code 58 = .ok (.bastore, 1) := by decide +kernel
theorem kdX4_give_59 : decode prog_6_method_9_code 59 = .ok (.aload_n 0, 1) := by decide +kernel
theorem kdX4_give_60 : decode prog_6_method_9_code 60 = .ok (.dup, 1) := by decide +kernel
theorem kdX4_give_61 : decode prog_6_method_9_code 61 = .ok (.getfield 44, 3) := by decide +kernel
theorem kdX4_give_64 : decode prog_6_method_9_code 64 = .ok (.iconst 1, 1) := by decide +kernel
theorem kdX4_give_65 : decode prog_6_method_9_code 65 = .ok (.iadd, 1) := by decide +kernel
theorem kdX4_give_66 : decode prog_6_method_9_code 66 = .ok (.putfield 44, 3) := by decide +kernel
theorem kdX4_give_69 : decode prog_6_method_9_code 69 = .ok (.iinc 4 1, 3) := by decide +kernel
theorem kdX4_give_72 : decode prog_6_method_9_code 72 = .ok (.goto (-69), 3) := by decide +kernel
theorem kdX4_give_75 : decode prog_6_method_9_code 75 = .ok (.return_, 1) := by decide +kernel
theorem kdX4_mixIn_0 : decode prog_6_method_10_code 0 = .ok (.aload_n 0, 1) := by decide +kernel
theorem kdX4_mixIn_1 : decode prog_6_method_10_code 1 = .ok (.getfield 9, 3) := by decide +kernel
theorem kdX4_mixIn_4 : decode prog_6_method_10_code 4 = .ok (.iload_n 1, 1) := by decide +kernel
theorem kdX4_mixIn_5 : decode prog_6_method_10_code 5 = .ok (.iconst 3, 1) := by decide +kernel
theorem kdX4_mixIn_6 : decode prog_6_method_10_code 6 = .ok (.ishr, 1) := by decide +kernel
theorem kdX4_mixIn_7 : decode prog_6_method_10_code 7 = .ok (.dup2, 1) := by decide +kernel
theorem kdX4_mixIn_8 : decode prog_6_method_10_code 8 = .ok (.laload, 1) := by decide +kernel
theorem kdX4_mixIn_9 : decode prog_6_method_10_code 9 = .ok (.iload_n 2, 1) := by decide +kernel
theorem kdX4_mixIn_10 : decode prog_6_method_10_code 10 = .ok (.i2l, 1) := by decide +kernel
theorem kdX4_mixIn_11 : decode prog_6_method_10_code 11 = .ok (.ldc2_w 58, 3) := by decide +kernel
theorem kdX4_mixIn_14 : decode prog_6_method_10_code 14 = .ok (.land, 1) := by decide +kernel
theorem kdX4_mixIn_15 : decode prog_6_method_10_code 15 = .ok (.bipush 8, 2) := by decide +kernel
theorem kdX4_mixIn_17 : decode prog_6_method_10_code 17 = .ok (.iload_n 1, 1) := by decide +kernel
theorem kdX4_mixIn_18 : decode prog_6_method_10_code 18 = .ok (.bipush 7, 2) := by decide +kernel
theorem kdX4_mixIn_20 : decode prog_6_method_10_code 20 = .ok (.iand, 1) := by decide +kernel
theorem kdX4_mixIn_21 : decode prog_6_method_10_code 21 = .ok (.imul, 1) := by decide +kernel
theorem kdX4_mixIn_22 : decode prog_6_method_10_code 22 = .ok (.lshl, 1) := by decide +kernel
theorem kdX4_mixIn_23 : decode prog_6_method_10_code 23 = .ok (.lxor, 1) := by decide +kernel
theorem kdX4_mixIn_24 : decode prog_6_method_10_code 24 = .ok (.lastore, 1) := by decide +kernel
theorem kdX4_mixIn_25 : decode prog_6_method_10_code 25 = .ok (.return_, 1) := by decide +kernel
theorem kdX4_permute_0 : decode prog_6_method_11_code 0 = .ok (.aload_n 0, 1) := by decide +kernel
theorem kdX4_permute_1 : decode prog_6_method_11_code 1 = .ok (.getfield 9, 3) := by decide +kernel
theorem kdX4_permute_4 : decode prog_6_method_11_code 4 = .ok (.astore_n 1, 1) := by decide +kernel
theorem kdX4_permute_5 : decode prog_6_method_11_code 5 = .ok (.aload_n 0, 1) := by decide +kernel
theorem kdX4_permute_6 : decode prog_6_method_11_code 6 = .ok (.getfield 13, 3) := by decide +kernel
theorem kdX4_permute_9 : decode prog_6_method_11_code 9 = .ok (.astore_n 2, 1) := by decide +kernel
theorem kdX4_permute_10 : decode prog_6_method_11_code 10 = .ok (.aload_n 0, 1) := by decide +kernel
theorem kdX4_permute_11 : decode prog_6_method_11_code 11 = .ok (.getfield 16, 3) := by decide +kernel
theorem kdX4_permute_14 : decode prog_6_method_11_code 14 = .ok (.astore_n 3, 1) := by decide +kernel
theorem kdX4_permute_15 : decode prog_6_method_11_code 15 = .ok (.iconst 0, 1) := by decide +kernel
theorem kdX4_permute_16 : decode prog_6_method_11_code 16 = .ok (.istore 4, 2) := by decide +kernel
theorem kdX4_permute_18 : decode prog_6_method_11_code 18 = .ok (.iload 4, 2) := by decide +kernel
theorem kdX4_permute_20 : decode prog_6_method_11_code 20 = .ok (.bipush 24, 2) := by decide +kernel
theorem kdX4_permute_22 : decode prog_6_method_11_code 22 = .ok (.if_icmp .ge 339, 3) := by decide +kernel
theorem kdX4_permute_25 : decode prog_6_method_11_code 25 = .ok (.iconst 0, 1) := by decide +kernel
theorem kdX4_permute_26 : decode prog_6_method_11_code 26 = .ok (.istore 5, 2) := by decide +kernel
theorem kdX4_permute_28 : decode prog_6_method_11_code 28 = .ok (.iload 5, 2) := by decide +kernel
theorem kdX4_permute_30 : decode prog_6_method_11_code 30 = .ok (.iconst 5, 1) := by decide +kernel
theorem kdX4_permute_31 : decode prog_6_method_11_code 31 = .ok (.if_icmp .ge 48, 3) := by decide +kernel
theorem kdX4_permute_34 : decode prog_6_method_11_code 34 = .ok (.aload_n 3, 1) := by decide +kernel
theorem kdX4_permute_35 : decode prog_6_method_11_code 35 = .ok (.iload 5, 2) := by decide +kernel
theorem kdX4_permute_37 : decode prog_6_method_11_code 37 = .ok (.aload_n 1, 1) := by decide +kernel
theorem kdX4_permute_38 : decode prog_6_method_11_code 38 = .ok (.iload 5, 2) := by decide +kernel
theorem kdX4_permute_40 : decode prog_6_method_11_code 40 = .ok (.laload, 1) := by decide +kernel
theorem kdX4_permute_41 : decode prog_6_method_11_code 41 = .ok (.aload_n 1, 1) := by decide +kernel
theorem kdX4_permute_42 : decode prog_6_method_11_code 42 = .ok (.iload 5, 2) := by decide +kernel
theorem kdX4_permute_44 : decode prog_6_method_11_code 44 = .ok (.iconst 5, 1) := by decide +kernel
theorem kdX4_permute_45 : decode prog_6_method_11_code 45 = .ok (.iadd, 1) := by decide +kernel
theorem kdX4_permute_46 : decode prog_6_method_11_code 46 = .ok (.laload, 1) := by decide +kernel
theorem kdX4_permute_47 : decode prog_6_method_11_code 47 = .ok (.lxor, 1) := by decide +kernel
theorem kdX4_permute_48 : decode prog_6_method_11_code 48 = .ok (.aload_n 1, 1) := by decide +kernel
theorem kdX4_permute_49 : decode prog_6_method_11_code 49 = .ok (.iload 5, 2) := by decide +kernel
theorem kdX4_permute_51 : decode prog_6_method_11_code 51 = .ok (.bipush 10, 2) := by decide +kernel
theorem kdX4_permute_53 : decode prog_6_method_11_code 53 = .ok (.iadd, 1) := by decide +kernel
theorem kdX4_permute_54 : decode prog_6_method_11_code 54 = .ok (.laload, 1) := by decide +kernel
theorem kdX4_permute_55 : decode prog_6_method_11_code 55 = .ok (.lxor, 1) := by decide +kernel
theorem kdX4_permute_56 : decode prog_6_method_11_code 56 = .ok (.aload_n 1, 1) := by decide +kernel
theorem kdX4_permute_57 : decode prog_6_method_11_code 57 = .ok (.iload 5, 2) := by decide +kernel
theorem kdX4_permute_59 : decode prog_6_method_11_code 59 = .ok (.bipush 15, 2) := by decide +kernel
theorem kdX4_permute_61 : decode prog_6_method_11_code 61 = .ok (.iadd, 1) := by decide +kernel
theorem kdX4_permute_62 : decode prog_6_method_11_code 62 = .ok (.laload, 1) := by decide +kernel
theorem kdX4_permute_63 : decode prog_6_method_11_code 63 = .ok (.lxor, 1) := by decide +kernel
theorem kdX4_permute_64 : decode prog_6_method_11_code 64 = .ok (.aload_n 1, 1) := by decide +kernel
theorem kdX4_permute_65 : decode prog_6_method_11_code 65 = .ok (.iload 5, 2) := by decide +kernel
theorem kdX4_permute_67 : decode prog_6_method_11_code 67 = .ok (.bipush 20, 2) := by decide +kernel
theorem kdX4_permute_69 : decode prog_6_method_11_code 69 = .ok (.iadd, 1) := by decide +kernel
theorem kdX4_permute_70 : decode prog_6_method_11_code 70 = .ok (.laload, 1) := by decide +kernel
theorem kdX4_permute_71 : decode prog_6_method_11_code 71 = .ok (.lxor, 1) := by decide +kernel
theorem kdX4_permute_72 : decode prog_6_method_11_code 72 = .ok (.lastore, 1) := by decide +kernel
theorem kdX4_permute_73 : decode prog_6_method_11_code 73 = .ok (.iinc 5 1, 3) := by decide +kernel
theorem kdX4_permute_76 : decode prog_6_method_11_code 76 = .ok (.goto (-48), 3) := by decide +kernel
theorem kdX4_permute_79 : decode prog_6_method_11_code 79 = .ok (.iconst 0, 1) := by decide +kernel
theorem kdX4_permute_80 : decode prog_6_method_11_code 80 = .ok (.istore 5, 2) := by decide +kernel
theorem kdX4_permute_82 : decode prog_6_method_11_code 82 = .ok (.iload 5, 2) := by decide +kernel
theorem kdX4_permute_84 : decode prog_6_method_11_code 84 = .ok (.iconst 5, 1) := by decide +kernel
theorem kdX4_permute_85 : decode prog_6_method_11_code 85 = .ok (.if_icmp .ge 99, 3) := by decide +kernel
theorem kdX4_permute_88 : decode prog_6_method_11_code 88 = .ok (.aload_n 3, 1) := by decide +kernel
theorem kdX4_permute_89 : decode prog_6_method_11_code 89 = .ok (.iload 5, 2) := by decide +kernel
theorem kdX4_permute_91 : decode prog_6_method_11_code 91 = .ok (.iconst 1, 1) := by decide +kernel
theorem kdX4_permute_92 : decode prog_6_method_11_code 92 = .ok (.iadd, 1) := by decide +kernel
theorem kdX4_permute_93 : decode prog_6_method_11_code 93 = .ok (.iconst 5, 1) := by decide +kernel
theorem kdX4_permute_94 : decode prog_6_method_11_code 94 = .ok (.irem, 1) := by decide +kernel
theorem kdX4_permute_95 : decode prog_6_method_11_code 95 = .ok (.laload, 1) := by decide +kernel
theorem kdX4_permute_96 : decode prog_6_method_11_code 96 = .ok (.lstore 6, 2) := by decide +kernel
theorem kdX4_permute_98 : decode prog_6_method_11_code 98 = .ok (.aload_n 3, 1) := by decide +kernel
theorem kdX4_permute_99 : decode prog_6_method_11_code 99 = .ok (.iload 5, 2) := by decide +kernel
theorem kdX4_permute_101 : decode prog_6_method_11_code 101 = .ok (.iconst 4, 1) := by decide +kernel
theorem kdX4_permute_102 : decode prog_6_method_11_code 102 = .ok (.iadd, 1) := by decide +kernel
theorem kdX4_permute_103 : decode prog_6_method_11_code 103 = .ok (.iconst 5, 1) := by decide +kernel
theorem kdX4_permute_104 : decode prog_6_method_11_code 104 = .ok (.irem, 1) := by decide +kernel
theorem kdX4_permute_105 : decode prog_6_method_11_code 105 = .ok (.laload, 1) := by decide +kernel
theorem kdX4_permute_106 : decode prog_6_method_11_code 106 = .ok (.lload 6, 2) := by decide +kernel
theorem kdX4_permute_108 : decode prog_6_method_11_code 108 = .ok (.iconst 1, 1) := by decide +kernel
theorem kdX4_permute_109 : decode prog_6_method_11_code 109 = .ok (.lshl, 1) := by decide +kernel
theorem kdX4_permute_110 : decode prog_6_method_11_code 110 = .ok (.lload 6, 2) := by decide +kernel
theorem kdX4_permute_112 : decode prog_6_method_11_code 112 = .ok (.bipush 63, 2) := by decide +kernel
theorem kdX4_permute_114 : decode prog_6_method_11_code 114 = .ok (.lushr, 1) := by decide +kernel
theorem kdX4_permute_115 : decode prog_6_method_11_code 115 = .ok (.lor, 1) := by decide +kernel
theorem kdX4_permute_116 : decode prog_6_method_11_code 116 = .ok (.lxor, 1) := by decide +kernel
theorem kdX4_permute_117 : decode prog_6_method_11_code 117 = .ok (.lstore 8, 2) := by decide +kernel
theorem kdX4_permute_119 : decode prog_6_method_11_code 119 = .ok (.iload 5, 2) := by decide +kernel
theorem kdX4_permute_121 : decode prog_6_method_11_code 121 = .ok (.istore 10, 2) := by decide +kernel
theorem kdX4_permute_123 : decode prog_6_method_11_code 123 = .ok (.iload 10, 2) := by decide +kernel
theorem kdX4_permute_125 : decode prog_6_method_11_code 125 = .ok (.bipush 25, 2) := by decide +kernel
theorem kdX4_permute_127 : decode prog_6_method_11_code 127 = .ok (.if_icmp .ge 51, 3) := by decide +kernel
theorem kdX4_permute_130 : decode prog_6_method_11_code 130 = .ok (.aload_n 1, 1) := by decide +kernel
theorem kdX4_permute_131 : decode prog_6_method_11_code 131 = .ok (.iload 10, 2) := by decide +kernel
theorem kdX4_permute_133 : decode prog_6_method_11_code 133 = .ok (.laload, 1) := by decide +kernel
theorem kdX4_permute_134 : decode prog_6_method_11_code 134 = .ok (.lload 8, 2) := by decide +kernel
theorem kdX4_permute_136 : decode prog_6_method_11_code 136 = .ok (.lxor, 1) := by decide +kernel
theorem kdX4_permute_137 : decode prog_6_method_11_code 137 = .ok (.lstore 11, 2) := by decide +kernel
theorem kdX4_permute_139 : decode prog_6_method_11_code 139 = .ok (.aload_n 2, 1) := by decide +kernel
theorem kdX4_permute_140 : decode prog_6_method_11_code 140 = .ok (.aload_n 0, 1) := by decide +kernel
theorem kdX4_permute_141 : decode prog_6_method_11_code 141 = .ok (.getfield 30, 3) := by decide +kernel
theorem kdX4_permute_144 : decode prog_6_method_11_code 144 = .ok (.iload 10, 2) := by decide +kernel
theorem kdX4_permute_146 : decode prog_6_method_11_code 146 = .ok (.iaload, 1) := by decide +kernel
theorem kdX4_permute_147 : decode prog_6_method_11_code 147 = .ok (.lload 11, 2) := by decide +kernel
theorem kdX4_permute_149 : decode prog_6_method_11_code 149 = .ok (.aload_n 0, 1) := by decide +kernel
theorem kdX4_permute_150 : decode prog_6_method_11_code 150 = .ok (.getfield 23, 3) := by decide +kernel
theorem kdX4_permute_153 : decode prog_6_method_11_code 153 = .ok (.iload 10, 2) := by decide +kernel
theorem kdX4_permute_155 : decode prog_6_method_11_code 155 = .ok (.iaload, 1) := by decide +kernel
theorem kdX4_permute_156 : decode prog_6_method_11_code 156 = .ok (.lshl, 1) := by decide +kernel
theorem kdX4_permute_157 : decode prog_6_method_11_code 157 = .ok (.lload 11, 2) := by decide +kernel
theorem kdX4_permute_159 : decode prog_6_method_11_code 159 = .ok (.bipush 64, 2) := by decide +kernel
theorem kdX4_permute_161 : decode prog_6_method_11_code 161 = .ok (.aload_n 0, 1) := by decide +kernel
theorem kdX4_permute_162 : decode prog_6_method_11_code 162 = .ok (.getfield 23, 3) := by decide +kernel
theorem kdX4_permute_165 : decode prog_6_method_11_code 165 = .ok (.iload 10, 2) := by decide +kernel
theorem kdX4_permute_167 : decode prog_6_method_11_code 167 = .ok (.iaload, 1) := by decide +kernel
theorem kdX4_permute_168 : decode prog_6_method_11_code 168 = .ok (.isub, 1) := by decide +kernel
theorem kdX4_permute_169 : decode prog_6_method_11_code 169 = .ok (.lushr, 1) := by decide +kernel
theorem kdX4_permute_170 : decode prog_6_method_11_code 170 = .ok (.lor, 1) := by decide +kernel
theorem kdX4_permute_171 : decode prog_6_method_11_code 171 = .ok (.lastore, 1) := by decide +kernel
theorem kdX4_permute_172 : decode prog_6_method_11_code 172 = .ok (.iinc 10 5, 3) := by decide +kernel
theorem kdX4_permute_175 : decode prog_6_method_11_code 175 = .ok (.goto (-52), 3) := by decide +kernel
theorem kdX4_permute_178 : decode prog_6_method_11_code 178 = .ok (.iinc 5 1, 3) := by decide +kernel
theorem kdX4_permute_181 : decode prog_6_method_11_code 181 = .ok (.goto (-99), 3) := by decide +kernel
theorem kdX4_permute_184 : decode prog_6_method_11_code 184 = .ok (.iconst 0, 1) := by decide +kernel
theorem kdX4_permute_185 : decode prog_6_method_11_code 185 = .ok (.istore 5, 2) := by decide +kernel
theorem kdX4_permute_187 : decode prog_6_method_11_code 187 = .ok (.iload 5, 2) := by decide +kernel
theorem kdX4_permute_189 : decode prog_6_method_11_code 189 = .ok (.bipush 25, 2) := by decide +kernel
theorem kdX4_permute_191 : decode prog_6_method_11_code 191 = .ok (.if_icmp .ge 151, 3) := by decide +kernel
theorem kdX4_permute_194 : decode prog_6_method_11_code 194 = .ok (.aload_n 1, 1) := by decide +kernel
theorem kdX4_permute_195 : decode prog_6_method_11_code 195 = .ok (.iload 5, 2) := by decide +kernel
theorem kdX4_permute_197 : decode prog_6_method_11_code 197 = .ok (.aload_n 2, 1) := by decide +kernel
theorem kdX4_permute_198 : decode prog_6_method_11_code 198 = .ok (.iload 5, 2) := by decide +kernel
theorem kdX4_permute_200 : decode prog_6_method_11_code 200 = .ok (.laload, 1) := by decide +kernel
theorem kdX4_permute_201 : decode prog_6_method_11_code 201 = .ok (.aload_n 2, 1) := by decide +kernel
theorem kdX4_permute_202 : decode prog_6_method_11_code 202 = .ok (.iload 5, 2) := by decide +kernel
theorem kdX4_permute_204 : decode prog_6_method_11_code 204 = .ok (.iconst 1, 1) := by decide +kernel
theorem kdX4_permute_205 : decode prog_6_method_11_code 205 = .ok (.iadd, 1) := by decide +kernel
theorem kdX4_permute_206 : decode prog_6_method_11_code 206 = .ok (.laload, 1) := by decide +kernel
theorem kdX4_permute_207 : decode prog_6_method_11_code 207 = .ok (.ldc2_w 60, 3) := by decide +kernel
theorem kdX4_permute_210 : decode prog_6_method_11_code 210 = .ok (.lxor, 1) := by decide +kernel
theorem kdX4_permute_211 : decode prog_6_method_11_code 211 = .ok (.aload_n 2, 1) := by decide +kernel
theorem kdX4_permute_212 : decode prog_6_method_11_code 212 = .ok (.iload 5, 2) := by decide +kernel
theorem kdX4_permute_214 : decode prog_6_method_11_code 214 = .ok (.iconst 2, 1) := by decide +kernel
theorem kdX4_permute_215 : decode prog_6_method_11_code 215 = .ok (.iadd, 1) := by decide +kernel
theorem kdX4_permute_216 : decode prog_6_method_11_code 216 = .ok (.laload, 1) := by decide +kernel
theorem kdX4_permute_217 : decode prog_6_method_11_code 217 = .ok (.land, 1) := by decide +kernel
theorem kdX4_permute_218 : decode prog_6_method_11_code 218 = .ok (.lxor, 1) := by decide +kernel
theorem kdX4_permute_219 : decode prog_6_method_11_code 219 = .ok (.lastore, 1) := by decide +kernel
theorem kdX4_permute_220 : decode prog_6_method_11_code 220 = .ok (.aload_n 1, 1) := by decide +kernel
theorem kdX4_permute_221 : decode prog_6_method_11_code 221 = .ok (.iload 5, 2) := by decide +kernel
theorem kdX4_permute_223 : decode prog_6_method_11_code 223 = .ok (.iconst 1, 1) := by decide +kernel
theorem kdX4_permute_224 : decode prog_6_method_11_code 224 = .ok (.iadd, 1) := by decide +kernel
theorem kdX4_permute_225 : decode prog_6_method_11_code 225 = .ok (.aload_n 2, 1) := by decide +kernel
theorem kdX4_permute_226 : decode prog_6_method_11_code 226 = .ok (.iload 5, 2) := by decide +kernel
theorem kdX4_permute_228 : decode prog_6_method_11_code 228 = .ok (.iconst 1, 1) := by decide +kernel
theorem kdX4_permute_229 : decode prog_6_method_11_code 229 = .ok (.iadd, 1) := by decide +kernel
theorem kdX4_permute_230 : decode prog_6_method_11_code 230 = .ok (.laload, 1) := by decide +kernel
theorem kdX4_permute_231 : decode prog_6_method_11_code 231 = .ok (.aload_n 2, 1) := by decide +kernel
theorem kdX4_permute_232 : decode prog_6_method_11_code 232 = .ok (.iload 5, 2) := by decide +kernel
theorem kdX4_permute_234 : decode prog_6_method_11_code 234 = .ok (.iconst 2, 1) := by decide +kernel
theorem kdX4_permute_235 : decode prog_6_method_11_code 235 = .ok (.iadd, 1) := by decide +kernel
theorem kdX4_permute_236 : decode prog_6_method_11_code 236 = .ok (.laload, 1) := by decide +kernel
theorem kdX4_permute_237 : decode prog_6_method_11_code 237 = .ok (.ldc2_w 60, 3) := by decide +kernel
theorem kdX4_permute_240 : decode prog_6_method_11_code 240 = .ok (.lxor, 1) := by decide +kernel
theorem kdX4_permute_241 : decode prog_6_method_11_code 241 = .ok (.aload_n 2, 1) := by decide +kernel
theorem kdX4_permute_242 : decode prog_6_method_11_code 242 = .ok (.iload 5, 2) := by decide +kernel
theorem kdX4_permute_244 : decode prog_6_method_11_code 244 = .ok (.iconst 3, 1) := by decide +kernel
theorem kdX4_permute_245 : decode prog_6_method_11_code 245 = .ok (.iadd, 1) := by decide +kernel
theorem kdX4_permute_246 : decode prog_6_method_11_code 246 = .ok (.laload, 1) := by decide +kernel
theorem kdX4_permute_247 : decode prog_6_method_11_code 247 = .ok (.land, 1) := by decide +kernel
theorem kdX4_permute_248 : decode prog_6_method_11_code 248 = .ok (.lxor, 1) := by decide +kernel
theorem kdX4_permute_249 : decode prog_6_method_11_code 249 = .ok (.lastore, 1) := by decide +kernel
theorem kdX4_permute_250 : decode prog_6_method_11_code 250 = .ok (.aload_n 1, 1) := by decide +kernel
theorem kdX4_permute_251 : decode prog_6_method_11_code 251 = .ok (.iload 5, 2) := by decide +kernel
theorem kdX4_permute_253 : decode prog_6_method_11_code 253 = .ok (.iconst 2, 1) := by decide +kernel
theorem kdX4_permute_254 : decode prog_6_method_11_code 254 = .ok (.iadd, 1) := by decide +kernel
theorem kdX4_permute_255 : decode prog_6_method_11_code 255 = .ok (.aload_n 2, 1) := by decide +kernel
theorem kdX4_permute_256 : decode prog_6_method_11_code 256 = .ok (.iload 5, 2) := by decide +kernel
theorem kdX4_permute_258 : decode prog_6_method_11_code 258 = .ok (.iconst 2, 1) := by decide +kernel
theorem kdX4_permute_259 : decode prog_6_method_11_code 259 = .ok (.iadd, 1) := by decide +kernel
theorem kdX4_permute_260 : decode prog_6_method_11_code 260 = .ok (.laload, 1) := by decide +kernel
theorem kdX4_permute_261 : decode prog_6_method_11_code 261 = .ok (.aload_n 2, 1) := by decide +kernel
theorem kdX4_permute_262 : decode prog_6_method_11_code 262 = .ok (.iload 5, 2) := by decide +kernel
theorem kdX4_permute_264 : decode prog_6_method_11_code 264 = .ok (.iconst 3, 1) := by decide +kernel
theorem kdX4_permute_265 : decode prog_6_method_11_code 265 = .ok (.iadd, 1) := by decide +kernel
theorem kdX4_permute_266 : decode prog_6_method_11_code 266 = .ok (.laload, 1) := by decide +kernel
theorem kdX4_permute_267 : decode prog_6_method_11_code 267 = .ok (.ldc2_w 60, 3) := by decide +kernel
theorem kdX4_permute_270 : decode prog_6_method_11_code 270 = .ok (.lxor, 1) := by decide +kernel
theorem kdX4_permute_271 : decode prog_6_method_11_code 271 = .ok (.aload_n 2, 1) := by decide +kernel
theorem kdX4_permute_272 : decode prog_6_method_11_code 272 = .ok (.iload 5, 2) := by decide +kernel
theorem kdX4_permute_274 : decode prog_6_method_11_code 274 = .ok (.iconst 4, 1) := by decide +kernel
theorem kdX4_permute_275 : decode prog_6_method_11_code 275 = .ok (.iadd, 1) := by decide +kernel
theorem kdX4_permute_276 : decode prog_6_method_11_code 276 = .ok (.laload, 1) := by decide +kernel
theorem kdX4_permute_277 : decode prog_6_method_11_code 277 = .ok (.land, 1) := by decide +kernel
theorem kdX4_permute_278 : decode prog_6_method_11_code 278 = .ok (.lxor, 1) := by decide +kernel
theorem kdX4_permute_279 : decode prog_6_method_11_code 279 = .ok (.lastore, 1) := by decide +kernel
theorem kdX4_permute_280 : decode prog_6_method_11_code 280 = .ok (.aload_n 1, 1) := by decide +kernel
theorem kdX4_permute_281 : decode prog_6_method_11_code 281 = .ok (.iload 5, 2) := by decide +kernel
theorem kdX4_permute_283 : decode prog_6_method_11_code 283 = .ok (.iconst 3, 1) := by decide +kernel
theorem kdX4_permute_284 : decode prog_6_method_11_code 284 = .ok (.iadd, 1) := by decide +kernel
theorem kdX4_permute_285 : decode prog_6_method_11_code 285 = .ok (.aload_n 2, 1) := by decide +kernel
theorem kdX4_permute_286 : decode prog_6_method_11_code 286 = .ok (.iload 5, 2) := by decide +kernel
theorem kdX4_permute_288 : decode prog_6_method_11_code 288 = .ok (.iconst 3, 1) := by decide +kernel
theorem kdX4_permute_289 : decode prog_6_method_11_code 289 = .ok (.iadd, 1) := by decide +kernel
theorem kdX4_permute_290 : decode prog_6_method_11_code 290 = .ok (.laload, 1) := by decide +kernel
theorem kdX4_permute_291 : decode prog_6_method_11_code 291 = .ok (.aload_n 2, 1) := by decide +kernel
theorem kdX4_permute_292 : decode prog_6_method_11_code 292 = .ok (.iload 5, 2) := by decide +kernel
theorem kdX4_permute_294 : decode prog_6_method_11_code 294 = .ok (.iconst 4, 1) := by decide +kernel
theorem kdX4_permute_295 : decode prog_6_method_11_code 295 = .ok (.iadd, 1) := by decide +kernel
theorem kdX4_permute_296 : decode prog_6_method_11_code 296 = .ok (.laload, 1) := by decide +kernel
theorem kdX4_permute_297 : decode prog_6_method_11_code 297 = .ok (.ldc2_w 60, 3) := by decide +kernel
theorem kdX4_permute_300 : decode prog_6_method_11_code 300 = .ok (.lxor, 1) := by decide +kernel
theorem kdX4_permute_301 : decode prog_6_method_11_code 301 = .ok (.aload_n 2, 1) := by decide +kernel
theorem kdX4_permute_302 : decode prog_6_method_11_code 302 = .ok (.iload 5, 2) := by decide +kernel
theorem kdX4_permute_304 : decode prog_6_method_11_code 304 = .ok (.laload, 1) := by decide +kernel
theorem kdX4_permute_305 : decode prog_6_method_11_code 305 = .ok (.land, 1) := by decide +kernel
theorem kdX4_permute_306 : decode prog_6_method_11_code 306 = .ok (.lxor, 1) := by decide +kernel
theorem kdX4_permute_307 : decode prog_6_method_11_code 307 = .ok (.lastore, 1) := by decide +kernel
theorem kdX4_permute_308 : decode prog_6_method_11_code 308 = .ok (.aload_n 1, 1) := by decide +kernel
theorem kdX4_permute_309 : decode prog_6_method_11_code 309 = .ok (.iload 5, 2) := by decide +kernel
theorem kdX4_permute_311 : decode prog_6_method_11_code 311 = .ok (.iconst 4, 1) := by decide +kernel
theorem kdX4_permute_312 : decode prog_6_method_11_code 312 = .ok (.iadd, 1) := by decide +kernel
theorem kdX4_permute_313 : decode prog_6_method_11_code 313 = .ok (.aload_n 2, 1) := by decide +kernel
theorem kdX4_permute_314 : decode prog_6_method_11_code 314 = .ok (.iload 5, 2) := by decide +kernel
theorem kdX4_permute_316 : decode prog_6_method_11_code 316 = .ok (.iconst 4, 1) := by decide +kernel
theorem kdX4_permute_317 : decode prog_6_method_11_code 317 = .ok (.iadd, 1) := by decide +kernel
theorem kdX4_permute_318 : decode prog_6_method_11_code 318 = .ok (.laload, 1) := by decide +kernel
theorem kdX4_permute_319 : decode prog_6_method_11_code 319 = .ok (.aload_n 2, 1) := by decide +kernel
theorem kdX4_permute_320 : decode prog_6_method_11_code 320 = .ok (.iload 5, 2) := by decide +kernel
theorem kdX4_permute_322 : decode prog_6_method_11_code 322 = .ok (.laload, 1) := by decide +kernel
theorem kdX4_permute_323 : decode prog_6_method_11_code 323 = .ok (.ldc2_w 60, 3) := by decide +kernel
theorem kdX4_permute_326 : decode prog_6_method_11_code 326 = .ok (.lxor, 1) := by decide +kernel
theorem kdX4_permute_327 : decode prog_6_method_11_code 327 = .ok (.aload_n 2, 1) := by decide +kernel
theorem kdX4_permute_328 : decode prog_6_method_11_code 328 = .ok (.iload 5, 2) := by decide +kernel
theorem kdX4_permute_330 : decode prog_6_method_11_code 330 = .ok (.iconst 1, 1) := by decide +kernel
theorem kdX4_permute_331 : decode prog_6_method_11_code 331 = .ok (.iadd, 1) := by decide +kernel
theorem kdX4_permute_332 : decode prog_6_method_11_code 332 = .ok (.laload, 1) := by decide +kernel
theorem kdX4_permute_333 : decode prog_6_method_11_code 333 = .ok (.land, 1) := by decide +kernel
theorem kdX4_permute_334 : decode prog_6_method_11_code 334 = .ok (.lxor, 1) := by decide +kernel
theorem kdX4_permute_335 : decode prog_6_method_11_code 335 = .ok (.lastore, 1) := by decide +kernel
theorem kdX4_permute_336 : decode prog_6_method_11_code 336 = .ok (.iinc 5 5, 3) := by decide +kernel
theorem kdX4_permute_339 : decode prog_6_method_11_code 339 = .ok (.goto (-152), 3) := by decide +kernel
theorem kdX4_permute_342 : decode prog_6_method_11_code 342 = .ok (.aload_n 1, 1) := by decide +kernel
theorem kdX4_permute_343 : decode prog_6_method_11_code 343 = .ok (.iconst 0, 1) := by decide +kernel
theorem kdX4_permute_344 : decode prog_6_method_11_code 344 = .ok (.dup2, 1) := by decide +kernel
theorem kdX4_permute_345 : decode prog_6_method_11_code 345 = .ok (.laload, 1) := by decide +kernel
theorem kdX4_permute_346 : decode prog_6_method_11_code 346 = .ok (.aload_n 0, 1) := by decide +kernel
theorem kdX4_permute_347 : decode prog_6_method_11_code 347 = .ok (.getfield 37, 3) := by decide +kernel
theorem kdX4_permute_350 : decode prog_6_method_11_code 350 = .ok (.iload 4, 2) := by decide +kernel
theorem kdX4_permute_352 : decode prog_6_method_11_code 352 = .ok (.laload, 1) := by decide +kernel
theorem kdX4_permute_353 : decode prog_6_method_11_code 353 = .ok (.lxor, 1) := by decide +kernel
theorem kdX4_permute_354 : decode prog_6_method_11_code 354 = .ok (.lastore, 1) := by decide +kernel
theorem kdX4_permute_355 : decode prog_6_method_11_code 355 = .ok (.iinc 4 1, 3) := by decide +kernel
theorem kdX4_permute_358 : decode prog_6_method_11_code 358 = .ok (.goto (-340), 3) := by decide +kernel
theorem kdX4_permute_361 : decode prog_6_method_11_code 361 = .ok (.return_, 1) := by decide +kernel
