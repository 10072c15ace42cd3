theorem kdX3_init_0 : decode prog_5_method_1_code 0 = .ok (.aload_n 0, 1) := by decide +kernel
theorem kdX3_init_1 : decode prog_5_method_1_code 1 = .ok (.invokespecial 3, 3) := by decide +kernel
theorem kdX3_init_4 : decode prog_5_method_1_code 4 = .ok (.aload_n 0, 1) := by decide +kernel
theorem kdX3_init_5 : decode prog_5_method_1_code 5 = .ok (.iload_n 1, 1) := by decide +kernel
theorem kdX3_init_6 : decode prog_5_method_1_code 6 = .ok (.putfield 9, 3) := by decide +kernel
theorem kdX3_init_9 : decode prog_5_method_1_code 9 = .ok (.aload_n 0, 1) := by decide +kernel
theorem kdX3_init_10 : decode prog_5_method_1_code 10 = .ok (.iload_n 2, 1) := by decide +kernel
theorem kdX3_init_11 : decode prog_5_method_1_code 11 = .ok (.putfield 15, 3) := by decide +kernel
theorem kdX3_init_14 : decode prog_5_method_1_code 14 = .ok (.aload_n 0, 1) := by decide +kernel
theorem kdX3_init_15 : decode prog_5_method_1_code 15 = .ok (.iload_n 3, 1) := by decide +kernel
theorem kdX3_init_16 : decode prog_5_method_1_code 16 = .ok (.putfield 18, 3) := by decide +kernel
theorem kdX3_init_19 : decode prog_5_method_1_code 19 = .ok (.aload_n 0, 1) := by decide +kernel
theorem kdX3_init_20 : decode prog_5_method_1_code 20 = .ok (.iload 4, 2) := by decide +kernel
theorem kdX3_init_22 : decode prog_5_method_1_code 22 = .ok (.putfield 21, 3) := by decide +kernel
theorem kdX3_init_25 : decode prog_5_method_1_code 25 = .ok (.return_, 1) := by decide +kernel
theorem kdX3_numbersSize_0 : decode prog_5_method_2_code 0 = .ok (.sipush 384, 3) := by decide +kernel
theorem kdX3_numbersSize_3 : decode prog_5_method_2_code 3 = .ok (.aload_n 0, 1) := by decide +kernel
theorem kdX3_numbersSize_4 : decode prog_5_method_2_code 4 = .ok (.getfield 9, 3) := by decide +kernel
theorem kdX3_numbersSize_7 : decode prog_5_method_2_code 7 = .ok (.imul, 1) := by decide +kernel
theorem kdX3_numbersSize_8 : decode prog_5_method_2_code 8 = .ok (.ireturn, 1) := by decide +kernel
theorem kdX3_publicSize_0 : decode prog_5_method_3_code 0 = .ok (.aload_n 0, 1) := by decide +kernel
theorem kdX3_publicSize_1 : decode prog_5_method_3_code 1 = .ok (.invokevirtual 24, 3) := by decide +kernel
theorem kdX3_publicSize_4 : decode prog_5_method_3_code 4 = .ok (.bipush 32, 2) := by decide +kernel
theorem kdX3_publicSize_6 : decode prog_5_method_3_code 6 = .ok (.iadd, 1) := by decide +kernel
theorem kdX3_publicSize_7 : decode prog_5_method_3_code 7 = .ok (.ireturn, 1) := by decide +kernel
theorem kdX3_hashPlace_0 : decode prog_5_method_4_code 0 = .ok (.aload_n 0, 1) := by decide +kernel
theorem kdX3_hashPlace_1 : decode prog_5_method_4_code 1 = .ok (.invokevirtual 24, 3) := by decide +kernel
theorem kdX3_hashPlace_4 : decode prog_5_method_4_code 4 = .ok (.aload_n 0, 1) := by decide +kernel
theorem kdX3_hashPlace_5 : decode prog_5_method_4_code 5 = .ok (.invokevirtual 28, 3) := by decide +kernel
theorem kdX3_hashPlace_8 : decode prog_5_method_4_code 8 = .ok (.iadd, 1) := by decide +kernel
theorem kdX3_hashPlace_9 : decode prog_5_method_4_code 9 = .ok (.ireturn, 1) := by decide +kernel
theorem kdX3_secretSize_0 : decode prog_5_method_5_code 0 = .ok (.aload_n 0, 1) := by decide +kernel
theorem kdX3_secretSize_1 : decode prog_5_method_5_code 1 = .ok (.invokevirtual 31, 3) := by decide +kernel
theorem kdX3_secretSize_4 : decode prog_5_method_5_code 4 = .ok (.bipush 64, 2) := by decide +kernel
theorem kdX3_secretSize_6 : decode prog_5_method_5_code 6 = .ok (.iadd, 1) := by decide +kernel
theorem kdX3_secretSize_7 : decode prog_5_method_5_code 7 = .ok (.ireturn, 1) := by decide +kernel
theorem kdX3_vectorPartSize_0 : decode prog_5_method_6_code 0 = .ok (.bipush 32, 2) := by decide +kernel
theorem kdX3_vectorPartSize_2 : decode prog_5_method_6_code 2 = .ok (.aload_n 0, 1) := by decide +kernel
theorem kdX3_vectorPartSize_3 : decode prog_5_method_6_code 3 = .ok (.getfield 18, 3) := by decide +kernel
theorem kdX3_vectorPartSize_6 : decode prog_5_method_6_code 6 = .ok (.imul, 1) := by decide +kernel
theorem kdX3_vectorPartSize_7 : decode prog_5_method_6_code 7 = .ok (.ireturn, 1) := by decide +kernel
theorem kdX3_scalarPlace_0 : decode prog_5_method_7_code 0 = .ok (.aload_n 0, 1) := by decide +kernel
theorem kdX3_scalarPlace_1 : decode prog_5_method_7_code 1 = .ok (.invokevirtual 34, 3) := by decide +kernel
theorem kdX3_scalarPlace_4 : decode prog_5_method_7_code 4 = .ok (.aload_n 0, 1) := by decide +kernel
theorem kdX3_scalarPlace_5 : decode prog_5_method_7_code 5 = .ok (.getfield 9, 3) := by decide +kernel
theorem kdX3_scalarPlace_8 : decode prog_5_method_7_code 8 = .ok (.imul, 1) := by decide +kernel
theorem kdX3_scalarPlace_9 : decode prog_5_method_7_code 9 = .ok (.ireturn, 1) := by decide +kernel
theorem kdX3_packetSize_0 : decode prog_5_method_8_code 0 = .ok (.aload_n 0, 1) := by decide +kernel
theorem kdX3_packetSize_1 : decode prog_5_method_8_code 1 = .ok (.invokevirtual 37, 3) := by decide +kernel
theorem kdX3_packetSize_4 : decode prog_5_method_8_code 4 = .ok (.bipush 32, 2) := by decide +kernel
theorem kdX3_packetSize_6 : decode prog_5_method_8_code 6 = .ok (.aload_n 0, 1) := by decide +kernel
theorem kdX3_packetSize_7 : decode prog_5_method_8_code 7 = .ok (.getfield 21, 3) := by decide +kernel
theorem kdX3_packetSize_10 : decode prog_5_method_8_code 10 = .ok (.imul, 1) := by decide +kernel
theorem kdX3_packetSize_11 : decode prog_5_method_8_code 11 = .ok (.iadd, 1) := by decide +kernel
theorem kdX3_packetSize_12 : decode prog_5_method_8_code 12 = .ok (.ireturn, 1) := by decide +kernel
