theorem dX10_outputsFrom_1 : decode cX10_outputsFrom 1 = .ok (.iload_n 1, 1) := by decide +kernel
theorem dX10_outputsFrom_2 : decode cX10_outputsFrom 2 = .ok (.invokevirtual 185, 3) := by decide +kernel
theorem dX10_outputsFrom_5 : decode cX10_outputsFrom 5 = .ok (.iconst 1, 1) := by decide +kernel
theorem dX10_outputsFrom_6 : decode cX10_outputsFrom 6 = .ok (.iadd, 1) := by decide +kernel
theorem dX10_outputsFrom_7 : decode cX10_outputsFrom 7 = .ok (.iconst 5, 1) := by decide +kernel
theorem dX10_outputsFrom_8 : decode cX10_outputsFrom 8 = .ok (.aload_n 0, 1) := by decide +kernel
theorem dX10_outputsFrom_9 : decode cX10_outputsFrom 9 = .ok (.iload_n 1, 1) := by decide +kernel
theorem dX10_outputsFrom_10 : decode cX10_outputsFrom 10 = .ok (.invokevirtual 188, 3) := by decide +kernel
theorem dX10_outputsFrom_13 : decode cX10_outputsFrom 13 = .ok (.imul, 1) := by decide +kernel
theorem dX10_outputsFrom_14 : decode cX10_outputsFrom 14 = .ok (.iadd, 1) := by decide +kernel
theorem dX10_outputsFrom_15 : decode cX10_outputsFrom 15 = .ok (.ireturn, 1) := by decide +kernel
theorem dX10_outputsOf_0 : decode cX10_outputsOf 0 = .ok (.iload_n 1, 1) := by decide +kernel
theorem dX10_outputsOf_1 : decode cX10_outputsOf 1 = .ok (.ifCond .ne 8, 3) := by decide +kernel
theorem dX10_outputsOf_4 : decode cX10_outputsOf 4 = .ok (.bipush 8, 2) := by decide +kernel
theorem dX10_outputsOf_6 : decode cX10_outputsOf 6 = .ok (.goto 13, 3) := by decide +kernel
theorem dX10_outputsOf_9 : decode cX10_outputsOf 9 = .ok (.aload_n 0, 1) := by decide +kernel
theorem dX10_outputsOf_10 : decode cX10_outputsOf 10 = .ok (.iload_n 1, 1) := by decide +kernel
theorem dX10_outputsOf_11 : decode cX10_outputsOf 11 = .ok (.aload_n 0, 1) := by decide +kernel
theorem dX10_outputsOf_12 : decode cX10_outputsOf 12 = .ok (.iload_n 1, 1) := by decide +kernel
theorem dX10_outputsOf_13 : decode cX10_outputsOf 13 = .ok (.invokevirtual 191, 3) := by decide +kernel
theorem dX10_outputsOf_16 : decode cX10_outputsOf 16 = .ok (.invokevirtual 176, 3) := by decide +kernel
theorem dX10_outputsOf_19 : decode cX10_outputsOf 19 = .ok (.ireturn, 1) := by decide +kernel
theorem dX10_amount_0 : decode cX10_amount 0 = .ok (.iload_n 1, 1) := by decide +kernel
theorem dX10_amount_1 : decode cX10_amount 1 = .ok (.ifCond .ne 8, 3) := by decide +kernel
theorem dX10_amount_4 : decode cX10_amount 4 = .ok (.ldc 194, 2) := by decide +kernel
theorem dX10_amount_6 : decode cX10_amount 6 = .ok (.goto 19, 3) := by decide +kernel
theorem dX10_amount_9 : decode cX10_amount 9 = .ok (.aload_n 0, 1) := by decide +kernel
theorem dX10_amount_10 : decode cX10_amount 10 = .ok (.iload_n 1, 1) := by decide +kernel
theorem dX10_amount_11 : decode cX10_amount 11 = .ok (.aload_n 0, 1) := by decide +kernel
theorem dX10_amount_12 : decode cX10_amount 12 = .ok (.iload_n 1, 1) := by decide +kernel
theorem dX10_amount_13 : decode cX10_amount 13 = .ok (.invokevirtual 191, 3) := by decide +kernel
theorem dX10_amount_16 : decode cX10_amount 16 = .ok (.iconst 1, 1) := by decide +kernel
theorem dX10_amount_17 : decode cX10_amount 17 = .ok (.iadd, 1) := by decide +kernel
theorem dX10_amount_18 : decode cX10_amount 18 = .ok (.iconst 4, 1) := by decide +kernel
theorem dX10_amount_19 : decode cX10_amount 19 = .ok (.iload_n 2, 1) := by decide +kernel
theorem dX10_amount_20 : decode cX10_amount 20 = .ok (.imul, 1) := by decide +kernel
theorem dX10_amount_21 : decode cX10_amount 21 = .ok (.iadd, 1) := by decide +kernel
theorem dX10_amount_22 : decode cX10_amount 22 = .ok (.invokevirtual 179, 3) := by decide +kernel
theorem dX10_amount_25 : decode cX10_amount 25 = .ok (.ireturn, 1) := by decide +kernel
theorem dX10_find_0 : decode cX10_find 0 = .ok (.iconst (-1), 1) := by decide +kernel
theorem dX10_find_1 : decode cX10_find 1 = .ok (.istore_n 2, 1) := by decide +kernel
theorem dX10_find_2 : decode cX10_find 2 = .ok (.iconst 0, 1) := by decide +kernel
theorem dX10_find_3 : decode cX10_find 3 = .ok (.istore_n 3, 1) := by decide +kernel
theorem dX10_find_4 : decode cX10_find 4 = .ok (.iload_n 3, 1) := by decide +kernel
theorem dX10_find_5 : decode cX10_find 5 = .ok (.aload_n 0, 1) := by decide +kernel
theorem dX10_find_6 : decode cX10_find 6 = .ok (.getfield 16, 3) := by decide +kernel
theorem dX10_find_9 : decode cX10_find 9 = .ok (.if_icmp .ge 25, 3) := by decide +kernel
theorem dX10_find_12 : decode cX10_find 12 = .ok (.aload_n 0, 1) := by decide +kernel
theorem dX10_find_13 : decode cX10_find 13 = .ok (.getfield 20, 3) := by decide +kernel
theorem dX10_find_16 : decode cX10_find 16 = .ok (.iload_n 3, 1) := by decide +kernel
theorem dX10_find_17 : decode cX10_find 17 = .ok (.iaload, 1) := by decide +kernel
theorem dX10_find_18 : decode cX10_find 18 = .ok (.iload_n 1, 1) := by decide +kernel
theorem dX10_find_19 : decode cX10_find 19 = .ok (.if_icmp .ne 7, 3) := by decide +kernel
theorem dX10_find_22 : decode cX10_find 22 = .ok (.iload_n 3, 1) := by decide +kernel
theorem dX10_find_23 : decode cX10_find 23 = .ok (.goto 4, 3) := by decide +kernel
theorem dX10_find_26 : decode cX10_find 26 = .ok (.iload_n 2, 1) := by decide +kernel
theorem dX10_find_27 : decode cX10_find 27 = .ok (.istore_n 2, 1) := by decide +kernel
theorem dX10_find_28 : decode cX10_find 28 = .ok (.iinc 3 1, 3) := by decide +kernel
theorem dX10_find_31 : decode cX10_find 31 = .ok (.goto (-27), 3) := by decide +kernel
theorem dX10_find_34 : decode cX10_find 34 = .ok (.iload_n 2, 1) := by decide +kernel
theorem dX10_find_35 : decode cX10_find 35 = .ok (.ireturn, 1) := by decide +kernel
theorem dX10_isHeld_0 : decode cX10_isHeld 0 = .ok (.iload_n 1, 1) := by decide +kernel
theorem dX10_isHeld_1 : decode cX10_isHeld 1 = .ok (.ifCond .lt 27, 3) := by decide +kernel
theorem dX10_isHeld_4 : decode cX10_isHeld 4 = .ok (.aload_n 0, 1) := by decide +kernel
theorem dX10_isHeld_5 : decode cX10_isHeld 5 = .ok (.getfield 30, 3) := by decide +kernel
theorem dX10_isHeld_8 : decode cX10_isHeld 8 = .ok (.iload_n 1, 1) := by decide +kernel
theorem dX10_isHeld_9 : decode cX10_isHeld 9 = .ok (.iaload, 1) := by decide +kernel
theorem dX10_isHeld_10 : decode cX10_isHeld 10 = .ok (.iconst 2, 1) := by decide +kernel
theorem dX10_isHeld_11 : decode cX10_isHeld 11 = .ok (.if_icmp .lt 17, 3) := by decide +kernel
theorem dX10_isHeld_14 : decode cX10_isHeld 14 = .ok (.aload_n 0, 1) := by decide +kernel
theorem dX10_isHeld_15 : decode cX10_isHeld 15 = .ok (.getfield 30, 3) := by decide +kernel
theorem dX10_isHeld_18 : decode cX10_isHeld 18 = .ok (.iload_n 1, 1) := by decide +kernel
theorem dX10_isHeld_19 : decode cX10_isHeld 19 = .ok (.iaload, 1) := by decide +kernel
theorem dX10_isHeld_20 : decode cX10_isHeld 20 = .ok (.iconst 4, 1) := by decide +kernel
theorem dX10_isHeld_21 : decode cX10_isHeld 21 = .ok (.if_icmp .gt 7, 3) := by decide +kernel
theorem dX10_isHeld_24 : decode cX10_isHeld 24 = .ok (.iconst 1, 1) := by decide +kernel
theorem dX10_isHeld_25 : decode cX10_isHeld 25 = .ok (.goto 4, 3) := by decide +kernel
theorem dX10_isHeld_28 : decode cX10_isHeld 28 = .ok (.iconst 0, 1) := by decide +kernel
theorem dX10_isHeld_29 : decode cX10_isHeld 29 = .ok (.ireturn, 1) := by decide +kernel
theorem dX10_outputOf_0 : decode cX10_outputOf 0 = .ok (.aload_n 0, 1) := by decide +kernel
theorem dX10_outputOf_1 : decode cX10_outputOf 1 = .ok (.aload_n 0, 1) := by decide +kernel
theorem dX10_outputOf_2 : decode cX10_outputOf 2 = .ok (.iload_n 1, 1) := by decide +kernel
theorem dX10_outputOf_3 : decode cX10_outputOf 3 = .ok (.iload_n 2, 1) := by decide +kernel
theorem dX10_outputOf_4 : decode cX10_outputOf 4 = .ok (.invokevirtual 195, 3) := by decide +kernel
theorem dX10_outputOf_7 : decode cX10_outputOf 7 = .ok (.invokevirtual 198, 3) := by decide +kernel
theorem dX10_outputOf_10 : decode cX10_outputOf 10 = .ok (.aload_n 0, 1) := by decide +kernel
theorem dX10_outputOf_11 : decode cX10_outputOf 11 = .ok (.iload_n 1, 1) := by decide +kernel
theorem dX10_outputOf_12 : decode cX10_outputOf 12 = .ok (.iload_n 2, 1) := by decide +kernel
theorem dX10_outputOf_13 : decode cX10_outputOf 13 = .ok (.invokevirtual 201, 3) := by decide +kernel
theorem dX10_outputOf_16 : decode cX10_outputOf 16 = .ok (.invokestatic 204, 3) := by decide +kernel
theorem dX10_outputOf_19 : decode cX10_outputOf 19 = .ok (.ireturn, 1) := by decide +kernel
theorem dX10_number_0 : decode cX10_number 0 = .ok (.iload_n 0, 1) := by decide +kernel
theorem dX10_number_1 : decode cX10_number 1 = .ok (.ifCond .ne 7, 3) := by decide +kernel
theorem dX10_number_4 : decode cX10_number 4 = .ok (.iload_n 1, 1) := by decide +kernel
theorem dX10_number_5 : decode cX10_number 5 = .ok (.goto 10, 3) := by decide +kernel
theorem dX10_number_8 : decode cX10_number 8 = .ok (.iconst 4, 1) := by decide +kernel
theorem dX10_number_9 : decode cX10_number 9 = .ok (.iconst 4, 1) := by decide +kernel
theorem dX10_number_10 : decode cX10_number 10 = .ok (.iload_n 0, 1) := by decide +kernel
theorem dX10_number_11 : decode cX10_number 11 = .ok (.imul, 1) := by decide +kernel
theorem dX10_number_12 : decode cX10_number 12 = .ok (.iadd, 1) := by decide +kernel
theorem dX10_number_13 : decode cX10_number 13 = .ok (.iload_n 1, 1) := by decide +kernel
theorem dX10_number_14 : decode cX10_number 14 = .ok (.iadd, 1) := by decide +kernel
theorem dX10_number_15 : decode cX10_number 15 = .ok (.ireturn, 1) := by decide +kernel
theorem dX10_few_0 : decode cX10_few 0 = .ok (.iload_n 0, 1) := by decide +kernel
theorem dX10_few_1 : decode cX10_few 1 = .ok (.ifCond .le 12, 3) := by decide +kernel
theorem dX10_few_4 : decode cX10_few 4 = .ok (.iload_n 0, 1) := by decide +kernel
theorem dX10_few_5 : decode cX10_few 5 = .ok (.iconst 5, 1) := by decide +kernel
theorem dX10_few_6 : decode cX10_few 6 = .ok (.if_icmp .ge 7, 3) := by decide +kernel
theorem dX10_few_9 : decode cX10_few 9 = .ok (.iconst 1, 1) := by decide +kernel
theorem dX10_few_10 : decode cX10_few 10 = .ok (.goto 4, 3) := by decide +kernel
theorem dX10_few_13 : decode cX10_few 13 = .ok (.iconst 0, 1) := by decide +kernel
theorem dX10_few_14 : decode cX10_few 14 = .ok (.ireturn, 1) := by decide +kernel
theorem dX10_tapeFour_0 : decode cX10_tapeFour 0 = .ok (.aload_n 0, 1) := by decide +kernel
theorem dX10_tapeFour_1 : decode cX10_tapeFour 1 = .ok (.getfield 13, 3) := by decide +kernel
theorem dX10_tapeFour_4 : decode cX10_tapeFour 4 = .ok (.iload_n 1, 1) := by decide +kernel
theorem dX10_tapeFour_5 : decode cX10_tapeFour 5 = .ok (.iaload, 1) := by decide +kernel
theorem dX10_tapeFour_6 : decode cX10_tapeFour 6 = .ok (.bipush 24, 2) := by decide +kernel
theorem dX10_tapeFour_8 : decode cX10_tapeFour 8 = .ok (.ishl, 1) := by decide +kernel
theorem dX10_tapeFour_9 : decode cX10_tapeFour 9 = .ok (.aload_n 0, 1) := by decide +kernel
theorem dX10_tapeFour_10 : decode cX10_tapeFour 10 = .ok (.getfield 13, 3) := by decide +kernel
theorem dX10_tapeFour_13 : decode cX10_tapeFour 13 = .ok (.iload_n 1, 1) := by decide +kernel
theorem dX10_tapeFour_14 : decode cX10_tapeFour 14 = .ok (.iconst 1, 1) := by decide +kernel
theorem dX10_tapeFour_15 : decode cX10_tapeFour 15 = .ok (.iadd, 1) := by decide +kernel
theorem dX10_tapeFour_16 : decode cX10_tapeFour 16 = .ok (.iaload, 1) := by decide +kernel
theorem dX10_tapeFour_17 : decode cX10_tapeFour 17 = .ok (.bipush 16, 2) := by decide +kernel
theorem dX10_tapeFour_19 : decode cX10_tapeFour 19 = .ok (.ishl, 1) := by decide +kernel
theorem dX10_tapeFour_20 : decode cX10_tapeFour 20 = .ok (.ior, 1) := by decide +kernel
theorem dX10_tapeFour_21 : decode cX10_tapeFour 21 = .ok (.aload_n 0, 1) := by decide +kernel
theorem dX10_tapeFour_22 : decode cX10_tapeFour 22 = .ok (.getfield 13, 3) := by decide +kernel
theorem dX10_tapeFour_25 : decode cX10_tapeFour 25 = .ok (.iload_n 1, 1) := by decide +kernel
theorem dX10_tapeFour_26 : decode cX10_tapeFour 26 = .ok (.iconst 2, 1) := by decide +kernel
theorem dX10_tapeFour_27 : decode cX10_tapeFour 27 = .ok (.iadd, 1) := by decide +kernel
theorem dX10_tapeFour_28 : decode cX10_tapeFour 28 = .ok (.iaload, 1) := by decide +kernel
theorem dX10_tapeFour_29 : decode cX10_tapeFour 29 = .ok (.bipush 8, 2) := by decide +kernel
theorem dX10_tapeFour_31 : decode cX10_tapeFour 31 = .ok (.ishl, 1) := by decide +kernel
theorem dX10_tapeFour_32 : decode cX10_tapeFour 32 = .ok (.ior, 1) := by decide +kernel
theorem dX10_tapeFour_33 : decode cX10_tapeFour 33 = .ok (.aload_n 0, 1) := by decide +kernel
theorem dX10_tapeFour_34 : decode cX10_tapeFour 34 = .ok (.getfield 13, 3) := by decide +kernel
theorem dX10_tapeFour_37 : decode cX10_tapeFour 37 = .ok (.iload_n 1, 1) := by decide +kernel
theorem dX10_tapeFour_38 : decode cX10_tapeFour 38 = .ok (.iconst 3, 1) := by decide +kernel
theorem dX10_tapeFour_39 : decode cX10_tapeFour 39 = .ok (.iadd, 1) := by decide +kernel
theorem dX10_tapeFour_40 : decode cX10_tapeFour 40 = .ok (.iaload, 1) := by decide +kernel
theorem dX10_tapeFour_41 : decode cX10_tapeFour 41 = .ok (.ior, 1) := by decide +kernel
theorem dX10_tapeFour_42 : decode cX10_tapeFour 42 = .ok (.ireturn, 1) := by decide +kernel
theorem dX10_isTransaction_0 : decode cX10_isTransaction 0 = .ok (.iload_n 1, 1) := by decide +kernel
theorem dX10_isTransaction_1 : decode cX10_isTransaction 1 = .ok (.iconst 1, 1) := by decide +kernel
theorem dX10_isTransaction_2 : decode cX10_isTransaction 2 = .ok (.if_icmp .lt 29, 3) := by decide +kernel
theorem dX10_isTransaction_5 : decode cX10_isTransaction 5 = .ok (.iload_n 1, 1) := by decide +kernel
theorem dX10_isTransaction_6 : decode cX10_isTransaction 6 = .ok (.aload_n 0, 1) := by decide +kernel
theorem dX10_isTransaction_7 : decode cX10_isTransaction 7 = .ok (.getfield 173, 3) := by decide +kernel
theorem dX10_isTransaction_10 : decode cX10_isTransaction 10 = .ok (.if_icmp .gt 21, 3) := by decide +kernel
theorem dX10_isTransaction_13 : decode cX10_isTransaction 13 = .ok (.iload_n 1, 1) := by decide +kernel
theorem dX10_isTransaction_14 : decode cX10_isTransaction 14 = .ok (.bipush 55, 2) := by decide +kernel
theorem dX10_isTransaction_16 : decode cX10_isTransaction 16 = .ok (.if_icmp .gt 15, 3) := by decide +kernel
theorem dX10_isTransaction_19 : decode cX10_isTransaction 19 = .ok (.aload_n 0, 1) := by decide +kernel
theorem dX10_isTransaction_20 : decode cX10_isTransaction 20 = .ok (.getfield 13, 3) := by decide +kernel
theorem dX10_isTransaction_23 : decode cX10_isTransaction 23 = .ok (.iconst 0, 1) := by decide +kernel
theorem dX10_isTransaction_24 : decode cX10_isTransaction 24 = .ok (.iaload, 1) := by decide +kernel
theorem dX10_isTransaction_25 : decode cX10_isTransaction 25 = .ok (.invokestatic 207, 3) := by decide +kernel
theorem dX10_isTransaction_28 : decode cX10_isTransaction 28 = .ok (.ifCond .ne 5, 3) := by decide +kernel
theorem dX10_isTransaction_31 : decode cX10_isTransaction 31 = .ok (.iconst 0, 1) := by decide +kernel
theorem dX10_isTransaction_32 : decode cX10_isTransaction 32 = .ok (.ireturn, 1) := by decide +kernel
theorem dX10_isTransaction_33 : decode cX10_isTransaction 33 = .ok (.iconst 1, 1) := by decide +kernel
theorem dX10_isTransaction_34 : decode cX10_isTransaction 34 = .ok (.iconst 4, 1) := by decide +kernel
theorem dX10_isTransaction_35 : decode cX10_isTransaction 35 = .ok (.aload_n 0, 1) := by decide +kernel
theorem dX10_isTransaction_36 : decode cX10_isTransaction 36 = .ok (.getfield 13, 3) := by decide +kernel
theorem dX10_isTransaction_39 : decode cX10_isTransaction 39 = .ok (.iconst 0, 1) := by decide +kernel
theorem dX10_isTransaction_40 : decode cX10_isTransaction 40 = .ok (.iaload, 1) := by decide +kernel
theorem dX10_isTransaction_41 : decode cX10_isTransaction 41 = .ok (.imul, 1) := by decide +kernel
theorem dX10_isTransaction_42 : decode cX10_isTransaction 42 = .ok (.iadd, 1) := by decide +kernel
theorem dX10_isTransaction_43 : decode cX10_isTransaction 43 = .ok (.istore_n 2, 1) := by decide +kernel
theorem dX10_isTransaction_44 : decode cX10_isTransaction 44 = .ok (.iload_n 2, 1) := by decide +kernel
theorem dX10_isTransaction_45 : decode cX10_isTransaction 45 = .ok (.iload_n 1, 1) := by decide +kernel
theorem dX10_isTransaction_46 : decode cX10_isTransaction 46 = .ok (.if_icmp .ge 7, 3) := by decide +kernel
theorem dX10_isTransaction_49 : decode cX10_isTransaction 49 = .ok (.iconst 1, 1) := by decide +kernel
theorem dX10_isTransaction_50 : decode cX10_isTransaction 50 = .ok (.goto 4, 3) := by decide +kernel
theorem dX10_isTransaction_53 : decode cX10_isTransaction 53 = .ok (.iconst 0, 1) := by decide +kernel
theorem dX10_isTransaction_54 : decode cX10_isTransaction 54 = .ok (.istore_n 3, 1) := by decide +kernel
theorem dX10_isTransaction_55 : decode cX10_isTransaction 55 = .ok (.iconst 1, 1) := by decide +kernel
theorem dX10_isTransaction_56 : decode cX10_isTransaction 56 = .ok (.istore 4, 2) := by decide +kernel
theorem dX10_isTransaction_58 : decode cX10_isTransaction 58 = .ok (.iload 4, 2) := by decide +kernel
theorem dX10_isTransaction_60 : decode cX10_isTransaction 60 = .ok (.iload_n 2, 1) := by decide +kernel
theorem dX10_isTransaction_61 : decode cX10_isTransaction 61 = .ok (.if_icmp .ge 32, 3) := by decide +kernel
theorem dX10_isTransaction_64 : decode cX10_isTransaction 64 = .ok (.iload_n 3, 1) := by decide +kernel
theorem dX10_isTransaction_65 : decode cX10_isTransaction 65 = .ok (.ifCond .eq 28, 3) := by decide +kernel
theorem dX10_isTransaction_68 : decode cX10_isTransaction 68 = .ok (.aload_n 0, 1) := by decide +kernel
theorem dX10_isTransaction_69 : decode cX10_isTransaction 69 = .ok (.getfield 13, 3) := by decide +kernel
theorem dX10_isTransaction_72 : decode cX10_isTransaction 72 = .ok (.iload 4, 2) := by decide +kernel
theorem dX10_isTransaction_74 : decode cX10_isTransaction 74 = .ok (.iaload, 1) := by decide +kernel
theorem dX10_isTransaction_75 : decode cX10_isTransaction 75 = .ok (.sipush 128, 3) := by decide +kernel
theorem dX10_isTransaction_78 : decode cX10_isTransaction 78 = .ok (.if_icmp .ge 7, 3) := by decide +kernel
theorem dX10_isTransaction_81 : decode cX10_isTransaction 81 = .ok (.iconst 1, 1) := by decide +kernel
theorem dX10_isTransaction_82 : decode cX10_isTransaction 82 = .ok (.goto 4, 3) := by decide +kernel
theorem dX10_isTransaction_85 : decode cX10_isTransaction 85 = .ok (.iconst 0, 1) := by decide +kernel
theorem dX10_isTransaction_86 : decode cX10_isTransaction 86 = .ok (.istore_n 3, 1) := by decide +kernel
theorem dX10_isTransaction_87 : decode cX10_isTransaction 87 = .ok (.iinc 4 4, 3) := by decide +kernel
theorem dX10_isTransaction_90 : decode cX10_isTransaction 90 = .ok (.goto (-32), 3) := by decide +kernel
theorem dX10_isTransaction_93 : decode cX10_isTransaction 93 = .ok (.iload_n 3, 1) := by decide +kernel
theorem dX10_isTransaction_94 : decode cX10_isTransaction 94 = .ok (.ifCond .eq 15, 3) := by decide +kernel
theorem dX10_isTransaction_97 : decode cX10_isTransaction 97 = .ok (.aload_n 0, 1) := by decide +kernel
theorem dX10_isTransaction_98 : decode cX10_isTransaction 98 = .ok (.getfield 13, 3) := by decide +kernel
theorem dX10_isTransaction_101 : decode cX10_isTransaction 101 = .ok (.iload_n 2, 1) := by decide +kernel
theorem dX10_isTransaction_102 : decode cX10_isTransaction 102 = .ok (.iaload, 1) := by decide +kernel
theorem dX10_isTransaction_103 : decode cX10_isTransaction 103 = .ok (.invokestatic 207, 3) := by decide +kernel
theorem dX10_isTransaction_106 : decode cX10_isTransaction 106 = .ok (.ifCond .ne 5, 3) := by decide +kernel
theorem dX10_isTransaction_109 : decode cX10_isTransaction 109 = .ok (.iconst 0, 1) := by decide +kernel
theorem dX10_isTransaction_110 : decode cX10_isTransaction 110 = .ok (.ireturn, 1) := by decide +kernel
theorem dX10_isTransaction_111 : decode cX10_isTransaction 111 = .ok (.iload_n 2, 1) := by decide +kernel
theorem dX10_isTransaction_112 : decode cX10_isTransaction 112 = .ok (.iconst 1, 1) := by decide +kernel
theorem dX10_isTransaction_113 : decode cX10_isTransaction 113 = .ok (.iadd, 1) := by decide +kernel
theorem dX10_isTransaction_114 : decode cX10_isTransaction 114 = .ok (.iconst 5, 1) := by decide +kernel
theorem dX10_isTransaction_115 : decode cX10_isTransaction 115 = .ok (.aload_n 0, 1) := by decide +kernel
theorem dX10_isTransaction_116 : decode cX10_isTransaction 116 = .ok (.getfield 13, 3) := by decide +kernel
theorem dX10_isTransaction_119 : decode cX10_isTransaction 119 = .ok (.iload_n 2, 1) := by decide +kernel
theorem dX10_isTransaction_120 : decode cX10_isTransaction 120 = .ok (.iaload, 1) := by decide +kernel
theorem dX10_isTransaction_121 : decode cX10_isTransaction 121 = .ok (.imul, 1) := by decide +kernel
theorem dX10_isTransaction_122 : decode cX10_isTransaction 122 = .ok (.iadd, 1) := by decide +kernel
theorem dX10_isTransaction_123 : decode cX10_isTransaction 123 = .ok (.istore 4, 2) := by decide +kernel
theorem dX10_isTransaction_125 : decode cX10_isTransaction 125 = .ok (.iload 4, 2) := by decide +kernel
theorem dX10_isTransaction_127 : decode cX10_isTransaction 127 = .ok (.iload_n 1, 1) := by decide +kernel
theorem dX10_isTransaction_128 : decode cX10_isTransaction 128 = .ok (.if_icmp .ge 7, 3) := by decide +kernel
theorem dX10_isTransaction_131 : decode cX10_isTransaction 131 = .ok (.iconst 1, 1) := by decide +kernel
theorem dX10_isTransaction_132 : decode cX10_isTransaction 132 = .ok (.goto 4, 3) := by decide +kernel
theorem dX10_isTransaction_135 : decode cX10_isTransaction 135 = .ok (.iconst 0, 1) := by decide +kernel
theorem dX10_isTransaction_136 : decode cX10_isTransaction 136 = .ok (.istore_n 3, 1) := by decide +kernel
theorem dX10_isTransaction_137 : decode cX10_isTransaction 137 = .ok (.iload_n 2, 1) := by decide +kernel
theorem dX10_isTransaction_138 : decode cX10_isTransaction 138 = .ok (.iconst 1, 1) := by decide +kernel
theorem dX10_isTransaction_139 : decode cX10_isTransaction 139 = .ok (.iadd, 1) := by decide +kernel
theorem dX10_isTransaction_140 : decode cX10_isTransaction 140 = .ok (.istore 5, 2) := by decide +kernel
theorem dX10_isTransaction_142 : decode cX10_isTransaction 142 = .ok (.iload 5, 2) := by decide +kernel
theorem dX10_isTransaction_144 : decode cX10_isTransaction 144 = .ok (.iload 4, 2) := by decide +kernel
theorem dX10_isTransaction_146 : decode cX10_isTransaction 146 = .ok (.if_icmp .ge 32, 3) := by decide +kernel
theorem dX10_isTransaction_149 : decode cX10_isTransaction 149 = .ok (.iload_n 3, 1) := by decide +kernel
theorem dX10_isTransaction_150 : decode cX10_isTransaction 150 = .ok (.ifCond .eq 28, 3) := by decide +kernel
theorem dX10_isTransaction_153 : decode cX10_isTransaction 153 = .ok (.aload_n 0, 1) := by decide +kernel
theorem dX10_isTransaction_154 : decode cX10_isTransaction 154 = .ok (.getfield 13, 3) := by decide +kernel
theorem dX10_isTransaction_157 : decode cX10_isTransaction 157 = .ok (.iload 5, 2) := by decide +kernel
theorem dX10_isTransaction_159 : decode cX10_isTransaction 159 = .ok (.iaload, 1) := by decide +kernel
theorem dX10_isTransaction_160 : decode cX10_isTransaction 160 = .ok (.sipush 128, 3) := by decide +kernel
theorem dX10_isTransaction_163 : decode cX10_isTransaction 163 = .ok (.if_icmp .ge 7, 3) := by decide +kernel
theorem dX10_isTransaction_166 : decode cX10_isTransaction 166 = .ok (.iconst 1, 1) := by decide +kernel
theorem dX10_isTransaction_167 : decode cX10_isTransaction 167 = .ok (.goto 4, 3) := by decide +kernel
theorem dX10_isTransaction_170 : decode cX10_isTransaction 170 = .ok (.iconst 0, 1) := by decide +kernel
theorem dX10_isTransaction_171 : decode cX10_isTransaction 171 = .ok (.istore_n 3, 1) := by decide +kernel
theorem dX10_isTransaction_172 : decode cX10_isTransaction 172 = .ok (.iinc 5 5, 3) := by decide +kernel
theorem dX10_isTransaction_175 : decode cX10_isTransaction 175 = .ok (.goto (-33), 3) := by decide +kernel
theorem dX10_isTransaction_178 : decode cX10_isTransaction 178 = .ok (.iload_n 3, 1) := by decide +kernel
theorem dX10_isTransaction_179 : decode cX10_isTransaction 179 = .ok (.ifCond .eq 34, 3) := by decide +kernel
theorem dX10_isTransaction_182 : decode cX10_isTransaction 182 = .ok (.aload_n 0, 1) := by decide +kernel
theorem dX10_isTransaction_183 : decode cX10_isTransaction 183 = .ok (.getfield 13, 3) := by decide +kernel
theorem dX10_isTransaction_186 : decode cX10_isTransaction 186 = .ok (.iload 4, 2) := by decide +kernel
theorem dX10_isTransaction_188 : decode cX10_isTransaction 188 = .ok (.iaload, 1) := by decide +kernel
theorem dX10_isTransaction_189 : decode cX10_isTransaction 189 = .ok (.invokestatic 207, 3) := by decide +kernel
theorem dX10_isTransaction_192 : decode cX10_isTransaction 192 = .ok (.ifCond .eq 21, 3) := by decide +kernel
theorem dX10_isTransaction_195 : decode cX10_isTransaction 195 = .ok (.iload_n 1, 1) := by decide +kernel
theorem dX10_isTransaction_196 : decode cX10_isTransaction 196 = .ok (.iload 4, 2) := by decide +kernel
theorem dX10_isTransaction_198 : decode cX10_isTransaction 198 = .ok (.iconst 1, 1) := by decide +kernel
theorem dX10_isTransaction_199 : decode cX10_isTransaction 199 = .ok (.iadd, 1) := by decide +kernel
theorem dX10_isTransaction_200 : decode cX10_isTransaction 200 = .ok (.iconst 4, 1) := by decide +kernel
theorem dX10_isTransaction_201 : decode cX10_isTransaction 201 = .ok (.aload_n 0, 1) := by decide +kernel
theorem dX10_isTransaction_202 : decode cX10_isTransaction 202 = .ok (.getfield 13, 3) := by decide +kernel
theorem dX10_isTransaction_205 : decode cX10_isTransaction 205 = .ok (.iload 4, 2) := by decide +kernel
theorem dX10_isTransaction_207 : decode cX10_isTransaction 207 = .ok (.iaload, 1) := by decide +kernel
theorem dX10_isTransaction_208 : decode cX10_isTransaction 208 = .ok (.imul, 1) := by decide +kernel
theorem dX10_isTransaction_209 : decode cX10_isTransaction 209 = .ok (.iadd, 1) := by decide +kernel
theorem dX10_isTransaction_210 : decode cX10_isTransaction 210 = .ok (.if_icmp .eq 5, 3) := by decide +kernel
theorem dX10_isTransaction_213 : decode cX10_isTransaction 213 = .ok (.iconst 0, 1) := by decide +kernel
theorem dX10_isTransaction_214 : decode cX10_isTransaction 214 = .ok (.ireturn, 1) := by decide +kernel
theorem dX10_isTransaction_215 : decode cX10_isTransaction 215 = .ok (.iload 4, 2) := by decide +kernel
theorem dX10_isTransaction_217 : decode cX10_isTransaction 217 = .ok (.iconst 1, 1) := by decide +kernel
theorem dX10_isTransaction_218 : decode cX10_isTransaction 218 = .ok (.iadd, 1) := by decide +kernel
theorem dX10_isTransaction_219 : decode cX10_isTransaction 219 = .ok (.istore 5, 2) := by decide +kernel
theorem dX10_isTransaction_221 : decode cX10_isTransaction 221 = .ok (.iload 5, 2) := by decide +kernel
theorem dX10_isTransaction_223 : decode cX10_isTransaction 223 = .ok (.iload_n 1, 1) := by decide +kernel
theorem dX10_isTransaction_224 : decode cX10_isTransaction 224 = .ok (.if_icmp .ge 39, 3) := by decide +kernel
theorem dX10_isTransaction_227 : decode cX10_isTransaction 227 = .ok (.iload_n 3, 1) := by decide +kernel
theorem dX10_isTransaction_228 : decode cX10_isTransaction 228 = .ok (.ifCond .eq 27, 3) := by decide +kernel
theorem dX10_isTransaction_231 : decode cX10_isTransaction 231 = .ok (.aload_n 0, 1) := by decide +kernel
theorem dX10_isTransaction_232 : decode cX10_isTransaction 232 = .ok (.iload 5, 2) := by decide +kernel
theorem dX10_isTransaction_234 : decode cX10_isTransaction 234 = .ok (.invokevirtual 210, 3) := by decide +kernel
theorem dX10_isTransaction_237 : decode cX10_isTransaction 237 = .ok (.ifCond .le 18, 3) := by decide +kernel
theorem dX10_isTransaction_240 : decode cX10_isTransaction 240 = .ok (.aload_n 0, 1) := by decide +kernel
theorem dX10_isTransaction_241 : decode cX10_isTransaction 241 = .ok (.iload 5, 2) := by decide +kernel
theorem dX10_isTransaction_243 : decode cX10_isTransaction 243 = .ok (.invokevirtual 210, 3) := by decide +kernel
theorem dX10_isTransaction_246 : decode cX10_isTransaction 246 = .ok (.ldc 213, 2) := by decide +kernel
theorem dX10_isTransaction_248 : decode cX10_isTransaction 248 = .ok (.if_icmp .gt 7, 3) := by decide +kernel
theorem dX10_isTransaction_251 : decode cX10_isTransaction 251 = .ok (.iconst 1, 1) := by decide +kernel
theorem dX10_isTransaction_252 : decode cX10_isTransaction 252 = .ok (.goto 4, 3) := by decide +kernel
theorem dX10_isTransaction_255 : decode cX10_isTransaction 255 = .ok (.iconst 0, 1) := by decide +kernel
theorem dX10_isTransaction_256 : decode cX10_isTransaction 256 = .ok (.istore_n 3, 1) := by decide +kernel
theorem dX10_isTransaction_257 : decode cX10_isTransaction 257 = .ok (.iinc 5 4, 3) := by decide +kernel
theorem dX10_isTransaction_260 : decode cX10_isTransaction 260 = .ok (.goto (-39), 3) := by decide +kernel
theorem dX10_isTransaction_263 : decode cX10_isTransaction 263 = .ok (.iload_n 3, 1) := by decide +kernel
theorem dX10_isTransaction_264 : decode cX10_isTransaction 264 = .ok (.ireturn, 1) := by decide +kernel
theorem dX10_take_0 : decode cX10_take 0 = .ok (.aload_n 0, 1) := by decide +kernel
theorem dX10_take_1 : decode cX10_take 1 = .ok (.iload_n 1, 1) := by decide +kernel
theorem dX10_take_2 : decode cX10_take 2 = .ok (.invokevirtual 214, 3) := by decide +kernel
theorem dX10_take_5 : decode cX10_take 5 = .ok (.istore_n 2, 1) := by decide +kernel
theorem dX10_take_6 : decode cX10_take 6 = .ok (.aload_n 0, 1) := by decide +kernel
theorem dX10_take_7 : decode cX10_take 7 = .ok (.iconst 0, 1) := by decide +kernel
theorem dX10_take_8 : decode cX10_take 8 = .ok (.putfield 173, 3) := by decide +kernel
theorem dX10_take_11 : decode cX10_take 11 = .ok (.aload_n 0, 1) := by decide +kernel
theorem dX10_take_12 : decode cX10_take 12 = .ok (.iload_n 2, 1) := by decide +kernel
theorem dX10_take_13 : decode cX10_take 13 = .ok (.ifCond .eq 7, 3) := by decide +kernel
theorem dX10_take_16 : decode cX10_take 16 = .ok (.iconst 0, 1) := by decide +kernel
theorem dX10_take_17 : decode cX10_take 17 = .ok (.goto 4, 3) := by decide +kernel
theorem dX10_take_20 : decode cX10_take 20 = .ok (.iconst 1, 1) := by decide +kernel
theorem dX10_take_21 : decode cX10_take 21 = .ok (.putfield 145, 3) := by decide +kernel
theorem dX10_take_24 : decode cX10_take 24 = .ok (.iload_n 2, 1) := by decide +kernel
theorem dX10_take_25 : decode cX10_take 25 = .ok (.ifCond .ne 5, 3) := by decide +kernel
theorem dX10_take_28 : decode cX10_take 28 = .ok (.iconst 0, 1) := by decide +kernel
theorem dX10_take_29 : decode cX10_take 29 = .ok (.ireturn, 1) := by decide +kernel
theorem dX10_take_30 : decode cX10_take 30 = .ok (.aload_n 0, 1) := by decide +kernel
theorem dX10_take_31 : decode cX10_take 31 = .ok (.iload_n 1, 1) := by decide +kernel
theorem dX10_take_32 : decode cX10_take 32 = .ok (.invokevirtual 217, 3) := by decide +kernel
theorem dX10_take_35 : decode cX10_take 35 = .ok (.ldc 220, 2) := by decide +kernel
theorem dX10_take_37 : decode cX10_take 37 = .ok (.iand, 1) := by decide +kernel
theorem dX10_take_38 : decode cX10_take 38 = .ok (.istore_n 3, 1) := by decide +kernel
theorem dX10_take_39 : decode cX10_take 39 = .ok (.aload_n 0, 1) := by decide +kernel
theorem dX10_take_40 : decode cX10_take 40 = .ok (.aload_n 0, 1) := by decide +kernel
theorem dX10_take_41 : decode cX10_take 41 = .ok (.iload_n 3, 1) := by decide +kernel
theorem dX10_take_42 : decode cX10_take 42 = .ok (.invokevirtual 198, 3) := by decide +kernel
theorem dX10_take_45 : decode cX10_take 45 = .ok (.ifCond .ge 13, 3) := by decide +kernel
theorem dX10_take_48 : decode cX10_take 48 = .ok (.aload_n 0, 1) := by decide +kernel
theorem dX10_take_49 : decode cX10_take 49 = .ok (.getfield 16, 3) := by decide +kernel
theorem dX10_take_52 : decode cX10_take 52 = .ok (.sipush 140, 3) := by decide +kernel
theorem dX10_take_55 : decode cX10_take 55 = .ok (.if_icmp .ne 7, 3) := by decide +kernel
theorem dX10_take_58 : decode cX10_take 58 = .ok (.iconst 2, 1) := by decide +kernel
theorem dX10_take_59 : decode cX10_take 59 = .ok (.goto 4, 3) := by decide +kernel
theorem dX10_take_62 : decode cX10_take 62 = .ok (.iconst 0, 1) := by decide +kernel
theorem dX10_take_63 : decode cX10_take 63 = .ok (.putfield 145, 3) := by decide +kernel
theorem dX10_take_66 : decode cX10_take 66 = .ok (.aload_n 0, 1) := by decide +kernel
theorem dX10_take_67 : decode cX10_take 67 = .ok (.getfield 145, 3) := by decide +kernel
theorem dX10_take_70 : decode cX10_take 70 = .ok (.ifCond .le 5, 3) := by decide +kernel
theorem dX10_take_73 : decode cX10_take 73 = .ok (.iconst 0, 1) := by decide +kernel
theorem dX10_take_74 : decode cX10_take 74 = .ok (.ireturn, 1) := by decide +kernel
theorem dX10_take_75 : decode cX10_take 75 = .ok (.aload_n 0, 1) := by decide +kernel
theorem dX10_take_76 : decode cX10_take 76 = .ok (.getfield 16, 3) := by decide +kernel
theorem dX10_take_79 : decode cX10_take 79 = .ok (.istore 4, 2) := by decide +kernel
theorem dX10_take_81 : decode cX10_take 81 = .ok (.aload_n 0, 1) := by decide +kernel
theorem dX10_take_82 : decode cX10_take 82 = .ok (.dup, 1) := by decide +kernel
theorem dX10_take_83 : decode cX10_take 83 = .ok (.getfield 16, 3) := by decide +kernel
theorem dX10_take_86 : decode cX10_take 86 = .ok (.iconst 1, 1) := by decide +kernel
theorem dX10_take_87 : decode cX10_take 87 = .ok (.iadd, 1) := by decide +kernel
theorem dX10_take_88 : decode cX10_take 88 = .ok (.putfield 16, 3) := by decide +kernel
theorem dX10_take_91 : decode cX10_take 91 = .ok (.aload_n 0, 1) := by decide +kernel
theorem dX10_take_92 : decode cX10_take 92 = .ok (.getfield 20, 3) := by decide +kernel
theorem dX10_take_95 : decode cX10_take 95 = .ok (.iload 4, 2) := by decide +kernel
theorem dX10_take_97 : decode cX10_take 97 = .ok (.iload_n 3, 1) := by decide +kernel
theorem dX10_take_98 : decode cX10_take 98 = .ok (.iastore, 1) := by decide +kernel
theorem dX10_take_99 : decode cX10_take 99 = .ok (.aload_n 0, 1) := by decide +kernel
theorem dX10_take_100 : decode cX10_take 100 = .ok (.getfield 27, 3) := by decide +kernel
theorem dX10_take_103 : decode cX10_take 103 = .ok (.iload 4, 2) := by decide +kernel
theorem dX10_take_105 : decode cX10_take 105 = .ok (.iload_n 1, 1) := by decide +kernel
theorem dX10_take_106 : decode cX10_take 106 = .ok (.iastore, 1) := by decide +kernel
theorem dX10_take_107 : decode cX10_take 107 = .ok (.iconst 0, 1) := by decide +kernel
theorem dX10_take_108 : decode cX10_take 108 = .ok (.istore 5, 2) := by decide +kernel
theorem dX10_take_110 : decode cX10_take 110 = .ok (.iload 5, 2) := by decide +kernel
theorem dX10_take_112 : decode cX10_take 112 = .ok (.iload_n 1, 1) := by decide +kernel
theorem dX10_take_113 : decode cX10_take 113 = .ok (.if_icmp .ge 30, 3) := by decide +kernel
theorem dX10_take_116 : decode cX10_take 116 = .ok (.aload_n 0, 1) := by decide +kernel
theorem dX10_take_117 : decode cX10_take 117 = .ok (.getfield 23, 3) := by decide +kernel
theorem dX10_take_120 : decode cX10_take 120 = .ok (.bipush 56, 2) := by decide +kernel
theorem dX10_take_122 : decode cX10_take 122 = .ok (.iload 4, 2) := by decide +kernel
theorem dX10_take_124 : decode cX10_take 124 = .ok (.imul, 1) := by decide +kernel
theorem dX10_take_125 : decode cX10_take 125 = .ok (.iload 5, 2) := by decide +kernel
theorem dX10_take_127 : decode cX10_take 127 = .ok (.iadd, 1) := by decide +kernel
theorem dX10_take_128 : decode cX10_take 128 = .ok (.aload_n 0, 1) := by decide +kernel
theorem dX10_take_129 : decode cX10_take 129 = .ok (.getfield 13, 3) := by decide +kernel
theorem dX10_take_132 : decode cX10_take 132 = .ok (.iload 5, 2) := by decide +kernel
theorem dX10_take_134 : decode cX10_take 134 = .ok (.iaload, 1) := by decide +kernel
theorem dX10_take_135 : decode cX10_take 135 = .ok (.i2b, 1) := by decide +kernel
theorem dX10_take_136 : decode cX10_take 136 = .ok (.bastore, 1) := by decide +kernel
theorem dX10_take_137 : decode cX10_take 137 = .ok (.iinc 5 1, 3) := by decide +kernel
theorem dX10_take_140 : decode cX10_take 140 = .ok (.goto (-30), 3) := by decide +kernel
theorem dX10_take_143 : decode cX10_take 143 = .ok (.aload_n 0, 1) := by decide +kernel
theorem dX10_take_144 : decode cX10_take 144 = .ok (.getfield 30, 3) := by decide +kernel
theorem dX10_take_147 : decode cX10_take 147 = .ok (.iload 4, 2) := by decide +kernel
theorem dX10_take_149 : decode cX10_take 149 = .ok (.iconst 1, 1) := by decide +kernel
theorem dX10_take_150 : decode cX10_take 150 = .ok (.iastore, 1) := by decide +kernel
theorem dX10_take_151 : decode cX10_take 151 = .ok (.aload_n 0, 1) := by decide +kernel
theorem dX10_take_152 : decode cX10_take 152 = .ok (.iload 4, 2) := by decide +kernel
theorem dX10_take_154 : decode cX10_take 154 = .ok (.invokevirtual 221, 3) := by decide +kernel
theorem dX10_take_157 : decode cX10_take 157 = .ok (.aload_n 0, 1) := by decide +kernel
theorem dX10_take_158 : decode cX10_take 158 = .ok (.getfield 30, 3) := by decide +kernel
theorem dX10_take_161 : decode cX10_take 161 = .ok (.iload 4, 2) := by decide +kernel
theorem dX10_take_163 : decode cX10_take 163 = .ok (.iaload, 1) := by decide +kernel
theorem dX10_take_164 : decode cX10_take 164 = .ok (.iconst 1, 1) := by decide +kernel
theorem dX10_take_165 : decode cX10_take 165 = .ok (.if_icmp .eq 7, 3) := by decide +kernel
theorem dX10_take_168 : decode cX10_take 168 = .ok (.iconst 1, 1) := by decide +kernel
theorem dX10_take_169 : decode cX10_take 169 = .ok (.goto 4, 3) := by decide +kernel
theorem dX10_take_172 : decode cX10_take 172 = .ok (.iconst 0, 1) := by decide +kernel
theorem dX10_take_173 : decode cX10_take 173 = .ok (.istore 5, 2) := by decide +kernel
theorem dX10_take_175 : decode cX10_take 175 = .ok (.iload 5, 2) := by decide +kernel
theorem dX10_take_177 : decode cX10_take 177 = .ok (.ifCond .eq 67, 3) := by decide +kernel
theorem dX10_take_180 : decode cX10_take 180 = .ok (.iconst 0, 1) := by decide +kernel
theorem dX10_take_181 : decode cX10_take 181 = .ok (.istore 5, 2) := by decide +kernel
theorem dX10_take_183 : decode cX10_take 183 = .ok (.iconst 1, 1) := by decide +kernel
theorem dX10_take_184 : decode cX10_take 184 = .ok (.istore 6, 2) := by decide +kernel
theorem dX10_take_186 : decode cX10_take 186 = .ok (.iload 6, 2) := by decide +kernel
theorem dX10_take_188 : decode cX10_take 188 = .ok (.aload_n 0, 1) := by decide +kernel
theorem dX10_take_189 : decode cX10_take 189 = .ok (.getfield 16, 3) := by decide +kernel
theorem dX10_take_192 : decode cX10_take 192 = .ok (.if_icmp .ge 49, 3) := by decide +kernel
theorem dX10_take_195 : decode cX10_take 195 = .ok (.iload 5, 2) := by decide +kernel
theorem dX10_take_197 : decode cX10_take 197 = .ok (.ifCond .ne 44, 3) := by decide +kernel
theorem dX10_take_200 : decode cX10_take 200 = .ok (.aload_n 0, 1) := by decide +kernel
theorem dX10_take_201 : decode cX10_take 201 = .ok (.getfield 30, 3) := by decide +kernel
theorem dX10_take_204 : decode cX10_take 204 = .ok (.iload 6, 2) := by decide +kernel
theorem dX10_take_206 : decode cX10_take 206 = .ok (.iaload, 1) := by decide +kernel
theorem dX10_take_207 : decode cX10_take 207 = .ok (.iconst 1, 1) := by decide +kernel
theorem dX10_take_208 : decode cX10_take 208 = .ok (.if_icmp .ne 27, 3) := by decide +kernel
theorem dX10_take_211 : decode cX10_take 211 = .ok (.aload_n 0, 1) := by decide +kernel
theorem dX10_take_212 : decode cX10_take 212 = .ok (.iload 6, 2) := by decide +kernel
theorem dX10_take_214 : decode cX10_take 214 = .ok (.invokevirtual 221, 3) := by decide +kernel
theorem dX10_take_217 : decode cX10_take 217 = .ok (.aload_n 0, 1) := by decide +kernel
theorem dX10_take_218 : decode cX10_take 218 = .ok (.getfield 30, 3) := by decide +kernel
theorem dX10_take_221 : decode cX10_take 221 = .ok (.iload 6, 2) := by decide +kernel
theorem dX10_take_223 : decode cX10_take 223 = .ok (.iaload, 1) := by decide +kernel
theorem dX10_take_224 : decode cX10_take 224 = .ok (.iconst 1, 1) := by decide +kernel
theorem dX10_take_225 : decode cX10_take 225 = .ok (.if_icmp .eq 7, 3) := by decide +kernel
theorem dX10_take_228 : decode cX10_take 228 = .ok (.iconst 1, 1) := by decide +kernel
theorem dX10_take_229 : decode cX10_take 229 = .ok (.goto 4, 3) := by decide +kernel
theorem dX10_take_232 : decode cX10_take 232 = .ok (.iconst 0, 1) := by decide +kernel
theorem dX10_take_233 : decode cX10_take 233 = .ok (.istore 5, 2) := by decide +kernel
theorem dX10_take_235 : decode cX10_take 235 = .ok (.iinc 6 1, 3) := by decide +kernel
theorem dX10_take_238 : decode cX10_take 238 = .ok (.goto (-52), 3) := by decide +kernel
theorem dX10_take_241 : decode cX10_take 241 = .ok (.goto (-66), 3) := by decide +kernel
theorem dX10_take_244 : decode cX10_take 244 = .ok (.iload_n 3, 1) := by decide +kernel
theorem dX10_take_245 : decode cX10_take 245 = .ok (.ireturn, 1) := by decide +kernel
theorem dX10_lookAt_0 : decode cX10_lookAt 0 = .ok (.iconst 0, 1) := by decide +kernel
theorem dX10_lookAt_1 : decode cX10_lookAt 1 = .ok (.istore_n 2, 1) := by decide +kernel
theorem dX10_lookAt_2 : decode cX10_lookAt 2 = .ok (.iconst 0, 1) := by decide +kernel
theorem dX10_lookAt_3 : decode cX10_lookAt 3 = .ok (.istore_n 3, 1) := by decide +kernel
theorem dX10_lookAt_4 : decode cX10_lookAt 4 = .ok (.iload_n 3, 1) := by decide +kernel
theorem dX10_lookAt_5 : decode cX10_lookAt 5 = .ok (.aload_n 0, 1) := by decide +kernel
theorem dX10_lookAt_6 : decode cX10_lookAt 6 = .ok (.iload_n 1, 1) := by decide +kernel
theorem dX10_lookAt_7 : decode cX10_lookAt 7 = .ok (.invokevirtual 182, 3) := by decide +kernel
theorem dX10_lookAt_10 : decode cX10_lookAt 10 = .ok (.if_icmp .ge 71, 3) := by decide +kernel
theorem dX10_lookAt_13 : decode cX10_lookAt 13 = .ok (.aload_n 0, 1) := by decide +kernel
theorem dX10_lookAt_14 : decode cX10_lookAt 14 = .ok (.aload_n 0, 1) := by decide +kernel
theorem dX10_lookAt_15 : decode cX10_lookAt 15 = .ok (.iload_n 1, 1) := by decide +kernel
theorem dX10_lookAt_16 : decode cX10_lookAt 16 = .ok (.iload_n 3, 1) := by decide +kernel
theorem dX10_lookAt_17 : decode cX10_lookAt 17 = .ok (.invokevirtual 224, 3) := by decide +kernel
theorem dX10_lookAt_20 : decode cX10_lookAt 20 = .ok (.invokevirtual 198, 3) := by decide +kernel
theorem dX10_lookAt_23 : decode cX10_lookAt 23 = .ok (.istore 4, 2) := by decide +kernel
theorem dX10_lookAt_25 : decode cX10_lookAt 25 = .ok (.iload 4, 2) := by decide +kernel
theorem dX10_lookAt_27 : decode cX10_lookAt 27 = .ok (.ifCond .lt 22, 3) := by decide +kernel
theorem dX10_lookAt_30 : decode cX10_lookAt 30 = .ok (.aload_n 0, 1) := by decide +kernel
theorem dX10_lookAt_31 : decode cX10_lookAt 31 = .ok (.getfield 30, 3) := by decide +kernel
theorem dX10_lookAt_34 : decode cX10_lookAt 34 = .ok (.iload 4, 2) := by decide +kernel
theorem dX10_lookAt_36 : decode cX10_lookAt 36 = .ok (.iaload, 1) := by decide +kernel
theorem dX10_lookAt_37 : decode cX10_lookAt 37 = .ok (.iconst 5, 1) := by decide +kernel
theorem dX10_lookAt_38 : decode cX10_lookAt 38 = .ok (.if_icmp .ne 11, 3) := by decide +kernel
theorem dX10_lookAt_41 : decode cX10_lookAt 41 = .ok (.aload_n 0, 1) := by decide +kernel
theorem dX10_lookAt_42 : decode cX10_lookAt 42 = .ok (.getfield 30, 3) := by decide +kernel
theorem dX10_lookAt_45 : decode cX10_lookAt 45 = .ok (.iload_n 1, 1) := by decide +kernel
theorem dX10_lookAt_46 : decode cX10_lookAt 46 = .ok (.iconst 5, 1) := by decide +kernel
theorem dX10_lookAt_47 : decode cX10_lookAt 47 = .ok (.iastore, 1) := by decide +kernel
theorem dX10_lookAt_48 : decode cX10_lookAt 48 = .ok (.return_, 1) := by decide +kernel
theorem dX10_lookAt_49 : decode cX10_lookAt 49 = .ok (.iload_n 2, 1) := by decide +kernel
theorem dX10_lookAt_50 : decode cX10_lookAt 50 = .ok (.ifCond .ne 19, 3) := by decide +kernel
theorem dX10_lookAt_53 : decode cX10_lookAt 53 = .ok (.iload 4, 2) := by decide +kernel
theorem dX10_lookAt_55 : decode cX10_lookAt 55 = .ok (.ifCond .lt 14, 3) := by decide +kernel
theorem dX10_lookAt_58 : decode cX10_lookAt 58 = .ok (.aload_n 0, 1) := by decide +kernel
theorem dX10_lookAt_59 : decode cX10_lookAt 59 = .ok (.getfield 30, 3) := by decide +kernel
theorem dX10_lookAt_62 : decode cX10_lookAt 62 = .ok (.iload 4, 2) := by decide +kernel
theorem dX10_lookAt_64 : decode cX10_lookAt 64 = .ok (.iaload, 1) := by decide +kernel
theorem dX10_lookAt_65 : decode cX10_lookAt 65 = .ok (.iconst 1, 1) := by decide +kernel
theorem dX10_lookAt_66 : decode cX10_lookAt 66 = .ok (.if_icmp .ne 7, 3) := by decide +kernel
theorem dX10_lookAt_69 : decode cX10_lookAt 69 = .ok (.iconst 1, 1) := by decide +kernel
theorem dX10_lookAt_70 : decode cX10_lookAt 70 = .ok (.goto 4, 3) := by decide +kernel
theorem dX10_lookAt_73 : decode cX10_lookAt 73 = .ok (.iconst 0, 1) := by decide +kernel
theorem dX10_lookAt_74 : decode cX10_lookAt 74 = .ok (.istore_n 2, 1) := by decide +kernel
theorem dX10_lookAt_75 : decode cX10_lookAt 75 = .ok (.iinc 3 1, 3) := by decide +kernel
theorem dX10_lookAt_78 : decode cX10_lookAt 78 = .ok (.goto (-74), 3) := by decide +kernel
theorem dX10_lookAt_81 : decode cX10_lookAt 81 = .ok (.iload_n 2, 1) := by decide +kernel
theorem dX10_lookAt_82 : decode cX10_lookAt 82 = .ok (.ifCond .eq 4, 3) := by decide +kernel
theorem dX10_lookAt_85 : decode cX10_lookAt 85 = .ok (.return_, 1) := by decide +kernel
theorem dX10_lookAt_86 : decode cX10_lookAt 86 = .ok (.aload_n 0, 1) := by decide +kernel
theorem dX10_lookAt_87 : decode cX10_lookAt 87 = .ok (.iload_n 1, 1) := by decide +kernel
theorem dX10_lookAt_88 : decode cX10_lookAt 88 = .ok (.invokevirtual 227, 3) := by decide +kernel
theorem dX10_lookAt_91 : decode cX10_lookAt 91 = .ok (.ifCond .eq 13, 3) := by decide +kernel
theorem dX10_lookAt_94 : decode cX10_lookAt 94 = .ok (.aload_n 0, 1) := by decide +kernel
theorem dX10_lookAt_95 : decode cX10_lookAt 95 = .ok (.getfield 30, 3) := by decide +kernel
theorem dX10_lookAt_98 : decode cX10_lookAt 98 = .ok (.iload_n 1, 1) := by decide +kernel
theorem dX10_lookAt_99 : decode cX10_lookAt 99 = .ok (.iconst 5, 1) := by decide +kernel
theorem dX10_lookAt_100 : decode cX10_lookAt 100 = .ok (.iastore, 1) := by decide +kernel
theorem dX10_lookAt_101 : decode cX10_lookAt 101 = .ok (.goto 8, 3) := by decide +kernel
theorem dX10_lookAt_104 : decode cX10_lookAt 104 = .ok (.aload_n 0, 1) := by decide +kernel
theorem dX10_lookAt_105 : decode cX10_lookAt 105 = .ok (.iload_n 1, 1) := by decide +kernel
theorem dX10_lookAt_106 : decode cX10_lookAt 106 = .ok (.invokevirtual 230, 3) := by decide +kernel
theorem dX10_lookAt_109 : decode cX10_lookAt 109 = .ok (.return_, 1) := by decide +kernel
theorem dX10_clearMarks_0 : decode cX10_clearMarks 0 = .ok (.iconst 0, 1) := by decide +kernel
theorem dX10_clearMarks_1 : decode cX10_clearMarks 1 = .ok (.istore_n 1, 1) := by decide +kernel
theorem dX10_clearMarks_2 : decode cX10_clearMarks 2 = .ok (.iload_n 1, 1) := by decide +kernel
theorem dX10_clearMarks_3 : decode cX10_clearMarks 3 = .ok (.sipush 140, 3) := by decide +kernel
theorem dX10_clearMarks_6 : decode cX10_clearMarks 6 = .ok (.if_icmp .ge 16, 3) := by decide +kernel
theorem dX10_clearMarks_9 : decode cX10_clearMarks 9 = .ok (.aload_n 0, 1) := by decide +kernel
theorem dX10_clearMarks_10 : decode cX10_clearMarks 10 = .ok (.getfield 52, 3) := by decide +kernel
theorem dX10_clearMarks_13 : decode cX10_clearMarks 13 = .ok (.iload_n 1, 1) := by decide +kernel
theorem dX10_clearMarks_14 : decode cX10_clearMarks 14 = .ok (.iconst 0, 1) := by decide +kernel
theorem dX10_clearMarks_15 : decode cX10_clearMarks 15 = .ok (.bastore, 1) := by decide +kernel
theorem dX10_clearMarks_16 : decode cX10_clearMarks 16 = .ok (.iinc 1 1, 3) := by decide +kernel
theorem dX10_clearMarks_19 : decode cX10_clearMarks 19 = .ok (.goto (-17), 3) := by decide +kernel
theorem dX10_clearMarks_22 : decode cX10_clearMarks 22 = .ok (.return_, 1) := by decide +kernel
theorem dX10_markParents_0 : decode cX10_markParents 0 = .ok (.iconst 0, 1) := by decide +kernel
theorem dX10_markParents_1 : decode cX10_markParents 1 = .ok (.istore_n 2, 1) := by decide +kernel
theorem dX10_markParents_2 : decode cX10_markParents 2 = .ok (.iload_n 2, 1) := by decide +kernel
theorem dX10_markParents_3 : decode cX10_markParents 3 = .ok (.aload_n 0, 1) := by decide +kernel
theorem dX10_markParents_4 : decode cX10_markParents 4 = .ok (.iload_n 1, 1) := by decide +kernel
theorem dX10_markParents_5 : decode cX10_markParents 5 = .ok (.invokevirtual 182, 3) := by decide +kernel
theorem dX10_markParents_8 : decode cX10_markParents 8 = .ok (.if_icmp .ge 25, 3) := by decide +kernel
theorem dX10_markParents_11 : decode cX10_markParents 11 = .ok (.aload_n 0, 1) := by decide +kernel
theorem dX10_markParents_12 : decode cX10_markParents 12 = .ok (.getfield 52, 3) := by decide +kernel
theorem dX10_markParents_15 : decode cX10_markParents 15 = .ok (.aload_n 0, 1) := by decide +kernel
theorem dX10_markParents_16 : decode cX10_markParents 16 = .ok (.aload_n 0, 1) := by decide +kernel
theorem dX10_markParents_17 : decode cX10_markParents 17 = .ok (.iload_n 1, 1) := by decide +kernel
theorem dX10_markParents_18 : decode cX10_markParents 18 = .ok (.iload_n 2, 1) := by decide +kernel
theorem dX10_markParents_19 : decode cX10_markParents 19 = .ok (.invokevirtual 224, 3) := by decide +kernel
theorem dX10_markParents_22 : decode cX10_markParents 22 = .ok (.invokevirtual 198, 3) := by decide +kernel
theorem dX10_markParents_25 : decode cX10_markParents 25 = .ok (.iconst 1, 1) := by decide +kernel
theorem dX10_markParents_26 : decode cX10_markParents 26 = .ok (.bastore, 1) := by decide +kernel
theorem dX10_markParents_27 : decode cX10_markParents 27 = .ok (.iinc 2 1, 3) := by decide +kernel
theorem dX10_markParents_30 : decode cX10_markParents 30 = .ok (.goto (-28), 3) := by decide +kernel
theorem dX10_markParents_33 : decode cX10_markParents 33 = .ok (.return_, 1) := by decide +kernel
theorem dX10_markAncestors_0 : decode cX10_markAncestors 0 = .ok (.aload_n 0, 1) := by decide +kernel
theorem dX10_markAncestors_1 : decode cX10_markAncestors 1 = .ok (.invokevirtual 233, 3) := by decide +kernel
theorem dX10_markAncestors_4 : decode cX10_markAncestors 4 = .ok (.aload_n 0, 1) := by decide +kernel
theorem dX10_markAncestors_5 : decode cX10_markAncestors 5 = .ok (.iload_n 1, 1) := by decide +kernel
theorem dX10_markAncestors_6 : decode cX10_markAncestors 6 = .ok (.invokevirtual 236, 3) := by decide +kernel
theorem dX10_markAncestors_9 : decode cX10_markAncestors 9 = .ok (.aload_n 0, 1) := by decide +kernel
theorem dX10_markAncestors_10 : decode cX10_markAncestors 10 = .ok (.getfield 43, 3) := by decide +kernel
theorem dX10_markAncestors_13 : decode cX10_markAncestors 13 = .ok (.iconst 1, 1) := by decide +kernel
theorem dX10_markAncestors_14 : decode cX10_markAncestors 14 = .ok (.isub, 1) := by decide +kernel
theorem dX10_markAncestors_15 : decode cX10_markAncestors 15 = .ok (.istore_n 2, 1) := by decide +kernel
theorem dX10_markAncestors_16 : decode cX10_markAncestors 16 = .ok (.iload_n 2, 1) := by decide +kernel
theorem dX10_markAncestors_17 : decode cX10_markAncestors 17 = .ok (.ifCond .lt 33, 3) := by decide +kernel
theorem dX10_markAncestors_20 : decode cX10_markAncestors 20 = .ok (.aload_n 0, 1) := by decide +kernel
theorem dX10_markAncestors_21 : decode cX10_markAncestors 21 = .ok (.getfield 52, 3) := by decide +kernel
theorem dX10_markAncestors_24 : decode cX10_markAncestors 24 = .ok (.aload_n 0, 1) := by decide +kernel
theorem dX10_markAncestors_25 : decode cX10_markAncestors 25 = .ok (.getfield 40, 3) := by decide +kernel
theorem dX10_markAncestors_28 : decode cX10_markAncestors 28 = .ok (.iload_n 2, 1) := by decide +kernel
theorem dX10_markAncestors_29 : decode cX10_markAncestors 29 = .ok (.iaload, 1) := by decide +kernel
theorem dX10_markAncestors_30 : decode cX10_markAncestors 30 = .ok (.baload, 1) := by decide +kernel
theorem dX10_markAncestors_31 : decode cX10_markAncestors 31 = .ok (.ifCond .eq 13, 3) := by decide +kernel
theorem dX10_markAncestors_34 : decode cX10_markAncestors 34 = .ok (.aload_n 0, 1) := by decide +kernel
theorem dX10_markAncestors_35 : decode cX10_markAncestors 35 = .ok (.aload_n 0, 1) := by decide +kernel
theorem dX10_markAncestors_36 : decode cX10_markAncestors 36 = .ok (.getfield 40, 3) := by decide +kernel
theorem dX10_markAncestors_39 : decode cX10_markAncestors 39 = .ok (.iload_n 2, 1) := by decide +kernel
theorem dX10_markAncestors_40 : decode cX10_markAncestors 40 = .ok (.iaload, 1) := by decide +kernel
theorem dX10_markAncestors_41 : decode cX10_markAncestors 41 = .ok (.invokevirtual 236, 3) := by decide +kernel
theorem dX10_markAncestors_44 : decode cX10_markAncestors 44 = .ok (.iinc 2 (-1), 3) := by decide +kernel
theorem dX10_markAncestors_47 : decode cX10_markAncestors 47 = .ok (.goto (-31), 3) := by decide +kernel
theorem dX10_markAncestors_50 : decode cX10_markAncestors 50 = .ok (.return_, 1) := by decide +kernel
theorem dX10_hasMarkedParent_0 : decode cX10_hasMarkedParent 0 = .ok (.iconst 0, 1) := by decide +kernel
theorem dX10_hasMarkedParent_1 : decode cX10_hasMarkedParent 1 = .ok (.istore_n 2, 1) := by decide +kernel
theorem dX10_hasMarkedParent_2 : decode cX10_hasMarkedParent 2 = .ok (.iconst 0, 1) := by decide +kernel
theorem dX10_hasMarkedParent_3 : decode cX10_hasMarkedParent 3 = .ok (.istore_n 3, 1) := by decide +kernel
theorem dX10_hasMarkedParent_4 : decode cX10_hasMarkedParent 4 = .ok (.iload_n 3, 1) := by decide +kernel
theorem dX10_hasMarkedParent_5 : decode cX10_hasMarkedParent 5 = .ok (.aload_n 0, 1) := by decide +kernel
theorem dX10_hasMarkedParent_6 : decode cX10_hasMarkedParent 6 = .ok (.iload_n 1, 1) := by decide +kernel
theorem dX10_hasMarkedParent_7 : decode cX10_hasMarkedParent 7 = .ok (.invokevirtual 182, 3) := by decide +kernel
theorem dX10_hasMarkedParent_10 : decode cX10_hasMarkedParent 10 = .ok (.if_icmp .ge 37, 3) := by decide +kernel
theorem dX10_hasMarkedParent_13 : decode cX10_hasMarkedParent 13 = .ok (.iload_n 2, 1) := by decide +kernel
theorem dX10_hasMarkedParent_14 : decode cX10_hasMarkedParent 14 = .ok (.ifCond .ne 21, 3) := by decide +kernel
theorem dX10_hasMarkedParent_17 : decode cX10_hasMarkedParent 17 = .ok (.aload_n 0, 1) := by decide +kernel
theorem dX10_hasMarkedParent_18 : decode cX10_hasMarkedParent 18 = .ok (.getfield 52, 3) := by decide +kernel
theorem dX10_hasMarkedParent_21 : decode cX10_hasMarkedParent 21 = .ok (.aload_n 0, 1) := by decide +kernel
theorem dX10_hasMarkedParent_22 : decode cX10_hasMarkedParent 22 = .ok (.aload_n 0, 1) := by decide +kernel
theorem dX10_hasMarkedParent_23 : decode cX10_hasMarkedParent 23 = .ok (.iload_n 1, 1) := by decide +kernel
theorem dX10_hasMarkedParent_24 : decode cX10_hasMarkedParent 24 = .ok (.iload_n 3, 1) := by decide +kernel
theorem dX10_hasMarkedParent_25 : decode cX10_hasMarkedParent 25 = .ok (.invokevirtual 224, 3) := by decide +kernel
theorem dX10_hasMarkedParent_28 : decode cX10_hasMarkedParent 28 = .ok (.invokevirtual 198, 3) := by decide +kernel
theorem dX10_hasMarkedParent_31 : decode cX10_hasMarkedParent 31 = .ok (.baload, 1) := by decide +kernel
theorem dX10_hasMarkedParent_32 : decode cX10_hasMarkedParent 32 = .ok (.ifCond .eq 7, 3) := by decide +kernel
theorem dX10_hasMarkedParent_35 : decode cX10_hasMarkedParent 35 = .ok (.iconst 1, 1) := by decide +kernel
theorem dX10_hasMarkedParent_36 : decode cX10_hasMarkedParent 36 = .ok (.goto 4, 3) := by decide +kernel
theorem dX10_hasMarkedParent_39 : decode cX10_hasMarkedParent 39 = .ok (.iconst 0, 1) := by decide +kernel
theorem dX10_hasMarkedParent_40 : decode cX10_hasMarkedParent 40 = .ok (.istore_n 2, 1) := by decide +kernel
theorem dX10_hasMarkedParent_41 : decode cX10_hasMarkedParent 41 = .ok (.iinc 3 1, 3) := by decide +kernel
theorem dX10_hasMarkedParent_44 : decode cX10_hasMarkedParent 44 = .ok (.goto (-40), 3) := by decide +kernel
theorem dX10_hasMarkedParent_47 : decode cX10_hasMarkedParent 47 = .ok (.iload_n 2, 1) := by decide +kernel
theorem dX10_hasMarkedParent_48 : decode cX10_hasMarkedParent 48 = .ok (.ireturn, 1) := by decide +kernel
theorem dX10_markDescendants_0 : decode cX10_markDescendants 0 = .ok (.aload_n 0, 1) := by decide +kernel
theorem dX10_markDescendants_1 : decode cX10_markDescendants 1 = .ok (.invokevirtual 233, 3) := by decide +kernel
theorem dX10_markDescendants_4 : decode cX10_markDescendants 4 = .ok (.aload_n 0, 1) := by decide +kernel
theorem dX10_markDescendants_5 : decode cX10_markDescendants 5 = .ok (.getfield 52, 3) := by decide +kernel
theorem dX10_markDescendants_8 : decode cX10_markDescendants 8 = .ok (.iload_n 1, 1) := by decide +kernel
theorem dX10_markDescendants_9 : decode cX10_markDescendants 9 = .ok (.iconst 1, 1) := by decide +kernel
theorem dX10_markDescendants_10 : decode cX10_markDescendants 10 = .ok (.bastore, 1) := by decide +kernel
theorem dX10_markDescendants_11 : decode cX10_markDescendants 11 = .ok (.iconst 0, 1) := by decide +kernel
theorem dX10_markDescendants_12 : decode cX10_markDescendants 12 = .ok (.istore_n 2, 1) := by decide +kernel
theorem dX10_markDescendants_13 : decode cX10_markDescendants 13 = .ok (.iload_n 2, 1) := by decide +kernel
theorem dX10_markDescendants_14 : decode cX10_markDescendants 14 = .ok (.aload_n 0, 1) := by decide +kernel
theorem dX10_markDescendants_15 : decode cX10_markDescendants 15 = .ok (.getfield 43, 3) := by decide +kernel
theorem dX10_markDescendants_18 : decode cX10_markDescendants 18 = .ok (.if_icmp .ge 34, 3) := by decide +kernel
theorem dX10_markDescendants_21 : decode cX10_markDescendants 21 = .ok (.aload_n 0, 1) := by decide +kernel
theorem dX10_markDescendants_22 : decode cX10_markDescendants 22 = .ok (.aload_n 0, 1) := by decide +kernel
theorem dX10_markDescendants_23 : decode cX10_markDescendants 23 = .ok (.getfield 40, 3) := by decide +kernel
theorem dX10_markDescendants_26 : decode cX10_markDescendants 26 = .ok (.iload_n 2, 1) := by decide +kernel
theorem dX10_markDescendants_27 : decode cX10_markDescendants 27 = .ok (.iaload, 1) := by decide +kernel
theorem dX10_markDescendants_28 : decode cX10_markDescendants 28 = .ok (.invokevirtual 239, 3) := by decide +kernel
theorem dX10_markDescendants_31 : decode cX10_markDescendants 31 = .ok (.ifCond .eq 15, 3) := by decide +kernel
theorem dX10_markDescendants_34 : decode cX10_markDescendants 34 = .ok (.aload_n 0, 1) := by decide +kernel
theorem dX10_markDescendants_35 : decode cX10_markDescendants 35 = .ok (.getfield 52, 3) := by decide +kernel
theorem dX10_markDescendants_38 : decode cX10_markDescendants 38 = .ok (.aload_n 0, 1) := by decide +kernel
theorem dX10_markDescendants_39 : decode cX10_markDescendants 39 = .ok (.getfield 40, 3) := by decide +kernel
theorem dX10_markDescendants_42 : decode cX10_markDescendants 42 = .ok (.iload_n 2, 1) := by decide +kernel
theorem dX10_markDescendants_43 : decode cX10_markDescendants 43 = .ok (.iaload, 1) := by decide +kernel
theorem dX10_markDescendants_44 : decode cX10_markDescendants 44 = .ok (.iconst 1, 1) := by decide +kernel
theorem dX10_markDescendants_45 : decode cX10_markDescendants 45 = .ok (.bastore, 1) := by decide +kernel
theorem dX10_markDescendants_46 : decode cX10_markDescendants 46 = .ok (.iinc 2 1, 3) := by decide +kernel
theorem dX10_markDescendants_49 : decode cX10_markDescendants 49 = .ok (.goto (-36), 3) := by decide +kernel
theorem dX10_markDescendants_52 : decode cX10_markDescendants 52 = .ok (.return_, 1) := by decide +kernel
theorem dX10_spends_0 : decode cX10_spends 0 = .ok (.iconst 0, 1) := by decide +kernel
theorem dX10_spends_1 : decode cX10_spends 1 = .ok (.istore 4, 2) := by decide +kernel
theorem dX10_spends_3 : decode cX10_spends 3 = .ok (.iconst 0, 1) := by decide +kernel
theorem dX10_spends_4 : decode cX10_spends 4 = .ok (.istore 5, 2) := by decide +kernel
theorem dX10_spends_6 : decode cX10_spends 6 = .ok (.iload 5, 2) := by decide +kernel
theorem dX10_spends_8 : decode cX10_spends 8 = .ok (.aload_n 0, 1) := by decide +kernel
theorem dX10_spends_9 : decode cX10_spends 9 = .ok (.iload_n 1, 1) := by decide +kernel
theorem dX10_spends_10 : decode cX10_spends 10 = .ok (.invokevirtual 188, 3) := by decide +kernel
theorem dX10_spends_13 : decode cX10_spends 13 = .ok (.if_icmp .ge 43, 3) := by decide +kernel
theorem dX10_spends_16 : decode cX10_spends 16 = .ok (.iload 4, 2) := by decide +kernel
theorem dX10_spends_18 : decode cX10_spends 18 = .ok (.ifCond .ne 25, 3) := by decide +kernel
theorem dX10_spends_21 : decode cX10_spends 21 = .ok (.aload_n 0, 1) := by decide +kernel
theorem dX10_spends_22 : decode cX10_spends 22 = .ok (.iload_n 1, 1) := by decide +kernel
theorem dX10_spends_23 : decode cX10_spends 23 = .ok (.iload 5, 2) := by decide +kernel
theorem dX10_spends_25 : decode cX10_spends 25 = .ok (.invokevirtual 195, 3) := by decide +kernel
theorem dX10_spends_28 : decode cX10_spends 28 = .ok (.iload_n 2, 1) := by decide +kernel
theorem dX10_spends_29 : decode cX10_spends 29 = .ok (.if_icmp .ne 18, 3) := by decide +kernel
theorem dX10_spends_32 : decode cX10_spends 32 = .ok (.aload_n 0, 1) := by decide +kernel
theorem dX10_spends_33 : decode cX10_spends 33 = .ok (.iload_n 1, 1) := by decide +kernel
theorem dX10_spends_34 : decode cX10_spends 34 = .ok (.iload 5, 2) := by decide +kernel
theorem dX10_spends_36 : decode cX10_spends 36 = .ok (.invokevirtual 201, 3) := by decide +kernel
theorem dX10_spends_39 : decode cX10_spends 39 = .ok (.iload_n 3, 1) := by decide +kernel
theorem dX10_spends_40 : decode cX10_spends 40 = .ok (.if_icmp .ne 7, 3) := by decide +kernel
theorem dX10_spends_43 : decode cX10_spends 43 = .ok (.iconst 1, 1) := by decide +kernel
theorem dX10_spends_44 : decode cX10_spends 44 = .ok (.goto 4, 3) := by decide +kernel
theorem dX10_spends_47 : decode cX10_spends 47 = .ok (.iconst 0, 1) := by decide +kernel
theorem dX10_spends_48 : decode cX10_spends 48 = .ok (.istore 4, 2) := by decide +kernel
theorem dX10_spends_50 : decode cX10_spends 50 = .ok (.iinc 5 1, 3) := by decide +kernel
theorem dX10_spends_53 : decode cX10_spends 53 = .ok (.goto (-47), 3) := by decide +kernel
theorem dX10_spends_56 : decode cX10_spends 56 = .ok (.iload 4, 2) := by decide +kernel
theorem dX10_spends_58 : decode cX10_spends 58 = .ok (.ireturn, 1) := by decide +kernel
theorem dX10_isBad_0 : decode cX10_isBad 0 = .ok (.aload_n 0, 1) := by decide +kernel
theorem dX10_isBad_1 : decode cX10_isBad 1 = .ok (.iload_n 1, 1) := by decide +kernel
theorem dX10_isBad_2 : decode cX10_isBad 2 = .ok (.invokevirtual 242, 3) := by decide +kernel
theorem dX10_isBad_5 : decode cX10_isBad 5 = .ok (.iconst 0, 1) := by decide +kernel
theorem dX10_isBad_6 : decode cX10_isBad 6 = .ok (.istore_n 2, 1) := by decide +kernel
theorem dX10_isBad_7 : decode cX10_isBad 7 = .ok (.iconst 0, 1) := by decide +kernel
theorem dX10_isBad_8 : decode cX10_isBad 8 = .ok (.istore_n 3, 1) := by decide +kernel
theorem dX10_isBad_9 : decode cX10_isBad 9 = .ok (.iload_n 3, 1) := by decide +kernel
theorem dX10_isBad_10 : decode cX10_isBad 10 = .ok (.aload_n 0, 1) := by decide +kernel
theorem dX10_isBad_11 : decode cX10_isBad 11 = .ok (.iload_n 1, 1) := by decide +kernel
theorem dX10_isBad_12 : decode cX10_isBad 12 = .ok (.invokevirtual 182, 3) := by decide +kernel
theorem dX10_isBad_15 : decode cX10_isBad 15 = .ok (.if_icmp .ge 50, 3) := by decide +kernel
theorem dX10_isBad_18 : decode cX10_isBad 18 = .ok (.iconst 0, 1) := by decide +kernel
theorem dX10_isBad_19 : decode cX10_isBad 19 = .ok (.istore 4, 2) := by decide +kernel
theorem dX10_isBad_21 : decode cX10_isBad 21 = .ok (.iload 4, 2) := by decide +kernel
theorem dX10_isBad_23 : decode cX10_isBad 23 = .ok (.iload_n 3, 1) := by decide +kernel
theorem dX10_isBad_24 : decode cX10_isBad 24 = .ok (.if_icmp .ge 35, 3) := by decide +kernel
theorem dX10_isBad_27 : decode cX10_isBad 27 = .ok (.iload_n 2, 1) := by decide +kernel
theorem dX10_isBad_28 : decode cX10_isBad 28 = .ok (.ifCond .ne 19, 3) := by decide +kernel
theorem dX10_isBad_31 : decode cX10_isBad 31 = .ok (.aload_n 0, 1) := by decide +kernel
theorem dX10_isBad_32 : decode cX10_isBad 32 = .ok (.iload_n 1, 1) := by decide +kernel
theorem dX10_isBad_33 : decode cX10_isBad 33 = .ok (.iload_n 3, 1) := by decide +kernel
theorem dX10_isBad_34 : decode cX10_isBad 34 = .ok (.invokevirtual 224, 3) := by decide +kernel
theorem dX10_isBad_37 : decode cX10_isBad 37 = .ok (.aload_n 0, 1) := by decide +kernel
theorem dX10_isBad_38 : decode cX10_isBad 38 = .ok (.iload_n 1, 1) := by decide +kernel
theorem dX10_isBad_39 : decode cX10_isBad 39 = .ok (.iload 4, 2) := by decide +kernel
theorem dX10_isBad_41 : decode cX10_isBad 41 = .ok (.invokevirtual 224, 3) := by decide +kernel
theorem dX10_isBad_44 : decode cX10_isBad 44 = .ok (.if_icmp .ne 7, 3) := by decide +kernel
theorem dX10_isBad_47 : decode cX10_isBad 47 = .ok (.iconst 1, 1) := by decide +kernel
theorem dX10_isBad_48 : decode cX10_isBad 48 = .ok (.goto 4, 3) := by decide +kernel
theorem dX10_isBad_51 : decode cX10_isBad 51 = .ok (.iconst 0, 1) := by decide +kernel
theorem dX10_isBad_52 : decode cX10_isBad 52 = .ok (.istore_n 2, 1) := by decide +kernel
theorem dX10_isBad_53 : decode cX10_isBad 53 = .ok (.iinc 4 1, 3) := by decide +kernel
theorem dX10_isBad_56 : decode cX10_isBad 56 = .ok (.goto (-35), 3) := by decide +kernel
theorem dX10_isBad_59 : decode cX10_isBad 59 = .ok (.iinc 3 1, 3) := by decide +kernel
theorem dX10_isBad_62 : decode cX10_isBad 62 = .ok (.goto (-53), 3) := by decide +kernel
theorem dX10_isBad_65 : decode cX10_isBad 65 = .ok (.lconst 0, 1) := by decide +kernel
theorem dX10_isBad_66 : decode cX10_isBad 66 = .ok (.lstore_n 3, 1) := by decide +kernel
theorem dX10_isBad_67 : decode cX10_isBad 67 = .ok (.iconst 0, 1) := by decide +kernel
theorem dX10_isBad_68 : decode cX10_isBad 68 = .ok (.istore 5, 2) := by decide +kernel
theorem dX10_isBad_70 : decode cX10_isBad 70 = .ok (.iload 5, 2) := by decide +kernel
theorem dX10_isBad_72 : decode cX10_isBad 72 = .ok (.aload_n 0, 1) := by decide +kernel
theorem dX10_isBad_73 : decode cX10_isBad 73 = .ok (.iload_n 1, 1) := by decide +kernel
theorem dX10_isBad_74 : decode cX10_isBad 74 = .ok (.invokevirtual 188, 3) := by decide +kernel
theorem dX10_isBad_77 : decode cX10_isBad 77 = .ok (.if_icmp .ge 192, 3) := by decide +kernel
theorem dX10_isBad_80 : decode cX10_isBad 80 = .ok (.aload_n 0, 1) := by decide +kernel
theorem dX10_isBad_81 : decode cX10_isBad 81 = .ok (.iload_n 1, 1) := by decide +kernel
theorem dX10_isBad_82 : decode cX10_isBad 82 = .ok (.iload 5, 2) := by decide +kernel
theorem dX10_isBad_84 : decode cX10_isBad 84 = .ok (.invokevirtual 195, 3) := by decide +kernel
theorem dX10_isBad_87 : decode cX10_isBad 87 = .ok (.istore 6, 2) := by decide +kernel
theorem dX10_isBad_89 : decode cX10_isBad 89 = .ok (.aload_n 0, 1) := by decide +kernel
theorem dX10_isBad_90 : decode cX10_isBad 90 = .ok (.iload_n 1, 1) := by decide +kernel
theorem dX10_isBad_91 : decode cX10_isBad 91 = .ok (.iload 5, 2) := by decide +kernel
theorem dX10_isBad_93 : decode cX10_isBad 93 = .ok (.invokevirtual 201, 3) := by decide +kernel
theorem dX10_isBad_96 : decode cX10_isBad 96 = .ok (.istore 7, 2) := by decide +kernel
theorem dX10_isBad_98 : decode cX10_isBad 98 = .ok (.iconst 0, 1) := by decide +kernel
theorem dX10_isBad_99 : decode cX10_isBad 99 = .ok (.istore 8, 2) := by decide +kernel
theorem dX10_isBad_101 : decode cX10_isBad 101 = .ok (.iload 8, 2) := by decide +kernel
theorem dX10_isBad_103 : decode cX10_isBad 103 = .ok (.iload 5, 2) := by decide +kernel
theorem dX10_isBad_105 : decode cX10_isBad 105 = .ok (.if_icmp .ge 43, 3) := by decide +kernel
theorem dX10_isBad_108 : decode cX10_isBad 108 = .ok (.iload_n 2, 1) := by decide +kernel
theorem dX10_isBad_109 : decode cX10_isBad 109 = .ok (.ifCond .ne 27, 3) := by decide +kernel
theorem dX10_isBad_112 : decode cX10_isBad 112 = .ok (.aload_n 0, 1) := by decide +kernel
theorem dX10_isBad_113 : decode cX10_isBad 113 = .ok (.iload_n 1, 1) := by decide +kernel
theorem dX10_isBad_114 : decode cX10_isBad 114 = .ok (.iload 8, 2) := by decide +kernel
theorem dX10_isBad_116 : decode cX10_isBad 116 = .ok (.invokevirtual 195, 3) := by decide +kernel
theorem dX10_isBad_119 : decode cX10_isBad 119 = .ok (.iload 6, 2) := by decide +kernel
theorem dX10_isBad_121 : decode cX10_isBad 121 = .ok (.if_icmp .ne 19, 3) := by decide +kernel
theorem dX10_isBad_124 : decode cX10_isBad 124 = .ok (.aload_n 0, 1) := by decide +kernel
theorem dX10_isBad_125 : decode cX10_isBad 125 = .ok (.iload_n 1, 1) := by decide +kernel
theorem dX10_isBad_126 : decode cX10_isBad 126 = .ok (.iload 8, 2) := by decide +kernel
theorem dX10_isBad_128 : decode cX10_isBad 128 = .ok (.invokevirtual 201, 3) := by decide +kernel
theorem dX10_isBad_131 : decode cX10_isBad 131 = .ok (.iload 7, 2) := by decide +kernel
theorem dX10_isBad_133 : decode cX10_isBad 133 = .ok (.if_icmp .ne 7, 3) := by decide +kernel
theorem dX10_isBad_136 : decode cX10_isBad 136 = .ok (.iconst 1, 1) := by decide +kernel
theorem dX10_isBad_137 : decode cX10_isBad 137 = .ok (.goto 4, 3) := by decide +kernel
theorem dX10_isBad_140 : decode cX10_isBad 140 = .ok (.iconst 0, 1) := by decide +kernel
theorem dX10_isBad_141 : decode cX10_isBad 141 = .ok (.istore_n 2, 1) := by decide +kernel
theorem dX10_isBad_142 : decode cX10_isBad 142 = .ok (.iinc 8 1, 3) := by decide +kernel
theorem dX10_isBad_145 : decode cX10_isBad 145 = .ok (.goto (-44), 3) := by decide +kernel
theorem dX10_isBad_148 : decode cX10_isBad 148 = .ok (.aload_n 0, 1) := by decide +kernel
theorem dX10_isBad_149 : decode cX10_isBad 149 = .ok (.iload 6, 2) := by decide +kernel
theorem dX10_isBad_151 : decode cX10_isBad 151 = .ok (.invokevirtual 198, 3) := by decide +kernel
theorem dX10_isBad_154 : decode cX10_isBad 154 = .ok (.istore 8, 2) := by decide +kernel
theorem dX10_isBad_156 : decode cX10_isBad 156 = .ok (.iload_n 2, 1) := by decide +kernel
theorem dX10_isBad_157 : decode cX10_isBad 157 = .ok (.ifCond .ne 29, 3) := by decide +kernel
theorem dX10_isBad_160 : decode cX10_isBad 160 = .ok (.iload 8, 2) := by decide +kernel
theorem dX10_isBad_162 : decode cX10_isBad 162 = .ok (.ifCond .lt 24, 3) := by decide +kernel
theorem dX10_isBad_165 : decode cX10_isBad 165 = .ok (.aload_n 0, 1) := by decide +kernel
theorem dX10_isBad_166 : decode cX10_isBad 166 = .ok (.getfield 52, 3) := by decide +kernel
theorem dX10_isBad_169 : decode cX10_isBad 169 = .ok (.iload 8, 2) := by decide +kernel
theorem dX10_isBad_171 : decode cX10_isBad 171 = .ok (.baload, 1) := by decide +kernel
theorem dX10_isBad_172 : decode cX10_isBad 172 = .ok (.ifCond .eq 14, 3) := by decide +kernel
theorem dX10_isBad_175 : decode cX10_isBad 175 = .ok (.iload 7, 2) := by decide +kernel
theorem dX10_isBad_177 : decode cX10_isBad 177 = .ok (.aload_n 0, 1) := by decide +kernel
theorem dX10_isBad_178 : decode cX10_isBad 178 = .ok (.iload 8, 2) := by decide +kernel
theorem dX10_isBad_180 : decode cX10_isBad 180 = .ok (.invokevirtual 245, 3) := by decide +kernel
theorem dX10_isBad_183 : decode cX10_isBad 183 = .ok (.if_icmp .lt 7, 3) := by decide +kernel
theorem dX10_isBad_186 : decode cX10_isBad 186 = .ok (.iconst 1, 1) := by decide +kernel
theorem dX10_isBad_187 : decode cX10_isBad 187 = .ok (.goto 4, 3) := by decide +kernel
theorem dX10_isBad_190 : decode cX10_isBad 190 = .ok (.iconst 0, 1) := by decide +kernel
theorem dX10_isBad_191 : decode cX10_isBad 191 = .ok (.istore_n 2, 1) := by decide +kernel
theorem dX10_isBad_192 : decode cX10_isBad 192 = .ok (.iconst 0, 1) := by decide +kernel
theorem dX10_isBad_193 : decode cX10_isBad 193 = .ok (.istore 9, 2) := by decide +kernel
theorem dX10_isBad_195 : decode cX10_isBad 195 = .ok (.iload 9, 2) := by decide +kernel
theorem dX10_isBad_197 : decode cX10_isBad 197 = .ok (.aload_n 0, 1) := by decide +kernel
theorem dX10_isBad_198 : decode cX10_isBad 198 = .ok (.getfield 16, 3) := by decide +kernel
theorem dX10_isBad_201 : decode cX10_isBad 201 = .ok (.if_icmp .ge 42, 3) := by decide +kernel
theorem dX10_isBad_204 : decode cX10_isBad 204 = .ok (.iload_n 2, 1) := by decide +kernel
theorem dX10_isBad_205 : decode cX10_isBad 205 = .ok (.ifCond .ne 26, 3) := by decide +kernel
theorem dX10_isBad_208 : decode cX10_isBad 208 = .ok (.aload_n 0, 1) := by decide +kernel
theorem dX10_isBad_209 : decode cX10_isBad 209 = .ok (.getfield 52, 3) := by decide +kernel
theorem dX10_isBad_212 : decode cX10_isBad 212 = .ok (.iload 9, 2) := by decide +kernel
theorem dX10_isBad_214 : decode cX10_isBad 214 = .ok (.baload, 1) := by decide +kernel
theorem dX10_isBad_215 : decode cX10_isBad 215 = .ok (.ifCond .eq 20, 3) := by decide +kernel
theorem dX10_isBad_218 : decode cX10_isBad 218 = .ok (.aload_n 0, 1) := by decide +kernel
theorem dX10_isBad_219 : decode cX10_isBad 219 = .ok (.iload 9, 2) := by decide +kernel
theorem dX10_isBad_221 : decode cX10_isBad 221 = .ok (.iload 6, 2) := by decide +kernel
theorem dX10_isBad_223 : decode cX10_isBad 223 = .ok (.iload 7, 2) := by decide +kernel
theorem dX10_isBad_225 : decode cX10_isBad 225 = .ok (.invokevirtual 248, 3) := by decide +kernel
theorem dX10_isBad_228 : decode cX10_isBad 228 = .ok (.ifCond .eq 7, 3) := by decide +kernel
theorem dX10_isBad_231 : decode cX10_isBad 231 = .ok (.iconst 1, 1) := by decide +kernel
theorem dX10_isBad_232 : decode cX10_isBad 232 = .ok (.goto 4, 3) := by decide +kernel
theorem dX10_isBad_235 : decode cX10_isBad 235 = .ok (.iconst 0, 1) := by decide +kernel
theorem dX10_isBad_236 : decode cX10_isBad 236 = .ok (.istore_n 2, 1) := by decide +kernel
theorem dX10_isBad_237 : decode cX10_isBad 237 = .ok (.iinc 9 1, 3) := by decide +kernel
theorem dX10_isBad_240 : decode cX10_isBad 240 = .ok (.goto (-45), 3) := by decide +kernel
theorem dX10_isBad_243 : decode cX10_isBad 243 = .ok (.lload_n 3, 1) := by decide +kernel
theorem dX10_isBad_244 : decode cX10_isBad 244 = .ok (.iload_n 2, 1) := by decide +kernel
theorem dX10_isBad_245 : decode cX10_isBad 245 = .ok (.ifCond .eq 7, 3) := by decide +kernel
theorem dX10_isBad_248 : decode cX10_isBad 248 = .ok (.lconst 0, 1) := by decide +kernel
theorem dX10_isBad_249 : decode cX10_isBad 249 = .ok (.goto 12, 3) := by decide +kernel
theorem dX10_isBad_252 : decode cX10_isBad 252 = .ok (.aload_n 0, 1) := by decide +kernel
theorem dX10_isBad_253 : decode cX10_isBad 253 = .ok (.iload 8, 2) := by decide +kernel
theorem dX10_isBad_255 : decode cX10_isBad 255 = .ok (.iload 7, 2) := by decide +kernel
theorem dX10_isBad_257 : decode cX10_isBad 257 = .ok (.invokevirtual 252, 3) := by decide +kernel
theorem dX10_isBad_260 : decode cX10_isBad 260 = .ok (.i2l, 1) := by decide +kernel
theorem dX10_isBad_261 : decode cX10_isBad 261 = .ok (.ladd, 1) := by decide +kernel
theorem dX10_isBad_262 : decode cX10_isBad 262 = .ok (.lstore_n 3, 1) := by decide +kernel
theorem dX10_isBad_263 : decode cX10_isBad 263 = .ok (.iinc 5 1, 3) := by decide +kernel
theorem dX10_isBad_266 : decode cX10_isBad 266 = .ok (.goto (-196), 3) := by decide +kernel
theorem dX10_isBad_269 : decode cX10_isBad 269 = .ok (.iconst 0, 1) := by decide +kernel
theorem dX10_isBad_270 : decode cX10_isBad 270 = .ok (.istore 5, 2) := by decide +kernel
theorem dX10_isBad_272 : decode cX10_isBad 272 = .ok (.iload 5, 2) := by decide +kernel
theorem dX10_isBad_274 : decode cX10_isBad 274 = .ok (.aload_n 0, 1) := by decide +kernel
theorem dX10_isBad_275 : decode cX10_isBad 275 = .ok (.iload_n 1, 1) := by decide +kernel
theorem dX10_isBad_276 : decode cX10_isBad 276 = .ok (.invokevirtual 245, 3) := by decide +kernel
theorem dX10_isBad_279 : decode cX10_isBad 279 = .ok (.if_icmp .ge 20, 3) := by decide +kernel
theorem dX10_isBad_282 : decode cX10_isBad 282 = .ok (.lload_n 3, 1) := by decide +kernel
theorem dX10_isBad_283 : decode cX10_isBad 283 = .ok (.aload_n 0, 1) := by decide +kernel
theorem dX10_isBad_284 : decode cX10_isBad 284 = .ok (.iload_n 1, 1) := by decide +kernel
theorem dX10_isBad_285 : decode cX10_isBad 285 = .ok (.iload 5, 2) := by decide +kernel
theorem dX10_isBad_287 : decode cX10_isBad 287 = .ok (.invokevirtual 252, 3) := by decide +kernel
theorem dX10_isBad_290 : decode cX10_isBad 290 = .ok (.i2l, 1) := by decide +kernel
theorem dX10_isBad_291 : decode cX10_isBad 291 = .ok (.lsub, 1) := by decide +kernel
theorem dX10_isBad_292 : decode cX10_isBad 292 = .ok (.lstore_n 3, 1) := by decide +kernel
theorem dX10_isBad_293 : decode cX10_isBad 293 = .ok (.iinc 5 1, 3) := by decide +kernel
theorem dX10_isBad_296 : decode cX10_isBad 296 = .ok (.goto (-24), 3) := by decide +kernel
theorem dX10_isBad_299 : decode cX10_isBad 299 = .ok (.iload_n 2, 1) := by decide +kernel
theorem dX10_isBad_300 : decode cX10_isBad 300 = .ok (.ifCond .ne 9, 3) := by decide +kernel
theorem dX10_isBad_303 : decode cX10_isBad 303 = .ok (.lload_n 3, 1) := by decide +kernel
theorem dX10_isBad_304 : decode cX10_isBad 304 = .ok (.lconst 0, 1) := by decide +kernel
theorem dX10_isBad_305 : decode cX10_isBad 305 = .ok (.lcmp, 1) := by decide +kernel
theorem dX10_isBad_306 : decode cX10_isBad 306 = .ok (.ifCond .eq 7, 3) := by decide +kernel
theorem dX10_isBad_309 : decode cX10_isBad 309 = .ok (.iconst 1, 1) := by decide +kernel
theorem dX10_isBad_310 : decode cX10_isBad 310 = .ok (.goto 4, 3) := by decide +kernel
theorem dX10_isBad_313 : decode cX10_isBad 313 = .ok (.iconst 0, 1) := by decide +kernel
theorem dX10_isBad_314 : decode cX10_isBad 314 = .ok (.ireturn, 1) := by decide +kernel
theorem dX10_isIn_0 : decode cX10_isIn 0 = .ok (.iconst 0, 1) := by decide +kernel
theorem dX10_isIn_1 : decode cX10_isIn 1 = .ok (.istore_n 3, 1) := by decide +kernel
theorem dX10_isIn_2 : decode cX10_isIn 2 = .ok (.iconst 0, 1) := by decide +kernel
theorem dX10_isIn_3 : decode cX10_isIn 3 = .ok (.istore 4, 2) := by decide +kernel
theorem dX10_isIn_5 : decode cX10_isIn 5 = .ok (.iload 4, 2) := by decide +kernel
theorem dX10_isIn_7 : decode cX10_isIn 7 = .ok (.aload_n 0, 1) := by decide +kernel
theorem dX10_isIn_8 : decode cX10_isIn 8 = .ok (.iload_n 1, 1) := by decide +kernel
theorem dX10_isIn_9 : decode cX10_isIn 9 = .ok (.invokevirtual 188, 3) := by decide +kernel
theorem dX10_isIn_12 : decode cX10_isIn 12 = .ok (.if_icmp .ge 30, 3) := by decide +kernel
theorem dX10_isIn_15 : decode cX10_isIn 15 = .ok (.iload_n 3, 1) := by decide +kernel
theorem dX10_isIn_16 : decode cX10_isIn 16 = .ok (.ifCond .ne 14, 3) := by decide +kernel
theorem dX10_isIn_19 : decode cX10_isIn 19 = .ok (.aload_n 0, 1) := by decide +kernel
theorem dX10_isIn_20 : decode cX10_isIn 20 = .ok (.iload_n 1, 1) := by decide +kernel
theorem dX10_isIn_21 : decode cX10_isIn 21 = .ok (.iload 4, 2) := by decide +kernel
theorem dX10_isIn_23 : decode cX10_isIn 23 = .ok (.invokevirtual 255, 3) := by decide +kernel
theorem dX10_isIn_26 : decode cX10_isIn 26 = .ok (.iload_n 2, 1) := by decide +kernel
theorem dX10_isIn_27 : decode cX10_isIn 27 = .ok (.if_icmp .ne 7, 3) := by decide +kernel
theorem dX10_isIn_30 : decode cX10_isIn 30 = .ok (.iconst 1, 1) := by decide +kernel
theorem dX10_isIn_31 : decode cX10_isIn 31 = .ok (.goto 4, 3) := by decide +kernel
theorem dX10_isIn_34 : decode cX10_isIn 34 = .ok (.iconst 0, 1) := by decide +kernel
theorem dX10_isIn_35 : decode cX10_isIn 35 = .ok (.istore_n 3, 1) := by decide +kernel
theorem dX10_isIn_36 : decode cX10_isIn 36 = .ok (.iinc 4 1, 3) := by decide +kernel
theorem dX10_isIn_39 : decode cX10_isIn 39 = .ok (.goto (-34), 3) := by decide +kernel
theorem dX10_isIn_42 : decode cX10_isIn 42 = .ok (.iload_n 3, 1) := by decide +kernel
theorem dX10_isIn_43 : decode cX10_isIn 43 = .ok (.ireturn, 1) := by decide +kernel
theorem dX10_membersOf_0 : decode cX10_membersOf 0 = .ok (.iconst 0, 1) := by decide +kernel
theorem dX10_membersOf_1 : decode cX10_membersOf 1 = .ok (.istore_n 2, 1) := by decide +kernel
theorem dX10_membersOf_2 : decode cX10_membersOf 2 = .ok (.iconst 0, 1) := by decide +kernel
theorem dX10_membersOf_3 : decode cX10_membersOf 3 = .ok (.istore_n 3, 1) := by decide +kernel
theorem dX10_membersOf_4 : decode cX10_membersOf 4 = .ok (.iload_n 3, 1) := by decide +kernel
theorem dX10_membersOf_5 : decode cX10_membersOf 5 = .ok (.aload_n 0, 1) := by decide +kernel
theorem dX10_membersOf_6 : decode cX10_membersOf 6 = .ok (.getfield 43, 3) := by decide +kernel
theorem dX10_membersOf_9 : decode cX10_membersOf 9 = .ok (.if_icmp .ge 31, 3) := by decide +kernel
theorem dX10_membersOf_12 : decode cX10_membersOf 12 = .ok (.iload_n 2, 1) := by decide +kernel
theorem dX10_membersOf_13 : decode cX10_membersOf 13 = .ok (.aload_n 0, 1) := by decide +kernel
theorem dX10_membersOf_14 : decode cX10_membersOf 14 = .ok (.aload_n 0, 1) := by decide +kernel
theorem dX10_membersOf_15 : decode cX10_membersOf 15 = .ok (.getfield 40, 3) := by decide +kernel
theorem dX10_membersOf_18 : decode cX10_membersOf 18 = .ok (.iload_n 3, 1) := by decide +kernel
theorem dX10_membersOf_19 : decode cX10_membersOf 19 = .ok (.iaload, 1) := by decide +kernel
theorem dX10_membersOf_20 : decode cX10_membersOf 20 = .ok (.iload_n 1, 1) := by decide +kernel
theorem dX10_membersOf_21 : decode cX10_membersOf 21 = .ok (.invokevirtual 258, 3) := by decide +kernel
theorem dX10_membersOf_24 : decode cX10_membersOf 24 = .ok (.ifCond .eq 7, 3) := by decide +kernel
theorem dX10_membersOf_27 : decode cX10_membersOf 27 = .ok (.iconst 1, 1) := by decide +kernel
theorem dX10_membersOf_28 : decode cX10_membersOf 28 = .ok (.goto 4, 3) := by decide +kernel
theorem dX10_membersOf_31 : decode cX10_membersOf 31 = .ok (.iconst 0, 1) := by decide +kernel
theorem dX10_membersOf_32 : decode cX10_membersOf 32 = .ok (.iadd, 1) := by decide +kernel
theorem dX10_membersOf_33 : decode cX10_membersOf 33 = .ok (.istore_n 2, 1) := by decide +kernel
theorem dX10_membersOf_34 : decode cX10_membersOf 34 = .ok (.iinc 3 1, 3) := by decide +kernel
theorem dX10_membersOf_37 : decode cX10_membersOf 37 = .ok (.goto (-33), 3) := by decide +kernel
theorem dX10_membersOf_40 : decode cX10_membersOf 40 = .ok (.iload_n 2, 1) := by decide +kernel
theorem dX10_membersOf_41 : decode cX10_membersOf 41 = .ok (.ireturn, 1) := by decide +kernel
theorem dX10_acceptedOf_0 : decode cX10_acceptedOf 0 = .ok (.iconst (-1), 1) := by decide +kernel
theorem dX10_acceptedOf_1 : decode cX10_acceptedOf 1 = .ok (.istore_n 2, 1) := by decide +kernel
theorem dX10_acceptedOf_2 : decode cX10_acceptedOf 2 = .ok (.iconst 0, 1) := by decide +kernel
theorem dX10_acceptedOf_3 : decode cX10_acceptedOf 3 = .ok (.istore_n 3, 1) := by decide +kernel
theorem dX10_acceptedOf_4 : decode cX10_acceptedOf 4 = .ok (.iload_n 3, 1) := by decide +kernel
theorem dX10_acceptedOf_5 : decode cX10_acceptedOf 5 = .ok (.aload_n 0, 1) := by decide +kernel
theorem dX10_acceptedOf_6 : decode cX10_acceptedOf 6 = .ok (.getfield 43, 3) := by decide +kernel
theorem dX10_acceptedOf_9 : decode cX10_acceptedOf 9 = .ok (.if_icmp .ge 49, 3) := by decide +kernel
theorem dX10_acceptedOf_12 : decode cX10_acceptedOf 12 = .ok (.aload_n 0, 1) := by decide +kernel
theorem dX10_acceptedOf_13 : decode cX10_acceptedOf 13 = .ok (.getfield 30, 3) := by decide +kernel
theorem dX10_acceptedOf_16 : decode cX10_acceptedOf 16 = .ok (.aload_n 0, 1) := by decide +kernel
theorem dX10_acceptedOf_17 : decode cX10_acceptedOf 17 = .ok (.getfield 40, 3) := by decide +kernel
theorem dX10_acceptedOf_20 : decode cX10_acceptedOf 20 = .ok (.iload_n 3, 1) := by decide +kernel
theorem dX10_acceptedOf_21 : decode cX10_acceptedOf 21 = .ok (.iaload, 1) := by decide +kernel
theorem dX10_acceptedOf_22 : decode cX10_acceptedOf 22 = .ok (.iaload, 1) := by decide +kernel
theorem dX10_acceptedOf_23 : decode cX10_acceptedOf 23 = .ok (.iconst 3, 1) := by decide +kernel
theorem dX10_acceptedOf_24 : decode cX10_acceptedOf 24 = .ok (.if_icmp .ne 26, 3) := by decide +kernel
theorem dX10_acceptedOf_27 : decode cX10_acceptedOf 27 = .ok (.aload_n 0, 1) := by decide +kernel
theorem dX10_acceptedOf_28 : decode cX10_acceptedOf 28 = .ok (.aload_n 0, 1) := by decide +kernel
theorem dX10_acceptedOf_29 : decode cX10_acceptedOf 29 = .ok (.getfield 40, 3) := by decide +kernel
theorem dX10_acceptedOf_32 : decode cX10_acceptedOf 32 = .ok (.iload_n 3, 1) := by decide +kernel
theorem dX10_acceptedOf_33 : decode cX10_acceptedOf 33 = .ok (.iaload, 1) := by decide +kernel
theorem dX10_acceptedOf_34 : decode cX10_acceptedOf 34 = .ok (.iload_n 1, 1) := by decide +kernel
theorem dX10_acceptedOf_35 : decode cX10_acceptedOf 35 = .ok (.invokevirtual 258, 3) := by decide +kernel
theorem dX10_acceptedOf_38 : decode cX10_acceptedOf 38 = .ok (.ifCond .eq 12, 3) := by decide +kernel
theorem dX10_acceptedOf_41 : decode cX10_acceptedOf 41 = .ok (.aload_n 0, 1) := by decide +kernel
theorem dX10_acceptedOf_42 : decode cX10_acceptedOf 42 = .ok (.getfield 40, 3) := by decide +kernel
theorem dX10_acceptedOf_45 : decode cX10_acceptedOf 45 = .ok (.iload_n 3, 1) := by decide +kernel
theorem dX10_acceptedOf_46 : decode cX10_acceptedOf 46 = .ok (.iaload, 1) := by decide +kernel
theorem dX10_acceptedOf_47 : decode cX10_acceptedOf 47 = .ok (.goto 4, 3) := by decide +kernel
theorem dX10_acceptedOf_50 : decode cX10_acceptedOf 50 = .ok (.iload_n 2, 1) := by decide +kernel
theorem dX10_acceptedOf_51 : decode cX10_acceptedOf 51 = .ok (.istore_n 2, 1) := by decide +kernel
theorem dX10_acceptedOf_52 : decode cX10_acceptedOf 52 = .ok (.iinc 3 1, 3) := by decide +kernel
theorem dX10_acceptedOf_55 : decode cX10_acceptedOf 55 = .ok (.goto (-51), 3) := by decide +kernel
theorem dX10_acceptedOf_58 : decode cX10_acceptedOf 58 = .ok (.iload_n 2, 1) := by decide +kernel
theorem dX10_acceptedOf_59 : decode cX10_acceptedOf 59 = .ok (.ireturn, 1) := by decide +kernel
theorem dX10_confidence_0 : decode cX10_confidence 0 = .ok (.aload_n 0, 1) := by decide +kernel
theorem dX10_confidence_1 : decode cX10_confidence 1 = .ok (.iload_n 1, 1) := by decide +kernel
theorem dX10_confidence_2 : decode cX10_confidence 2 = .ok (.invokevirtual 262, 3) := by decide +kernel
theorem dX10_confidence_5 : decode cX10_confidence 5 = .ok (.iconst 0, 1) := by decide +kernel
theorem dX10_confidence_6 : decode cX10_confidence 6 = .ok (.istore_n 2, 1) := by decide +kernel
theorem dX10_confidence_7 : decode cX10_confidence 7 = .ok (.iconst 0, 1) := by decide +kernel
theorem dX10_confidence_8 : decode cX10_confidence 8 = .ok (.istore_n 3, 1) := by decide +kernel
theorem dX10_confidence_9 : decode cX10_confidence 9 = .ok (.iload_n 3, 1) := by decide +kernel
theorem dX10_confidence_10 : decode cX10_confidence 10 = .ok (.aload_n 0, 1) := by decide +kernel
theorem dX10_confidence_11 : decode cX10_confidence 11 = .ok (.getfield 16, 3) := by decide +kernel
theorem dX10_confidence_14 : decode cX10_confidence 14 = .ok (.if_icmp .ge 35, 3) := by decide +kernel
theorem dX10_confidence_17 : decode cX10_confidence 17 = .ok (.iload_n 2, 1) := by decide +kernel
theorem dX10_confidence_18 : decode cX10_confidence 18 = .ok (.aload_n 0, 1) := by decide +kernel
theorem dX10_confidence_19 : decode cX10_confidence 19 = .ok (.getfield 52, 3) := by decide +kernel
theorem dX10_confidence_22 : decode cX10_confidence 22 = .ok (.iload_n 3, 1) := by decide +kernel
theorem dX10_confidence_23 : decode cX10_confidence 23 = .ok (.baload, 1) := by decide +kernel
theorem dX10_confidence_24 : decode cX10_confidence 24 = .ok (.ifCond .eq 16, 3) := by decide +kernel
theorem dX10_confidence_27 : decode cX10_confidence 27 = .ok (.aload_n 0, 1) := by decide +kernel
theorem dX10_confidence_28 : decode cX10_confidence 28 = .ok (.getfield 33, 3) := by decide +kernel
theorem dX10_confidence_31 : decode cX10_confidence 31 = .ok (.iload_n 3, 1) := by decide +kernel
theorem dX10_confidence_32 : decode cX10_confidence 32 = .ok (.baload, 1) := by decide +kernel
theorem dX10_confidence_33 : decode cX10_confidence 33 = .ok (.ifCond .eq 7, 3) := by decide +kernel
theorem dX10_confidence_36 : decode cX10_confidence 36 = .ok (.iconst 1, 1) := by decide +kernel
theorem dX10_confidence_37 : decode cX10_confidence 37 = .ok (.goto 4, 3) := by decide +kernel
theorem dX10_confidence_40 : decode cX10_confidence 40 = .ok (.iconst 0, 1) := by decide +kernel
theorem dX10_confidence_41 : decode cX10_confidence 41 = .ok (.iadd, 1) := by decide +kernel
theorem dX10_confidence_42 : decode cX10_confidence 42 = .ok (.istore_n 2, 1) := by decide +kernel
theorem dX10_confidence_43 : decode cX10_confidence 43 = .ok (.iinc 3 1, 3) := by decide +kernel
theorem dX10_confidence_46 : decode cX10_confidence 46 = .ok (.goto (-37), 3) := by decide +kernel
theorem dX10_confidence_49 : decode cX10_confidence 49 = .ok (.iload_n 2, 1) := by decide +kernel
theorem dX10_confidence_50 : decode cX10_confidence 50 = .ok (.ireturn, 1) := by decide +kernel
theorem dX10_hold_0 : decode cX10_hold 0 = .ok (.iconst 0, 1) := by decide +kernel
theorem dX10_hold_1 : decode cX10_hold 1 = .ok (.istore_n 2, 1) := by decide +kernel
theorem dX10_hold_2 : decode cX10_hold 2 = .ok (.iconst 0, 1) := by decide +kernel
theorem dX10_hold_3 : decode cX10_hold 3 = .ok (.istore_n 3, 1) := by decide +kernel
theorem dX10_hold_4 : decode cX10_hold 4 = .ok (.iload_n 3, 1) := by decide +kernel
theorem dX10_hold_5 : decode cX10_hold 5 = .ok (.aload_n 0, 1) := by decide +kernel
theorem dX10_hold_6 : decode cX10_hold 6 = .ok (.iload_n 1, 1) := by decide +kernel
theorem dX10_hold_7 : decode cX10_hold 7 = .ok (.invokevirtual 182, 3) := by decide +kernel
theorem dX10_hold_10 : decode cX10_hold 10 = .ok (.if_icmp .ge 38, 3) := by decide +kernel
theorem dX10_hold_13 : decode cX10_hold 13 = .ok (.iload_n 2, 1) := by decide +kernel
theorem dX10_hold_14 : decode cX10_hold 14 = .ok (.ifCond .ne 22, 3) := by decide +kernel
theorem dX10_hold_17 : decode cX10_hold 17 = .ok (.aload_n 0, 1) := by decide +kernel
theorem dX10_hold_18 : decode cX10_hold 18 = .ok (.getfield 30, 3) := by decide +kernel
theorem dX10_hold_21 : decode cX10_hold 21 = .ok (.aload_n 0, 1) := by decide +kernel
theorem dX10_hold_22 : decode cX10_hold 22 = .ok (.aload_n 0, 1) := by decide +kernel
theorem dX10_hold_23 : decode cX10_hold 23 = .ok (.iload_n 1, 1) := by decide +kernel
theorem dX10_hold_24 : decode cX10_hold 24 = .ok (.iload_n 3, 1) := by decide +kernel
theorem dX10_hold_25 : decode cX10_hold 25 = .ok (.invokevirtual 224, 3) := by decide +kernel
theorem dX10_hold_28 : decode cX10_hold 28 = .ok (.invokevirtual 198, 3) := by decide +kernel
theorem dX10_hold_31 : decode cX10_hold 31 = .ok (.iaload, 1) := by decide +kernel
theorem dX10_hold_32 : decode cX10_hold 32 = .ok (.iconst 4, 1) := by decide +kernel
theorem dX10_hold_33 : decode cX10_hold 33 = .ok (.if_icmp .ne 7, 3) := by decide +kernel
theorem dX10_hold_36 : decode cX10_hold 36 = .ok (.iconst 1, 1) := by decide +kernel
theorem dX10_hold_37 : decode cX10_hold 37 = .ok (.goto 4, 3) := by decide +kernel
theorem dX10_hold_40 : decode cX10_hold 40 = .ok (.iconst 0, 1) := by decide +kernel
theorem dX10_hold_41 : decode cX10_hold 41 = .ok (.istore_n 2, 1) := by decide +kernel
theorem dX10_hold_42 : decode cX10_hold 42 = .ok (.iinc 3 1, 3) := by decide +kernel
theorem dX10_hold_45 : decode cX10_hold 45 = .ok (.goto (-41), 3) := by decide +kernel
theorem dX10_hold_48 : decode cX10_hold 48 = .ok (.iconst 0, 1) := by decide +kernel
theorem dX10_hold_49 : decode cX10_hold 49 = .ok (.istore_n 3, 1) := by decide +kernel
theorem dX10_hold_50 : decode cX10_hold 50 = .ok (.iload_n 3, 1) := by decide +kernel
theorem dX10_hold_51 : decode cX10_hold 51 = .ok (.aload_n 0, 1) := by decide +kernel
theorem dX10_hold_52 : decode cX10_hold 52 = .ok (.iload_n 1, 1) := by decide +kernel
theorem dX10_hold_53 : decode cX10_hold 53 = .ok (.invokevirtual 188, 3) := by decide +kernel
theorem dX10_hold_56 : decode cX10_hold 56 = .ok (.if_icmp .ge 32, 3) := by decide +kernel
theorem dX10_hold_59 : decode cX10_hold 59 = .ok (.iload_n 2, 1) := by decide +kernel
theorem dX10_hold_60 : decode cX10_hold 60 = .ok (.ifCond .ne 16, 3) := by decide +kernel
theorem dX10_hold_63 : decode cX10_hold 63 = .ok (.aload_n 0, 1) := by decide +kernel
theorem dX10_hold_64 : decode cX10_hold 64 = .ok (.aload_n 0, 1) := by decide +kernel
theorem dX10_hold_65 : decode cX10_hold 65 = .ok (.iload_n 1, 1) := by decide +kernel
theorem dX10_hold_66 : decode cX10_hold 66 = .ok (.iload_n 3, 1) := by decide +kernel
theorem dX10_hold_67 : decode cX10_hold 67 = .ok (.invokevirtual 255, 3) := by decide +kernel
theorem dX10_hold_70 : decode cX10_hold 70 = .ok (.invokevirtual 265, 3) := by decide +kernel
theorem dX10_hold_73 : decode cX10_hold 73 = .ok (.ifCond .lt 7, 3) := by decide +kernel
theorem dX10_hold_76 : decode cX10_hold 76 = .ok (.iconst 1, 1) := by decide +kernel
theorem dX10_hold_77 : decode cX10_hold 77 = .ok (.goto 4, 3) := by decide +kernel
theorem dX10_hold_80 : decode cX10_hold 80 = .ok (.iconst 0, 1) := by decide +kernel
theorem dX10_hold_81 : decode cX10_hold 81 = .ok (.istore_n 2, 1) := by decide +kernel
theorem dX10_hold_82 : decode cX10_hold 82 = .ok (.iinc 3 1, 3) := by decide +kernel
theorem dX10_hold_85 : decode cX10_hold 85 = .ok (.goto (-35), 3) := by decide +kernel
theorem dX10_hold_88 : decode cX10_hold 88 = .ok (.aload_n 0, 1) := by decide +kernel
theorem dX10_hold_89 : decode cX10_hold 89 = .ok (.getfield 30, 3) := by decide +kernel
theorem dX10_hold_92 : decode cX10_hold 92 = .ok (.iload_n 1, 1) := by decide +kernel
theorem dX10_hold_93 : decode cX10_hold 93 = .ok (.iconst 2, 1) := by decide +kernel
theorem dX10_hold_94 : decode cX10_hold 94 = .ok (.iastore, 1) := by decide +kernel
theorem dX10_hold_95 : decode cX10_hold 95 = .ok (.aload_n 0, 1) := by decide +kernel
theorem dX10_hold_96 : decode cX10_hold 96 = .ok (.getfield 40, 3) := by decide +kernel
theorem dX10_hold_99 : decode cX10_hold 99 = .ok (.aload_n 0, 1) := by decide +kernel
theorem dX10_hold_100 : decode cX10_hold 100 = .ok (.getfield 43, 3) := by decide +kernel
theorem dX10_hold_103 : decode cX10_hold 103 = .ok (.iload_n 1, 1) := by decide +kernel
theorem dX10_hold_104 : decode cX10_hold 104 = .ok (.iastore, 1) := by decide +kernel
theorem dX10_hold_105 : decode cX10_hold 105 = .ok (.aload_n 0, 1) := by decide +kernel
theorem dX10_hold_106 : decode cX10_hold 106 = .ok (.dup, 1) := by decide +kernel
theorem dX10_hold_107 : decode cX10_hold 107 = .ok (.getfield 43, 3) := by decide +kernel
theorem dX10_hold_110 : decode cX10_hold 110 = .ok (.iconst 1, 1) := by decide +kernel
theorem dX10_hold_111 : decode cX10_hold 111 = .ok (.iadd, 1) := by decide +kernel
theorem dX10_hold_112 : decode cX10_hold 112 = .ok (.putfield 43, 3) := by decide +kernel
theorem dX10_hold_115 : decode cX10_hold 115 = .ok (.iconst 0, 1) := by decide +kernel
theorem dX10_hold_116 : decode cX10_hold 116 = .ok (.istore_n 3, 1) := by decide +kernel
theorem dX10_hold_117 : decode cX10_hold 117 = .ok (.iload_n 3, 1) := by decide +kernel
theorem dX10_hold_118 : decode cX10_hold 118 = .ok (.aload_n 0, 1) := by decide +kernel
theorem dX10_hold_119 : decode cX10_hold 119 = .ok (.iload_n 1, 1) := by decide +kernel
theorem dX10_hold_120 : decode cX10_hold 120 = .ok (.invokevirtual 188, 3) := by decide +kernel
theorem dX10_hold_123 : decode cX10_hold 123 = .ok (.if_icmp .ge 43, 3) := by decide +kernel
theorem dX10_hold_126 : decode cX10_hold 126 = .ok (.aload_n 0, 1) := by decide +kernel
theorem dX10_hold_127 : decode cX10_hold 127 = .ok (.iload_n 1, 1) := by decide +kernel
theorem dX10_hold_128 : decode cX10_hold 128 = .ok (.iload_n 3, 1) := by decide +kernel
theorem dX10_hold_129 : decode cX10_hold 129 = .ok (.invokevirtual 255, 3) := by decide +kernel
theorem dX10_hold_132 : decode cX10_hold 132 = .ok (.istore 4, 2) := by decide +kernel
theorem dX10_hold_134 : decode cX10_hold 134 = .ok (.aload_n 0, 1) := by decide +kernel
theorem dX10_hold_135 : decode cX10_hold 135 = .ok (.iload 4, 2) := by decide +kernel
theorem dX10_hold_137 : decode cX10_hold 137 = .ok (.invokevirtual 268, 3) := by decide +kernel
theorem dX10_hold_140 : decode cX10_hold 140 = .ok (.iconst 1, 1) := by decide +kernel
theorem dX10_hold_141 : decode cX10_hold 141 = .ok (.if_icmp .ne 19, 3) := by decide +kernel
theorem dX10_hold_144 : decode cX10_hold 144 = .ok (.aload_n 0, 1) := by decide +kernel
theorem dX10_hold_145 : decode cX10_hold 145 = .ok (.getfield 58, 3) := by decide +kernel
theorem dX10_hold_148 : decode cX10_hold 148 = .ok (.iload 4, 2) := by decide +kernel
theorem dX10_hold_150 : decode cX10_hold 150 = .ok (.iload_n 1, 1) := by decide +kernel
theorem dX10_hold_151 : decode cX10_hold 151 = .ok (.iastore, 1) := by decide +kernel
theorem dX10_hold_152 : decode cX10_hold 152 = .ok (.aload_n 0, 1) := by decide +kernel
theorem dX10_hold_153 : decode cX10_hold 153 = .ok (.getfield 61, 3) := by decide +kernel
theorem dX10_hold_156 : decode cX10_hold 156 = .ok (.iload 4, 2) := by decide +kernel
theorem dX10_hold_158 : decode cX10_hold 158 = .ok (.iload_n 1, 1) := by decide +kernel
theorem dX10_hold_159 : decode cX10_hold 159 = .ok (.iastore, 1) := by decide +kernel
theorem dX10_hold_160 : decode cX10_hold 160 = .ok (.iinc 3 1, 3) := by decide +kernel
theorem dX10_hold_163 : decode cX10_hold 163 = .ok (.goto (-46), 3) := by decide +kernel
theorem dX10_hold_166 : decode cX10_hold 166 = .ok (.iload_n 2, 1) := by decide +kernel
theorem dX10_hold_167 : decode cX10_hold 167 = .ok (.ifCond .eq 8, 3) := by decide +kernel
theorem dX10_hold_170 : decode cX10_hold 170 = .ok (.aload_n 0, 1) := by decide +kernel
theorem dX10_hold_171 : decode cX10_hold 171 = .ok (.iload_n 1, 1) := by decide +kernel
theorem dX10_hold_172 : decode cX10_hold 172 = .ok (.invokevirtual 271, 3) := by decide +kernel
theorem dX10_hold_175 : decode cX10_hold 175 = .ok (.return_, 1) := by decide +kernel
theorem dX10_reject_0 : decode cX10_reject 0 = .ok (.aload_n 0, 1) := by decide +kernel
theorem dX10_reject_1 : decode cX10_reject 1 = .ok (.getfield 30, 3) := by decide +kernel
theorem dX10_reject_4 : decode cX10_reject 4 = .ok (.iload_n 1, 1) := by decide +kernel
theorem dX10_reject_5 : decode cX10_reject 5 = .ok (.iconst 4, 1) := by decide +kernel
theorem dX10_reject_6 : decode cX10_reject 6 = .ok (.iastore, 1) := by decide +kernel
theorem dX10_reject_7 : decode cX10_reject 7 = .ok (.iconst 0, 1) := by decide +kernel
theorem dX10_reject_8 : decode cX10_reject 8 = .ok (.istore_n 2, 1) := by decide +kernel
theorem dX10_reject_9 : decode cX10_reject 9 = .ok (.iload_n 2, 1) := by decide +kernel
theorem dX10_reject_10 : decode cX10_reject 10 = .ok (.aload_n 0, 1) := by decide +kernel
theorem dX10_reject_11 : decode cX10_reject 11 = .ok (.iload_n 1, 1) := by decide +kernel
theorem dX10_reject_12 : decode cX10_reject 12 = .ok (.invokevirtual 188, 3) := by decide +kernel
theorem dX10_reject_15 : decode cX10_reject 15 = .ok (.if_icmp .ge 44, 3) := by decide +kernel
theorem dX10_reject_18 : decode cX10_reject 18 = .ok (.aload_n 0, 1) := by decide +kernel
theorem dX10_reject_19 : decode cX10_reject 19 = .ok (.iload_n 1, 1) := by decide +kernel
theorem dX10_reject_20 : decode cX10_reject 20 = .ok (.iload_n 2, 1) := by decide +kernel
theorem dX10_reject_21 : decode cX10_reject 21 = .ok (.invokevirtual 255, 3) := by decide +kernel
theorem dX10_reject_24 : decode cX10_reject 24 = .ok (.istore_n 3, 1) := by decide +kernel
theorem dX10_reject_25 : decode cX10_reject 25 = .ok (.aload_n 0, 1) := by decide +kernel
theorem dX10_reject_26 : decode cX10_reject 26 = .ok (.getfield 58, 3) := by decide +kernel
theorem dX10_reject_29 : decode cX10_reject 29 = .ok (.iload_n 3, 1) := by decide +kernel
theorem dX10_reject_30 : decode cX10_reject 30 = .ok (.iaload, 1) := by decide +kernel
theorem dX10_reject_31 : decode cX10_reject 31 = .ok (.iload_n 1, 1) := by decide +kernel
theorem dX10_reject_32 : decode cX10_reject 32 = .ok (.if_icmp .ne 21, 3) := by decide +kernel
theorem dX10_reject_35 : decode cX10_reject 35 = .ok (.aload_n 0, 1) := by decide +kernel
theorem dX10_reject_36 : decode cX10_reject 36 = .ok (.getfield 58, 3) := by decide +kernel
theorem dX10_reject_39 : decode cX10_reject 39 = .ok (.iload_n 3, 1) := by decide +kernel
theorem dX10_reject_40 : decode cX10_reject 40 = .ok (.aload_n 0, 1) := by decide +kernel
theorem dX10_reject_41 : decode cX10_reject 41 = .ok (.iload_n 3, 1) := by decide +kernel
theorem dX10_reject_42 : decode cX10_reject 42 = .ok (.invokevirtual 274, 3) := by decide +kernel
theorem dX10_reject_45 : decode cX10_reject 45 = .ok (.iastore, 1) := by decide +kernel
theorem dX10_reject_46 : decode cX10_reject 46 = .ok (.aload_n 0, 1) := by decide +kernel
theorem dX10_reject_47 : decode cX10_reject 47 = .ok (.getfield 64, 3) := by decide +kernel
theorem dX10_reject_50 : decode cX10_reject 50 = .ok (.iload_n 3, 1) := by decide +kernel
theorem dX10_reject_51 : decode cX10_reject 51 = .ok (.iconst 0, 1) := by decide +kernel
theorem dX10_reject_52 : decode cX10_reject 52 = .ok (.iastore, 1) := by decide +kernel
theorem dX10_reject_53 : decode cX10_reject 53 = .ok (.iinc 2 1, 3) := by decide +kernel
theorem dX10_reject_56 : decode cX10_reject 56 = .ok (.goto (-47), 3) := by decide +kernel
theorem dX10_reject_59 : decode cX10_reject 59 = .ok (.return_, 1) := by decide +kernel
theorem dX10_bestOf_0 : decode cX10_bestOf 0 = .ok (.iconst (-1), 1) := by decide +kernel
theorem dX10_bestOf_1 : decode cX10_bestOf 1 = .ok (.istore_n 2, 1) := by decide +kernel
theorem dX10_bestOf_2 : decode cX10_bestOf 2 = .ok (.iconst 0, 1) := by decide +kernel
theorem dX10_bestOf_3 : decode cX10_bestOf 3 = .ok (.istore_n 3, 1) := by decide +kernel
theorem dX10_bestOf_4 : decode cX10_bestOf 4 = .ok (.iconst 0, 1) := by decide +kernel
theorem dX10_bestOf_5 : decode cX10_bestOf 5 = .ok (.istore 4, 2) := by decide +kernel
theorem dX10_bestOf_7 : decode cX10_bestOf 7 = .ok (.iload 4, 2) := by decide +kernel
theorem dX10_bestOf_9 : decode cX10_bestOf 9 = .ok (.aload_n 0, 1) := by decide +kernel
theorem dX10_bestOf_10 : decode cX10_bestOf 10 = .ok (.getfield 43, 3) := by decide +kernel
theorem dX10_bestOf_13 : decode cX10_bestOf 13 = .ok (.if_icmp .ge 63, 3) := by decide +kernel
theorem dX10_bestOf_16 : decode cX10_bestOf 16 = .ok (.aload_n 0, 1) := by decide +kernel
theorem dX10_bestOf_17 : decode cX10_bestOf 17 = .ok (.getfield 40, 3) := by decide +kernel
theorem dX10_bestOf_20 : decode cX10_bestOf 20 = .ok (.iload 4, 2) := by decide +kernel
theorem dX10_bestOf_22 : decode cX10_bestOf 22 = .ok (.iaload, 1) := by decide +kernel
theorem dX10_bestOf_23 : decode cX10_bestOf 23 = .ok (.istore 5, 2) := by decide +kernel
theorem dX10_bestOf_25 : decode cX10_bestOf 25 = .ok (.aload_n 0, 1) := by decide +kernel
theorem dX10_bestOf_26 : decode cX10_bestOf 26 = .ok (.getfield 30, 3) := by decide +kernel
theorem dX10_bestOf_29 : decode cX10_bestOf 29 = .ok (.iload 5, 2) := by decide +kernel
theorem dX10_bestOf_31 : decode cX10_bestOf 31 = .ok (.iaload, 1) := by decide +kernel
theorem dX10_bestOf_32 : decode cX10_bestOf 32 = .ok (.iconst 4, 1) := by decide +kernel
theorem dX10_bestOf_33 : decode cX10_bestOf 33 = .ok (.if_icmp .eq 37, 3) := by decide +kernel
theorem dX10_bestOf_36 : decode cX10_bestOf 36 = .ok (.aload_n 0, 1) := by decide +kernel
theorem dX10_bestOf_37 : decode cX10_bestOf 37 = .ok (.iload 5, 2) := by decide +kernel
theorem dX10_bestOf_39 : decode cX10_bestOf 39 = .ok (.iload_n 1, 1) := by decide +kernel
theorem dX10_bestOf_40 : decode cX10_bestOf 40 = .ok (.invokevirtual 258, 3) := by decide +kernel
theorem dX10_bestOf_43 : decode cX10_bestOf 43 = .ok (.ifCond .eq 27, 3) := by decide +kernel
theorem dX10_bestOf_46 : decode cX10_bestOf 46 = .ok (.aload_n 0, 1) := by decide +kernel
theorem dX10_bestOf_47 : decode cX10_bestOf 47 = .ok (.iload 5, 2) := by decide +kernel
theorem dX10_bestOf_49 : decode cX10_bestOf 49 = .ok (.invokevirtual 277, 3) := by decide +kernel
theorem dX10_bestOf_52 : decode cX10_bestOf 52 = .ok (.istore 6, 2) := by decide +kernel
theorem dX10_bestOf_54 : decode cX10_bestOf 54 = .ok (.iload_n 2, 1) := by decide +kernel
theorem dX10_bestOf_55 : decode cX10_bestOf 55 = .ok (.ifCond .lt 9, 3) := by decide +kernel
theorem dX10_bestOf_58 : decode cX10_bestOf 58 = .ok (.iload 6, 2) := by decide +kernel
theorem dX10_bestOf_60 : decode cX10_bestOf 60 = .ok (.iload_n 3, 1) := by decide +kernel
theorem dX10_bestOf_61 : decode cX10_bestOf 61 = .ok (.if_icmp .le 9, 3) := by decide +kernel
theorem dX10_bestOf_64 : decode cX10_bestOf 64 = .ok (.iload 5, 2) := by decide +kernel
theorem dX10_bestOf_66 : decode cX10_bestOf 66 = .ok (.istore_n 2, 1) := by decide +kernel
theorem dX10_bestOf_67 : decode cX10_bestOf 67 = .ok (.iload 6, 2) := by decide +kernel
theorem dX10_bestOf_69 : decode cX10_bestOf 69 = .ok (.istore_n 3, 1) := by decide +kernel
theorem dX10_bestOf_70 : decode cX10_bestOf 70 = .ok (.iinc 4 1, 3) := by decide +kernel
theorem dX10_bestOf_73 : decode cX10_bestOf 73 = .ok (.goto (-66), 3) := by decide +kernel
theorem dX10_bestOf_76 : decode cX10_bestOf 76 = .ok (.iload_n 2, 1) := by decide +kernel
theorem dX10_bestOf_77 : decode cX10_bestOf 77 = .ok (.ireturn, 1) := by decide +kernel
theorem dX10_isLiked_0 : decode cX10_isLiked 0 = .ok (.iconst 1, 1) := by decide +kernel
theorem dX10_isLiked_1 : decode cX10_isLiked 1 = .ok (.istore_n 2, 1) := by decide +kernel
theorem dX10_isLiked_2 : decode cX10_isLiked 2 = .ok (.iconst 0, 1) := by decide +kernel
theorem dX10_isLiked_3 : decode cX10_isLiked 3 = .ok (.istore_n 3, 1) := by decide +kernel
theorem dX10_isLiked_4 : decode cX10_isLiked 4 = .ok (.iload_n 3, 1) := by decide +kernel
theorem dX10_isLiked_5 : decode cX10_isLiked 5 = .ok (.aload_n 0, 1) := by decide +kernel
theorem dX10_isLiked_6 : decode cX10_isLiked 6 = .ok (.iload_n 1, 1) := by decide +kernel
theorem dX10_isLiked_7 : decode cX10_isLiked 7 = .ok (.invokevirtual 188, 3) := by decide +kernel
theorem dX10_isLiked_10 : decode cX10_isLiked 10 = .ok (.if_icmp .ge 34, 3) := by decide +kernel
theorem dX10_isLiked_13 : decode cX10_isLiked 13 = .ok (.iload_n 2, 1) := by decide +kernel
theorem dX10_isLiked_14 : decode cX10_isLiked 14 = .ok (.ifCond .eq 22, 3) := by decide +kernel
theorem dX10_isLiked_17 : decode cX10_isLiked 17 = .ok (.aload_n 0, 1) := by decide +kernel
theorem dX10_isLiked_18 : decode cX10_isLiked 18 = .ok (.getfield 58, 3) := by decide +kernel
theorem dX10_isLiked_21 : decode cX10_isLiked 21 = .ok (.aload_n 0, 1) := by decide +kernel
theorem dX10_isLiked_22 : decode cX10_isLiked 22 = .ok (.iload_n 1, 1) := by decide +kernel
theorem dX10_isLiked_23 : decode cX10_isLiked 23 = .ok (.iload_n 3, 1) := by decide +kernel
theorem dX10_isLiked_24 : decode cX10_isLiked 24 = .ok (.invokevirtual 255, 3) := by decide +kernel
theorem dX10_isLiked_27 : decode cX10_isLiked 27 = .ok (.iaload, 1) := by decide +kernel
theorem dX10_isLiked_28 : decode cX10_isLiked 28 = .ok (.iload_n 1, 1) := by decide +kernel
theorem dX10_isLiked_29 : decode cX10_isLiked 29 = .ok (.if_icmp .ne 7, 3) := by decide +kernel
theorem dX10_isLiked_32 : decode cX10_isLiked 32 = .ok (.iconst 1, 1) := by decide +kernel
theorem dX10_isLiked_33 : decode cX10_isLiked 33 = .ok (.goto 4, 3) := by decide +kernel
theorem dX10_isLiked_36 : decode cX10_isLiked 36 = .ok (.iconst 0, 1) := by decide +kernel
theorem dX10_isLiked_37 : decode cX10_isLiked 37 = .ok (.istore_n 2, 1) := by decide +kernel
theorem dX10_isLiked_38 : decode cX10_isLiked 38 = .ok (.iinc 3 1, 3) := by decide +kernel
theorem dX10_isLiked_41 : decode cX10_isLiked 41 = .ok (.goto (-37), 3) := by decide +kernel
theorem dX10_isLiked_44 : decode cX10_isLiked 44 = .ok (.iload_n 2, 1) := by decide +kernel
theorem dX10_isLiked_45 : decode cX10_isLiked 45 = .ok (.ireturn, 1) := by decide +kernel
theorem dX10_isStrong_0 : decode cX10_isStrong 0 = .ok (.aload_n 0, 1) := by decide +kernel
theorem dX10_isStrong_1 : decode cX10_isStrong 1 = .ok (.iload_n 1, 1) := by decide +kernel
theorem dX10_isStrong_2 : decode cX10_isStrong 2 = .ok (.invokevirtual 242, 3) := by decide +kernel
theorem dX10_isStrong_5 : decode cX10_isStrong 5 = .ok (.aload_n 0, 1) := by decide +kernel
theorem dX10_isStrong_6 : decode cX10_isStrong 6 = .ok (.iload_n 1, 1) := by decide +kernel
theorem dX10_isStrong_7 : decode cX10_isStrong 7 = .ok (.invokevirtual 280, 3) := by decide +kernel
theorem dX10_isStrong_10 : decode cX10_isStrong 10 = .ok (.istore_n 2, 1) := by decide +kernel
theorem dX10_isStrong_11 : decode cX10_isStrong 11 = .ok (.iconst 0, 1) := by decide +kernel
theorem dX10_isStrong_12 : decode cX10_isStrong 12 = .ok (.istore_n 3, 1) := by decide +kernel
theorem dX10_isStrong_13 : decode cX10_isStrong 13 = .ok (.iload_n 3, 1) := by decide +kernel
theorem dX10_isStrong_14 : decode cX10_isStrong 14 = .ok (.aload_n 0, 1) := by decide +kernel
theorem dX10_isStrong_15 : decode cX10_isStrong 15 = .ok (.getfield 16, 3) := by decide +kernel
theorem dX10_isStrong_18 : decode cX10_isStrong 18 = .ok (.if_icmp .ge 36, 3) := by decide +kernel
theorem dX10_isStrong_21 : decode cX10_isStrong 21 = .ok (.iload_n 2, 1) := by decide +kernel
theorem dX10_isStrong_22 : decode cX10_isStrong 22 = .ok (.ifCond .eq 24, 3) := by decide +kernel
theorem dX10_isStrong_25 : decode cX10_isStrong 25 = .ok (.aload_n 0, 1) := by decide +kernel
theorem dX10_isStrong_26 : decode cX10_isStrong 26 = .ok (.getfield 52, 3) := by decide +kernel
theorem dX10_isStrong_29 : decode cX10_isStrong 29 = .ok (.iload_n 3, 1) := by decide +kernel
theorem dX10_isStrong_30 : decode cX10_isStrong 30 = .ok (.baload, 1) := by decide +kernel
theorem dX10_isStrong_31 : decode cX10_isStrong 31 = .ok (.ifCond .eq 11, 3) := by decide +kernel
theorem dX10_isStrong_34 : decode cX10_isStrong 34 = .ok (.aload_n 0, 1) := by decide +kernel
theorem dX10_isStrong_35 : decode cX10_isStrong 35 = .ok (.iload_n 3, 1) := by decide +kernel
theorem dX10_isStrong_36 : decode cX10_isStrong 36 = .ok (.invokevirtual 280, 3) := by decide +kernel
theorem dX10_isStrong_39 : decode cX10_isStrong 39 = .ok (.ifCond .eq 7, 3) := by decide +kernel
theorem dX10_isStrong_42 : decode cX10_isStrong 42 = .ok (.iconst 1, 1) := by decide +kernel
theorem dX10_isStrong_43 : decode cX10_isStrong 43 = .ok (.goto 4, 3) := by decide +kernel
theorem dX10_isStrong_46 : decode cX10_isStrong 46 = .ok (.iconst 0, 1) := by decide +kernel
theorem dX10_isStrong_47 : decode cX10_isStrong 47 = .ok (.istore_n 2, 1) := by decide +kernel
theorem dX10_isStrong_48 : decode cX10_isStrong 48 = .ok (.iinc 3 1, 3) := by decide +kernel
theorem dX10_isStrong_51 : decode cX10_isStrong 51 = .ok (.goto (-38), 3) := by decide +kernel
theorem dX10_isStrong_54 : decode cX10_isStrong 54 = .ok (.iload_n 2, 1) := by decide +kernel
theorem dX10_isStrong_55 : decode cX10_isStrong 55 = .ok (.ireturn, 1) := by decide +kernel
theorem dX10_query_0 : decode cX10_query 0 = .ok (.aload_n 0, 1) := by decide +kernel
theorem dX10_query_1 : decode cX10_query 1 = .ok (.iconst 0, 1) := by decide +kernel
theorem dX10_query_2 : decode cX10_query 2 = .ok (.putfield 145, 3) := by decide +kernel
theorem dX10_query_5 : decode cX10_query 5 = .ok (.aload_n 0, 1) := by decide +kernel
theorem dX10_query_6 : decode cX10_query 6 = .ok (.iload_n 1, 1) := by decide +kernel
theorem dX10_query_7 : decode cX10_query 7 = .ok (.invokevirtual 198, 3) := by decide +kernel
theorem dX10_query_10 : decode cX10_query 10 = .ok (.istore_n 2, 1) := by decide +kernel
theorem dX10_query_11 : decode cX10_query 11 = .ok (.aload_n 0, 1) := by decide +kernel
theorem dX10_query_12 : decode cX10_query 12 = .ok (.iload_n 2, 1) := by decide +kernel
theorem dX10_query_13 : decode cX10_query 13 = .ok (.invokevirtual 283, 3) := by decide +kernel
theorem dX10_query_16 : decode cX10_query 16 = .ok (.ifCond .ne 7, 3) := by decide +kernel
theorem dX10_query_19 : decode cX10_query 19 = .ok (.iconst (-1), 1) := by decide +kernel
theorem dX10_query_20 : decode cX10_query 20 = .ok (.goto 16, 3) := by decide +kernel
theorem dX10_query_23 : decode cX10_query 23 = .ok (.aload_n 0, 1) := by decide +kernel
theorem dX10_query_24 : decode cX10_query 24 = .ok (.iload_n 2, 1) := by decide +kernel
theorem dX10_query_25 : decode cX10_query 25 = .ok (.invokevirtual 286, 3) := by decide +kernel
theorem dX10_query_28 : decode cX10_query 28 = .ok (.ifCond .eq 7, 3) := by decide +kernel
theorem dX10_query_31 : decode cX10_query 31 = .ok (.iconst 1, 1) := by decide +kernel
theorem dX10_query_32 : decode cX10_query 32 = .ok (.goto 4, 3) := by decide +kernel
theorem dX10_query_35 : decode cX10_query 35 = .ok (.iconst 0, 1) := by decide +kernel
theorem dX10_query_36 : decode cX10_query 36 = .ok (.ireturn, 1) := by decide +kernel
theorem dX10_openPolls_0 : decode cX10_openPolls 0 = .ok (.iconst 0, 1) := by decide +kernel
theorem dX10_openPolls_1 : decode cX10_openPolls 1 = .ok (.istore_n 1, 1) := by decide +kernel
theorem dX10_openPolls_2 : decode cX10_openPolls 2 = .ok (.iconst 0, 1) := by decide +kernel
theorem dX10_openPolls_3 : decode cX10_openPolls 3 = .ok (.istore_n 2, 1) := by decide +kernel
theorem dX10_openPolls_4 : decode cX10_openPolls 4 = .ok (.iload_n 2, 1) := by decide +kernel
theorem dX10_openPolls_5 : decode cX10_openPolls 5 = .ok (.bipush 6, 2) := by decide +kernel
theorem dX10_openPolls_7 : decode cX10_openPolls 7 = .ok (.if_icmp .ge 26, 3) := by decide +kernel
theorem dX10_openPolls_10 : decode cX10_openPolls 10 = .ok (.iload_n 1, 1) := by decide +kernel
theorem dX10_openPolls_11 : decode cX10_openPolls 11 = .ok (.aload_n 0, 1) := by decide +kernel
theorem dX10_openPolls_12 : decode cX10_openPolls 12 = .ok (.getfield 67, 3) := by decide +kernel
theorem dX10_openPolls_15 : decode cX10_openPolls 15 = .ok (.iload_n 2, 1) := by decide +kernel
theorem dX10_openPolls_16 : decode cX10_openPolls 16 = .ok (.iaload, 1) := by decide +kernel
theorem dX10_openPolls_17 : decode cX10_openPolls 17 = .ok (.ifCond .lt 7, 3) := by decide +kernel
theorem dX10_openPolls_20 : decode cX10_openPolls 20 = .ok (.iconst 1, 1) := by decide +kernel
theorem dX10_openPolls_21 : decode cX10_openPolls 21 = .ok (.goto 4, 3) := by decide +kernel
theorem dX10_openPolls_24 : decode cX10_openPolls 24 = .ok (.iconst 0, 1) := by decide +kernel
theorem dX10_openPolls_25 : decode cX10_openPolls 25 = .ok (.iadd, 1) := by decide +kernel
theorem dX10_openPolls_26 : decode cX10_openPolls 26 = .ok (.istore_n 1, 1) := by decide +kernel
theorem dX10_openPolls_27 : decode cX10_openPolls 27 = .ok (.iinc 2 1, 3) := by decide +kernel
theorem dX10_openPolls_30 : decode cX10_openPolls 30 = .ok (.goto (-26), 3) := by decide +kernel
theorem dX10_openPolls_33 : decode cX10_openPolls 33 = .ok (.iload_n 1, 1) := by decide +kernel
theorem dX10_openPolls_34 : decode cX10_openPolls 34 = .ok (.ireturn, 1) := by decide +kernel
theorem dX10_placeOf_0 : decode cX10_placeOf 0 = .ok (.iconst (-1), 1) := by decide +kernel
theorem dX10_placeOf_1 : decode cX10_placeOf 1 = .ok (.istore_n 2, 1) := by decide +kernel
theorem dX10_placeOf_2 : decode cX10_placeOf 2 = .ok (.iconst 0, 1) := by decide +kernel
theorem dX10_placeOf_3 : decode cX10_placeOf 3 = .ok (.istore_n 3, 1) := by decide +kernel
theorem dX10_placeOf_4 : decode cX10_placeOf 4 = .ok (.iload_n 3, 1) := by decide +kernel
theorem dX10_placeOf_5 : decode cX10_placeOf 5 = .ok (.bipush 6, 2) := by decide +kernel
theorem dX10_placeOf_7 : decode cX10_placeOf 7 = .ok (.if_icmp .ge 29, 3) := by decide +kernel
theorem dX10_placeOf_10 : decode cX10_placeOf 10 = .ok (.iload_n 1, 1) := by decide +kernel
theorem dX10_placeOf_11 : decode cX10_placeOf 11 = .ok (.ifCond .lt 17, 3) := by decide +kernel
theorem dX10_placeOf_14 : decode cX10_placeOf 14 = .ok (.aload_n 0, 1) := by decide +kernel
theorem dX10_placeOf_15 : decode cX10_placeOf 15 = .ok (.getfield 67, 3) := by decide +kernel
theorem dX10_placeOf_18 : decode cX10_placeOf 18 = .ok (.iload_n 3, 1) := by decide +kernel
theorem dX10_placeOf_19 : decode cX10_placeOf 19 = .ok (.iaload, 1) := by decide +kernel
theorem dX10_placeOf_20 : decode cX10_placeOf 20 = .ok (.iload_n 1, 1) := by decide +kernel
theorem dX10_placeOf_21 : decode cX10_placeOf 21 = .ok (.if_icmp .ne 7, 3) := by decide +kernel
theorem dX10_placeOf_24 : decode cX10_placeOf 24 = .ok (.iload_n 3, 1) := by decide +kernel
theorem dX10_placeOf_25 : decode cX10_placeOf 25 = .ok (.goto 4, 3) := by decide +kernel
theorem dX10_placeOf_28 : decode cX10_placeOf 28 = .ok (.iload_n 2, 1) := by decide +kernel
theorem dX10_placeOf_29 : decode cX10_placeOf 29 = .ok (.istore_n 2, 1) := by decide +kernel
theorem dX10_placeOf_30 : decode cX10_placeOf 30 = .ok (.iinc 3 1, 3) := by decide +kernel
theorem dX10_placeOf_33 : decode cX10_placeOf 33 = .ok (.goto (-29), 3) := by decide +kernel
theorem dX10_placeOf_36 : decode cX10_placeOf 36 = .ok (.iload_n 2, 1) := by decide +kernel
theorem dX10_placeOf_37 : decode cX10_placeOf 37 = .ok (.ireturn, 1) := by decide +kernel
theorem dX10_draw_0 : decode cX10_draw 0 = .ok (.lconst 0, 1) := by decide +kernel
theorem dX10_draw_1 : decode cX10_draw 1 = .ok (.lstore_n 1, 1) := by decide +kernel
theorem dX10_draw_2 : decode cX10_draw 2 = .ok (.iconst 0, 1) := by decide +kernel
theorem dX10_draw_3 : decode cX10_draw 3 = .ok (.istore_n 3, 1) := by decide +kernel
theorem dX10_draw_4 : decode cX10_draw 4 = .ok (.iload_n 3, 1) := by decide +kernel
theorem dX10_draw_5 : decode cX10_draw 5 = .ok (.bipush 20, 2) := by decide +kernel
theorem dX10_draw_7 : decode cX10_draw 7 = .ok (.if_icmp .ge 32, 3) := by decide +kernel
theorem dX10_draw_10 : decode cX10_draw 10 = .ok (.lload_n 1, 1) := by decide +kernel
theorem dX10_draw_11 : decode cX10_draw 11 = .ok (.aload_n 0, 1) := by decide +kernel
theorem dX10_draw_12 : decode cX10_draw 12 = .ok (.getfield 79, 3) := by decide +kernel
theorem dX10_draw_15 : decode cX10_draw 15 = .ok (.iload_n 3, 1) := by decide +kernel
theorem dX10_draw_16 : decode cX10_draw 16 = .ok (.baload, 1) := by decide +kernel
theorem dX10_draw_17 : decode cX10_draw 17 = .ok (.ifCond .eq 7, 3) := by decide +kernel
theorem dX10_draw_20 : decode cX10_draw 20 = .ok (.lconst 0, 1) := by decide +kernel
theorem dX10_draw_21 : decode cX10_draw 21 = .ok (.goto 10, 3) := by decide +kernel
theorem dX10_draw_24 : decode cX10_draw 24 = .ok (.aload_n 0, 1) := by decide +kernel
theorem dX10_draw_25 : decode cX10_draw 25 = .ok (.getfield 7, 3) := by decide +kernel
theorem dX10_draw_28 : decode cX10_draw 28 = .ok (.iload_n 3, 1) := by decide +kernel
theorem dX10_draw_29 : decode cX10_draw 29 = .ok (.iaload, 1) := by decide +kernel
theorem dX10_draw_30 : decode cX10_draw 30 = .ok (.i2l, 1) := by decide +kernel
theorem dX10_draw_31 : decode cX10_draw 31 = .ok (.ladd, 1) := by decide +kernel
theorem dX10_draw_32 : decode cX10_draw 32 = .ok (.lstore_n 1, 1) := by decide +kernel
theorem dX10_draw_33 : decode cX10_draw 33 = .ok (.iinc 3 1, 3) := by decide +kernel
theorem dX10_draw_36 : decode cX10_draw 36 = .ok (.goto (-32), 3) := by decide +kernel
theorem dX10_draw_39 : decode cX10_draw 39 = .ok (.aload_n 0, 1) := by decide +kernel
theorem dX10_draw_40 : decode cX10_draw 40 = .ok (.aload_n 0, 1) := by decide +kernel
theorem dX10_draw_41 : decode cX10_draw 41 = .ok (.getfield 118, 3) := by decide +kernel
theorem dX10_draw_44 : decode cX10_draw 44 = .ok (.ldc2_w 289, 3) := by decide +kernel
theorem dX10_draw_47 : decode cX10_draw 47 = .ok (.lmul, 1) := by decide +kernel
theorem dX10_draw_48 : decode cX10_draw 48 = .ok (.ldc2_w 291, 3) := by decide +kernel
theorem dX10_draw_51 : decode cX10_draw 51 = .ok (.ladd, 1) := by decide +kernel
theorem dX10_draw_52 : decode cX10_draw 52 = .ok (.putfield 118, 3) := by decide +kernel
theorem dX10_draw_55 : decode cX10_draw 55 = .ok (.aload_n 0, 1) := by decide +kernel
theorem dX10_draw_56 : decode cX10_draw 56 = .ok (.getfield 118, 3) := by decide +kernel
theorem dX10_draw_59 : decode cX10_draw 59 = .ok (.bipush 33, 2) := by decide +kernel
theorem dX10_draw_61 : decode cX10_draw 61 = .ok (.lushr, 1) := by decide +kernel
theorem dX10_draw_62 : decode cX10_draw 62 = .ok (.lload_n 1, 1) := by decide +kernel
theorem dX10_draw_63 : decode cX10_draw 63 = .ok (.lrem, 1) := by decide +kernel
theorem dX10_draw_64 : decode cX10_draw 64 = .ok (.lstore_n 3, 1) := by decide +kernel
theorem dX10_draw_65 : decode cX10_draw 65 = .ok (.iconst (-1), 1) := by decide +kernel
theorem dX10_draw_66 : decode cX10_draw 66 = .ok (.istore 5, 2) := by decide +kernel
theorem dX10_draw_68 : decode cX10_draw 68 = .ok (.lconst 0, 1) := by decide +kernel
theorem dX10_draw_69 : decode cX10_draw 69 = .ok (.lstore 6, 2) := by decide +kernel
theorem dX10_draw_71 : decode cX10_draw 71 = .ok (.iconst 0, 1) := by decide +kernel
theorem dX10_draw_72 : decode cX10_draw 72 = .ok (.istore 8, 2) := by decide +kernel
theorem dX10_draw_74 : decode cX10_draw 74 = .ok (.iload 8, 2) := by decide +kernel
theorem dX10_draw_76 : decode cX10_draw 76 = .ok (.bipush 20, 2) := by decide +kernel
theorem dX10_draw_78 : decode cX10_draw 78 = .ok (.if_icmp .ge 53, 3) := by decide +kernel
theorem dX10_draw_81 : decode cX10_draw 81 = .ok (.aload_n 0, 1) := by decide +kernel
theorem dX10_draw_82 : decode cX10_draw 82 = .ok (.getfield 79, 3) := by decide +kernel
theorem dX10_draw_85 : decode cX10_draw 85 = .ok (.iload 8, 2) := by decide +kernel
theorem dX10_draw_87 : decode cX10_draw 87 = .ok (.baload, 1) := by decide +kernel
theorem dX10_draw_88 : decode cX10_draw 88 = .ok (.ifCond .ne 37, 3) := by decide +kernel
theorem dX10_draw_91 : decode cX10_draw 91 = .ok (.lload 6, 2) := by decide +kernel
theorem dX10_draw_93 : decode cX10_draw 93 = .ok (.aload_n 0, 1) := by decide +kernel
theorem dX10_draw_94 : decode cX10_draw 94 = .ok (.getfield 7, 3) := by decide +kernel
theorem dX10_draw_97 : decode cX10_draw 97 = .ok (.iload 8, 2) := by decide +kernel
theorem dX10_draw_99 : decode cX10_draw 99 = .ok (.iaload, 1) := by decide +kernel
theorem dX10_draw_100 : decode cX10_draw 100 = .ok (.i2l, 1) := by decide +kernel
theorem dX10_draw_101 : decode cX10_draw 101 = .ok (.ladd, 1) := by decide +kernel
theorem dX10_draw_102 : decode cX10_draw 102 = .ok (.lstore 6, 2) := by decide +kernel
theorem dX10_draw_104 : decode cX10_draw 104 = .ok (.iload 5, 2) := by decide +kernel
theorem dX10_draw_106 : decode cX10_draw 106 = .ok (.ifCond .ge 15, 3) := by decide +kernel
theorem dX10_draw_109 : decode cX10_draw 109 = .ok (.lload 6, 2) := by decide +kernel
theorem dX10_draw_111 : decode cX10_draw 111 = .ok (.lload_n 3, 1) := by decide +kernel
theorem dX10_draw_112 : decode cX10_draw 112 = .ok (.lcmp, 1) := by decide +kernel
theorem dX10_draw_113 : decode cX10_draw 113 = .ok (.ifCond .le 8, 3) := by decide +kernel
theorem dX10_draw_116 : decode cX10_draw 116 = .ok (.iload 8, 2) := by decide +kernel
theorem dX10_draw_118 : decode cX10_draw 118 = .ok (.goto 5, 3) := by decide +kernel
theorem dX10_draw_121 : decode cX10_draw 121 = .ok (.iload 5, 2) := by decide +kernel
theorem dX10_draw_123 : decode cX10_draw 123 = .ok (.istore 5, 2) := by decide +kernel
theorem dX10_draw_125 : decode cX10_draw 125 = .ok (.iinc 8 1, 3) := by decide +kernel
theorem dX10_draw_128 : decode cX10_draw 128 = .ok (.goto (-54), 3) := by decide +kernel
theorem dX10_draw_131 : decode cX10_draw 131 = .ok (.aload_n 0, 1) := by decide +kernel
theorem dX10_draw_132 : decode cX10_draw 132 = .ok (.getfield 79, 3) := by decide +kernel
theorem dX10_draw_135 : decode cX10_draw 135 = .ok (.iload 5, 2) := by decide +kernel
theorem dX10_draw_137 : decode cX10_draw 137 = .ok (.iconst 1, 1) := by decide +kernel
theorem dX10_draw_138 : decode cX10_draw 138 = .ok (.bastore, 1) := by decide +kernel
theorem dX10_draw_139 : decode cX10_draw 139 = .ok (.iload 5, 2) := by decide +kernel
theorem dX10_draw_141 : decode cX10_draw 141 = .ok (.ireturn, 1) := by decide +kernel
theorem dX10_poll_0 : decode cX10_poll 0 = .ok (.iconst (-1), 1) := by decide +kernel
theorem dX10_poll_1 : decode cX10_poll 1 = .ok (.istore_n 1, 1) := by decide +kernel
theorem dX10_poll_2 : decode cX10_poll 2 = .ok (.aload_n 0, 1) := by decide +kernel
theorem dX10_poll_3 : decode cX10_poll 3 = .ok (.getfield 43, 3) := by decide +kernel
theorem dX10_poll_6 : decode cX10_poll 6 = .ok (.iconst 1, 1) := by decide +kernel
theorem dX10_poll_7 : decode cX10_poll 7 = .ok (.isub, 1) := by decide +kernel
theorem dX10_poll_8 : decode cX10_poll 8 = .ok (.istore_n 2, 1) := by decide +kernel
theorem dX10_poll_9 : decode cX10_poll 9 = .ok (.iload_n 2, 1) := by decide +kernel
theorem dX10_poll_10 : decode cX10_poll 10 = .ok (.ifCond .lt 49, 3) := by decide +kernel
theorem dX10_poll_13 : decode cX10_poll 13 = .ok (.aload_n 0, 1) := by decide +kernel
theorem dX10_poll_14 : decode cX10_poll 14 = .ok (.getfield 30, 3) := by decide +kernel
theorem dX10_poll_17 : decode cX10_poll 17 = .ok (.aload_n 0, 1) := by decide +kernel
theorem dX10_poll_18 : decode cX10_poll 18 = .ok (.getfield 40, 3) := by decide +kernel
theorem dX10_poll_21 : decode cX10_poll 21 = .ok (.iload_n 2, 1) := by decide +kernel
theorem dX10_poll_22 : decode cX10_poll 22 = .ok (.iaload, 1) := by decide +kernel
theorem dX10_poll_23 : decode cX10_poll 23 = .ok (.iaload, 1) := by decide +kernel
theorem dX10_poll_24 : decode cX10_poll 24 = .ok (.iconst 2, 1) := by decide +kernel
theorem dX10_poll_25 : decode cX10_poll 25 = .ok (.if_icmp .ne 26, 3) := by decide +kernel
theorem dX10_poll_28 : decode cX10_poll 28 = .ok (.aload_n 0, 1) := by decide +kernel
theorem dX10_poll_29 : decode cX10_poll 29 = .ok (.getfield 37, 3) := by decide +kernel
theorem dX10_poll_32 : decode cX10_poll 32 = .ok (.aload_n 0, 1) := by decide +kernel
theorem dX10_poll_33 : decode cX10_poll 33 = .ok (.getfield 40, 3) := by decide +kernel
theorem dX10_poll_36 : decode cX10_poll 36 = .ok (.iload_n 2, 1) := by decide +kernel
theorem dX10_poll_37 : decode cX10_poll 37 = .ok (.iaload, 1) := by decide +kernel
theorem dX10_poll_38 : decode cX10_poll 38 = .ok (.baload, 1) := by decide +kernel
theorem dX10_poll_39 : decode cX10_poll 39 = .ok (.ifCond .ne 12, 3) := by decide +kernel
theorem dX10_poll_42 : decode cX10_poll 42 = .ok (.aload_n 0, 1) := by decide +kernel
theorem dX10_poll_43 : decode cX10_poll 43 = .ok (.getfield 40, 3) := by decide +kernel
theorem dX10_poll_46 : decode cX10_poll 46 = .ok (.iload_n 2, 1) := by decide +kernel
theorem dX10_poll_47 : decode cX10_poll 47 = .ok (.iaload, 1) := by decide +kernel
theorem dX10_poll_48 : decode cX10_poll 48 = .ok (.goto 4, 3) := by decide +kernel
theorem dX10_poll_51 : decode cX10_poll 51 = .ok (.iload_n 1, 1) := by decide +kernel
theorem dX10_poll_52 : decode cX10_poll 52 = .ok (.istore_n 1, 1) := by decide +kernel
theorem dX10_poll_53 : decode cX10_poll 53 = .ok (.iinc 2 (-1), 3) := by decide +kernel
theorem dX10_poll_56 : decode cX10_poll 56 = .ok (.goto (-47), 3) := by decide +kernel
theorem dX10_poll_59 : decode cX10_poll 59 = .ok (.iconst 0, 1) := by decide +kernel
theorem dX10_poll_60 : decode cX10_poll 60 = .ok (.istore_n 2, 1) := by decide +kernel
theorem dX10_poll_61 : decode cX10_poll 61 = .ok (.iconst 0, 1) := by decide +kernel
theorem dX10_poll_62 : decode cX10_poll 62 = .ok (.istore_n 3, 1) := by decide +kernel
theorem dX10_poll_63 : decode cX10_poll 63 = .ok (.iload_n 3, 1) := by decide +kernel
theorem dX10_poll_64 : decode cX10_poll 64 = .ok (.bipush 20, 2) := by decide +kernel
theorem dX10_poll_66 : decode cX10_poll 66 = .ok (.if_icmp .ge 26, 3) := by decide +kernel
theorem dX10_poll_69 : decode cX10_poll 69 = .ok (.iload_n 2, 1) := by decide +kernel
theorem dX10_poll_70 : decode cX10_poll 70 = .ok (.aload_n 0, 1) := by decide +kernel
theorem dX10_poll_71 : decode cX10_poll 71 = .ok (.getfield 7, 3) := by decide +kernel
theorem dX10_poll_74 : decode cX10_poll 74 = .ok (.iload_n 3, 1) := by decide +kernel
theorem dX10_poll_75 : decode cX10_poll 75 = .ok (.iaload, 1) := by decide +kernel
theorem dX10_poll_76 : decode cX10_poll 76 = .ok (.ifCond .le 7, 3) := by decide +kernel
theorem dX10_poll_79 : decode cX10_poll 79 = .ok (.iconst 1, 1) := by decide +kernel
theorem dX10_poll_80 : decode cX10_poll 80 = .ok (.goto 4, 3) := by decide +kernel
theorem dX10_poll_83 : decode cX10_poll 83 = .ok (.iconst 0, 1) := by decide +kernel
theorem dX10_poll_84 : decode cX10_poll 84 = .ok (.iadd, 1) := by decide +kernel
theorem dX10_poll_85 : decode cX10_poll 85 = .ok (.istore_n 2, 1) := by decide +kernel
theorem dX10_poll_86 : decode cX10_poll 86 = .ok (.iinc 3 1, 3) := by decide +kernel
theorem dX10_poll_89 : decode cX10_poll 89 = .ok (.goto (-26), 3) := by decide +kernel
theorem dX10_poll_92 : decode cX10_poll 92 = .ok (.aload_n 0, 1) := by decide +kernel
theorem dX10_poll_93 : decode cX10_poll 93 = .ok (.iload_n 1, 1) := by decide +kernel
theorem dX10_poll_94 : decode cX10_poll 94 = .ok (.ifCond .ge 7, 3) := by decide +kernel
theorem dX10_poll_97 : decode cX10_poll 97 = .ok (.iconst 1, 1) := by decide +kernel
theorem dX10_poll_98 : decode cX10_poll 98 = .ok (.goto 25, 3) := by decide +kernel
theorem dX10_poll_101 : decode cX10_poll 101 = .ok (.aload_n 0, 1) := by decide +kernel
theorem dX10_poll_102 : decode cX10_poll 102 = .ok (.invokevirtual 293, 3) := by decide +kernel
theorem dX10_poll_105 : decode cX10_poll 105 = .ok (.bipush 6, 2) := by decide +kernel
theorem dX10_poll_107 : decode cX10_poll 107 = .ok (.if_icmp .eq 11, 3) := by decide +kernel
theorem dX10_poll_110 : decode cX10_poll 110 = .ok (.iload_n 2, 1) := by decide +kernel
theorem dX10_poll_111 : decode cX10_poll 111 = .ok (.aload_n 0, 1) := by decide +kernel
theorem dX10_poll_112 : decode cX10_poll 112 = .ok (.getfield 122, 3) := by decide +kernel
theorem dX10_poll_115 : decode cX10_poll 115 = .ok (.if_icmp .ge 7, 3) := by decide +kernel
theorem dX10_poll_118 : decode cX10_poll 118 = .ok (.iconst 2, 1) := by decide +kernel
theorem dX10_poll_119 : decode cX10_poll 119 = .ok (.goto 4, 3) := by decide +kernel
theorem dX10_poll_122 : decode cX10_poll 122 = .ok (.iconst 0, 1) := by decide +kernel
theorem dX10_poll_123 : decode cX10_poll 123 = .ok (.putfield 145, 3) := by decide +kernel
theorem dX10_poll_126 : decode cX10_poll 126 = .ok (.aload_n 0, 1) := by decide +kernel
theorem dX10_poll_127 : decode cX10_poll 127 = .ok (.getfield 145, 3) := by decide +kernel
theorem dX10_poll_130 : decode cX10_poll 130 = .ok (.ifCond .le 5, 3) := by decide +kernel
theorem dX10_poll_133 : decode cX10_poll 133 = .ok (.iconst 0, 1) := by decide +kernel
theorem dX10_poll_134 : decode cX10_poll 134 = .ok (.ireturn, 1) := by decide +kernel
theorem dX10_poll_135 : decode cX10_poll 135 = .ok (.iconst 0, 1) := by decide +kernel
theorem dX10_poll_136 : decode cX10_poll 136 = .ok (.istore_n 3, 1) := by decide +kernel
theorem dX10_poll_137 : decode cX10_poll 137 = .ok (.aload_n 0, 1) := by decide +kernel
theorem dX10_poll_138 : decode cX10_poll 138 = .ok (.getfield 67, 3) := by decide +kernel
theorem dX10_poll_141 : decode cX10_poll 141 = .ok (.iload_n 3, 1) := by decide +kernel
theorem dX10_poll_142 : decode cX10_poll 142 = .ok (.iaload, 1) := by decide +kernel
theorem dX10_poll_143 : decode cX10_poll 143 = .ok (.ifCond .lt 9, 3) := by decide +kernel
theorem dX10_poll_146 : decode cX10_poll 146 = .ok (.iinc 3 1, 3) := by decide +kernel
theorem dX10_poll_149 : decode cX10_poll 149 = .ok (.goto (-12), 3) := by decide +kernel
theorem dX10_poll_152 : decode cX10_poll 152 = .ok (.aload_n 0, 1) := by decide +kernel
theorem dX10_poll_153 : decode cX10_poll 153 = .ok (.getfield 37, 3) := by decide +kernel
theorem dX10_poll_156 : decode cX10_poll 156 = .ok (.iload_n 1, 1) := by decide +kernel
theorem dX10_poll_157 : decode cX10_poll 157 = .ok (.iconst 1, 1) := by decide +kernel
theorem dX10_poll_158 : decode cX10_poll 158 = .ok (.bastore, 1) := by decide +kernel
theorem dX10_poll_159 : decode cX10_poll 159 = .ok (.aload_n 0, 1) := by decide +kernel
theorem dX10_poll_160 : decode cX10_poll 160 = .ok (.getfield 67, 3) := by decide +kernel
theorem dX10_poll_163 : decode cX10_poll 163 = .ok (.iload_n 3, 1) := by decide +kernel
theorem dX10_poll_164 : decode cX10_poll 164 = .ok (.aload_n 0, 1) := by decide +kernel
theorem dX10_poll_165 : decode cX10_poll 165 = .ok (.getfield 297, 3) := by decide +kernel
theorem dX10_poll_168 : decode cX10_poll 168 = .ok (.iastore, 1) := by decide +kernel
theorem dX10_poll_169 : decode cX10_poll 169 = .ok (.aload_n 0, 1) := by decide +kernel
theorem dX10_poll_170 : decode cX10_poll 170 = .ok (.getfield 70, 3) := by decide +kernel
theorem dX10_poll_173 : decode cX10_poll 173 = .ok (.iload_n 3, 1) := by decide +kernel
theorem dX10_poll_174 : decode cX10_poll 174 = .ok (.iload_n 1, 1) := by decide +kernel
theorem dX10_poll_175 : decode cX10_poll 175 = .ok (.iastore, 1) := by decide +kernel
theorem dX10_poll_176 : decode cX10_poll 176 = .ok (.iconst 0, 1) := by decide +kernel
theorem dX10_poll_177 : decode cX10_poll 177 = .ok (.istore 4, 2) := by decide +kernel
theorem dX10_poll_179 : decode cX10_poll 179 = .ok (.iload 4, 2) := by decide +kernel
theorem dX10_poll_181 : decode cX10_poll 181 = .ok (.bipush 20, 2) := by decide +kernel
theorem dX10_poll_183 : decode cX10_poll 183 = .ok (.if_icmp .ge 17, 3) := by decide +kernel
theorem dX10_poll_186 : decode cX10_poll 186 = .ok (.aload_n 0, 1) := by decide +kernel
theorem dX10_poll_187 : decode cX10_poll 187 = .ok (.getfield 79, 3) := by decide +kernel
theorem dX10_poll_190 : decode cX10_poll 190 = .ok (.iload 4, 2) := by decide +kernel
theorem dX10_poll_192 : decode cX10_poll 192 = .ok (.iconst 0, 1) := by decide +kernel
theorem dX10_poll_193 : decode cX10_poll 193 = .ok (.bastore, 1) := by decide +kernel
theorem dX10_poll_194 : decode cX10_poll 194 = .ok (.iinc 4 1, 3) := by decide +kernel
theorem dX10_poll_197 : decode cX10_poll 197 = .ok (.goto (-18), 3) := by decide +kernel
theorem dX10_poll_200 : decode cX10_poll 200 = .ok (.iconst 0, 1) := by decide +kernel
theorem dX10_poll_201 : decode cX10_poll 201 = .ok (.istore 4, 2) := by decide +kernel
theorem dX10_poll_203 : decode cX10_poll 203 = .ok (.iload 4, 2) := by decide +kernel
theorem dX10_poll_205 : decode cX10_poll 205 = .ok (.aload_n 0, 1) := by decide +kernel
theorem dX10_poll_206 : decode cX10_poll 206 = .ok (.getfield 122, 3) := by decide +kernel
theorem dX10_poll_209 : decode cX10_poll 209 = .ok (.if_icmp .ge 38, 3) := by decide +kernel
theorem dX10_poll_212 : decode cX10_poll 212 = .ok (.aload_n 0, 1) := by decide +kernel
theorem dX10_poll_213 : decode cX10_poll 213 = .ok (.getfield 73, 3) := by decide +kernel
theorem dX10_poll_216 : decode cX10_poll 216 = .ok (.bipush 10, 2) := by decide +kernel
theorem dX10_poll_218 : decode cX10_poll 218 = .ok (.iload_n 3, 1) := by decide +kernel
theorem dX10_poll_219 : decode cX10_poll 219 = .ok (.imul, 1) := by decide +kernel
theorem dX10_poll_220 : decode cX10_poll 220 = .ok (.iload 4, 2) := by decide +kernel
theorem dX10_poll_222 : decode cX10_poll 222 = .ok (.iadd, 1) := by decide +kernel
theorem dX10_poll_223 : decode cX10_poll 223 = .ok (.aload_n 0, 1) := by decide +kernel
theorem dX10_poll_224 : decode cX10_poll 224 = .ok (.invokevirtual 300, 3) := by decide +kernel
theorem dX10_poll_227 : decode cX10_poll 227 = .ok (.iastore, 1) := by decide +kernel
theorem dX10_poll_228 : decode cX10_poll 228 = .ok (.aload_n 0, 1) := by decide +kernel
theorem dX10_poll_229 : decode cX10_poll 229 = .ok (.getfield 76, 3) := by decide +kernel
theorem dX10_poll_232 : decode cX10_poll 232 = .ok (.bipush 10, 2) := by decide +kernel
theorem dX10_poll_234 : decode cX10_poll 234 = .ok (.iload_n 3, 1) := by decide +kernel
theorem dX10_poll_235 : decode cX10_poll 235 = .ok (.imul, 1) := by decide +kernel
theorem dX10_poll_236 : decode cX10_poll 236 = .ok (.iload 4, 2) := by decide +kernel
theorem dX10_poll_238 : decode cX10_poll 238 = .ok (.iadd, 1) := by decide +kernel
theorem dX10_poll_239 : decode cX10_poll 239 = .ok (.iconst 0, 1) := by decide +kernel
theorem dX10_poll_240 : decode cX10_poll 240 = .ok (.iastore, 1) := by decide +kernel
theorem dX10_poll_241 : decode cX10_poll 241 = .ok (.iinc 4 1, 3) := by decide +kernel
theorem dX10_poll_244 : decode cX10_poll 244 = .ok (.goto (-41), 3) := by decide +kernel
theorem dX10_poll_247 : decode cX10_poll 247 = .ok (.aload_n 0, 1) := by decide +kernel
theorem dX10_poll_248 : decode cX10_poll 248 = .ok (.dup, 1) := by decide +kernel
theorem dX10_poll_249 : decode cX10_poll 249 = .ok (.getfield 297, 3) := by decide +kernel
theorem dX10_poll_252 : decode cX10_poll 252 = .ok (.iconst 1, 1) := by decide +kernel
theorem dX10_poll_253 : decode cX10_poll 253 = .ok (.iadd, 1) := by decide +kernel
theorem dX10_poll_254 : decode cX10_poll 254 = .ok (.putfield 297, 3) := by decide +kernel
theorem dX10_poll_257 : decode cX10_poll 257 = .ok (.aload_n 0, 1) := by decide +kernel
theorem dX10_poll_258 : decode cX10_poll 258 = .ok (.getfield 297, 3) := by decide +kernel
theorem dX10_poll_261 : decode cX10_poll 261 = .ok (.iconst 1, 1) := by decide +kernel
theorem dX10_poll_262 : decode cX10_poll 262 = .ok (.isub, 1) := by decide +kernel
theorem dX10_poll_263 : decode cX10_poll 263 = .ok (.ireturn, 1) := by decide +kernel
theorem dX10_sampled_0 : decode cX10_sampled 0 = .ok (.aload_n 0, 1) := by decide +kernel
theorem dX10_sampled_1 : decode cX10_sampled 1 = .ok (.iload_n 1, 1) := by decide +kernel
theorem dX10_sampled_2 : decode cX10_sampled 2 = .ok (.invokevirtual 303, 3) := by decide +kernel
theorem dX10_sampled_5 : decode cX10_sampled 5 = .ok (.istore_n 3, 1) := by decide +kernel
theorem dX10_sampled_6 : decode cX10_sampled 6 = .ok (.aload_n 0, 1) := by decide +kernel
theorem dX10_sampled_7 : decode cX10_sampled 7 = .ok (.iload_n 3, 1) := by decide +kernel
theorem dX10_sampled_8 : decode cX10_sampled 8 = .ok (.ifCond .lt 16, 3) := by decide +kernel
theorem dX10_sampled_11 : decode cX10_sampled 11 = .ok (.iload_n 2, 1) := by decide +kernel
theorem dX10_sampled_12 : decode cX10_sampled 12 = .ok (.iconst (-1), 1) := by decide +kernel
theorem dX10_sampled_13 : decode cX10_sampled 13 = .ok (.if_icmp .lt 11, 3) := by decide +kernel
theorem dX10_sampled_16 : decode cX10_sampled 16 = .ok (.iload_n 2, 1) := by decide +kernel
theorem dX10_sampled_17 : decode cX10_sampled 17 = .ok (.aload_n 0, 1) := by decide +kernel
theorem dX10_sampled_18 : decode cX10_sampled 18 = .ok (.getfield 122, 3) := by decide +kernel
theorem dX10_sampled_21 : decode cX10_sampled 21 = .ok (.if_icmp .lt 7, 3) := by decide +kernel
theorem dX10_sampled_24 : decode cX10_sampled 24 = .ok (.iconst 1, 1) := by decide +kernel
theorem dX10_sampled_25 : decode cX10_sampled 25 = .ok (.goto 4, 3) := by decide +kernel
theorem dX10_sampled_28 : decode cX10_sampled 28 = .ok (.iconst 0, 1) := by decide +kernel
theorem dX10_sampled_29 : decode cX10_sampled 29 = .ok (.putfield 145, 3) := by decide +kernel
theorem dX10_sampled_32 : decode cX10_sampled 32 = .ok (.aload_n 0, 1) := by decide +kernel
theorem dX10_sampled_33 : decode cX10_sampled 33 = .ok (.getfield 145, 3) := by decide +kernel
theorem dX10_sampled_36 : decode cX10_sampled 36 = .ok (.ifCond .le 5, 3) := by decide +kernel
theorem dX10_sampled_39 : decode cX10_sampled 39 = .ok (.iconst 0, 1) := by decide +kernel
theorem dX10_sampled_40 : decode cX10_sampled 40 = .ok (.ireturn, 1) := by decide +kernel
theorem dX10_sampled_41 : decode cX10_sampled 41 = .ok (.iload_n 2, 1) := by decide +kernel
theorem dX10_sampled_42 : decode cX10_sampled 42 = .ok (.iconst (-1), 1) := by decide +kernel
theorem dX10_sampled_43 : decode cX10_sampled 43 = .ok (.if_icmp .ne 17, 3) := by decide +kernel
theorem dX10_sampled_46 : decode cX10_sampled 46 = .ok (.aload_n 0, 1) := by decide +kernel
theorem dX10_sampled_47 : decode cX10_sampled 47 = .ok (.getfield 20, 3) := by decide +kernel
theorem dX10_sampled_50 : decode cX10_sampled 50 = .ok (.aload_n 0, 1) := by decide +kernel
theorem dX10_sampled_51 : decode cX10_sampled 51 = .ok (.getfield 70, 3) := by decide +kernel
theorem dX10_sampled_54 : decode cX10_sampled 54 = .ok (.iload_n 3, 1) := by decide +kernel
theorem dX10_sampled_55 : decode cX10_sampled 55 = .ok (.iaload, 1) := by decide +kernel
theorem dX10_sampled_56 : decode cX10_sampled 56 = .ok (.iaload, 1) := by decide +kernel
theorem dX10_sampled_57 : decode cX10_sampled 57 = .ok (.goto 14, 3) := by decide +kernel
theorem dX10_sampled_60 : decode cX10_sampled 60 = .ok (.aload_n 0, 1) := by decide +kernel
theorem dX10_sampled_61 : decode cX10_sampled 61 = .ok (.getfield 73, 3) := by decide +kernel
theorem dX10_sampled_64 : decode cX10_sampled 64 = .ok (.bipush 10, 2) := by decide +kernel
theorem dX10_sampled_66 : decode cX10_sampled 66 = .ok (.iload_n 3, 1) := by decide +kernel
theorem dX10_sampled_67 : decode cX10_sampled 67 = .ok (.imul, 1) := by decide +kernel
theorem dX10_sampled_68 : decode cX10_sampled 68 = .ok (.iload_n 2, 1) := by decide +kernel
theorem dX10_sampled_69 : decode cX10_sampled 69 = .ok (.iadd, 1) := by decide +kernel
theorem dX10_sampled_70 : decode cX10_sampled 70 = .ok (.iaload, 1) := by decide +kernel
theorem dX10_sampled_71 : decode cX10_sampled 71 = .ok (.ireturn, 1) := by decide +kernel
theorem dX10_said_0 : decode cX10_said 0 = .ok (.iconst 0, 1) := by decide +kernel
theorem dX10_said_1 : decode cX10_said 1 = .ok (.istore_n 3, 1) := by decide +kernel
theorem dX10_said_2 : decode cX10_said 2 = .ok (.iconst 0, 1) := by decide +kernel
theorem dX10_said_3 : decode cX10_said 3 = .ok (.istore 4, 2) := by decide +kernel
theorem dX10_said_5 : decode cX10_said 5 = .ok (.iload 4, 2) := by decide +kernel
theorem dX10_said_7 : decode cX10_said 7 = .ok (.aload_n 0, 1) := by decide +kernel
theorem dX10_said_8 : decode cX10_said 8 = .ok (.getfield 122, 3) := by decide +kernel
theorem dX10_said_11 : decode cX10_said 11 = .ok (.if_icmp .ge 33, 3) := by decide +kernel
theorem dX10_said_14 : decode cX10_said 14 = .ok (.iload_n 3, 1) := by decide +kernel
theorem dX10_said_15 : decode cX10_said 15 = .ok (.aload_n 0, 1) := by decide +kernel
theorem dX10_said_16 : decode cX10_said 16 = .ok (.getfield 76, 3) := by decide +kernel
theorem dX10_said_19 : decode cX10_said 19 = .ok (.bipush 10, 2) := by decide +kernel
theorem dX10_said_21 : decode cX10_said 21 = .ok (.iload_n 1, 1) := by decide +kernel
theorem dX10_said_22 : decode cX10_said 22 = .ok (.imul, 1) := by decide +kernel
theorem dX10_said_23 : decode cX10_said 23 = .ok (.iload 4, 2) := by decide +kernel
theorem dX10_said_25 : decode cX10_said 25 = .ok (.iadd, 1) := by decide +kernel
theorem dX10_said_26 : decode cX10_said 26 = .ok (.iaload, 1) := by decide +kernel
theorem dX10_said_27 : decode cX10_said 27 = .ok (.iload_n 2, 1) := by decide +kernel
theorem dX10_said_28 : decode cX10_said 28 = .ok (.if_icmp .ne 7, 3) := by decide +kernel
theorem dX10_said_31 : decode cX10_said 31 = .ok (.iconst 1, 1) := by decide +kernel
theorem dX10_said_32 : decode cX10_said 32 = .ok (.goto 4, 3) := by decide +kernel
theorem dX10_said_35 : decode cX10_said 35 = .ok (.iconst 0, 1) := by decide +kernel
theorem dX10_said_36 : decode cX10_said 36 = .ok (.iadd, 1) := by decide +kernel
theorem dX10_said_37 : decode cX10_said 37 = .ok (.istore_n 3, 1) := by decide +kernel
theorem dX10_said_38 : decode cX10_said 38 = .ok (.iinc 4 1, 3) := by decide +kernel
theorem dX10_said_41 : decode cX10_said 41 = .ok (.goto (-36), 3) := by decide +kernel
theorem dX10_said_44 : decode cX10_said 44 = .ok (.iload_n 3, 1) := by decide +kernel
theorem dX10_said_45 : decode cX10_said 45 = .ok (.ireturn, 1) := by decide +kernel
theorem dX10_answer_0 : decode cX10_answer 0 = .ok (.aload_n 0, 1) := by decide +kernel
theorem dX10_answer_1 : decode cX10_answer 1 = .ok (.iload_n 1, 1) := by decide +kernel
theorem dX10_answer_2 : decode cX10_answer 2 = .ok (.invokevirtual 303, 3) := by decide +kernel
theorem dX10_answer_5 : decode cX10_answer 5 = .ok (.istore 4, 2) := by decide +kernel
theorem dX10_answer_7 : decode cX10_answer 7 = .ok (.iconst (-1), 1) := by decide +kernel
theorem dX10_answer_8 : decode cX10_answer 8 = .ok (.istore 5, 2) := by decide +kernel
theorem dX10_answer_10 : decode cX10_answer 10 = .ok (.iconst 0, 1) := by decide +kernel
theorem dX10_answer_11 : decode cX10_answer 11 = .ok (.istore 6, 2) := by decide +kernel
theorem dX10_answer_13 : decode cX10_answer 13 = .ok (.iload 6, 2) := by decide +kernel
theorem dX10_answer_15 : decode cX10_answer 15 = .ok (.aload_n 0, 1) := by decide +kernel
theorem dX10_answer_16 : decode cX10_answer 16 = .ok (.getfield 122, 3) := by decide +kernel
theorem dX10_answer_19 : decode cX10_answer 19 = .ok (.if_icmp .ge 40, 3) := by decide +kernel
theorem dX10_answer_22 : decode cX10_answer 22 = .ok (.iload 4, 2) := by decide +kernel
theorem dX10_answer_24 : decode cX10_answer 24 = .ok (.ifCond .lt 35, 3) := by decide +kernel
theorem dX10_answer_27 : decode cX10_answer 27 = .ok (.aload_n 0, 1) := by decide +kernel
theorem dX10_answer_28 : decode cX10_answer 28 = .ok (.getfield 73, 3) := by decide +kernel
theorem dX10_answer_31 : decode cX10_answer 31 = .ok (.bipush 10, 2) := by decide +kernel
theorem dX10_answer_33 : decode cX10_answer 33 = .ok (.iload 4, 2) := by decide +kernel
theorem dX10_answer_35 : decode cX10_answer 35 = .ok (.imul, 1) := by decide +kernel
theorem dX10_answer_36 : decode cX10_answer 36 = .ok (.iload 6, 2) := by decide +kernel
theorem dX10_answer_38 : decode cX10_answer 38 = .ok (.iadd, 1) := by decide +kernel
theorem dX10_answer_39 : decode cX10_answer 39 = .ok (.iaload, 1) := by decide +kernel
theorem dX10_answer_40 : decode cX10_answer 40 = .ok (.iload_n 2, 1) := by decide +kernel
theorem dX10_answer_41 : decode cX10_answer 41 = .ok (.if_icmp .ne 8, 3) := by decide +kernel
theorem dX10_answer_44 : decode cX10_answer 44 = .ok (.iload 6, 2) := by decide +kernel
theorem dX10_answer_46 : decode cX10_answer 46 = .ok (.goto 5, 3) := by decide +kernel
theorem dX10_answer_49 : decode cX10_answer 49 = .ok (.iload 5, 2) := by decide +kernel
theorem dX10_answer_51 : decode cX10_answer 51 = .ok (.istore 5, 2) := by decide +kernel
theorem dX10_answer_53 : decode cX10_answer 53 = .ok (.iinc 6 1, 3) := by decide +kernel
theorem dX10_answer_56 : decode cX10_answer 56 = .ok (.goto (-43), 3) := by decide +kernel
theorem dX10_answer_59 : decode cX10_answer 59 = .ok (.aload_n 0, 1) := by decide +kernel
theorem dX10_answer_60 : decode cX10_answer 60 = .ok (.iload 5, 2) := by decide +kernel
theorem dX10_answer_62 : decode cX10_answer 62 = .ok (.ifCond .ge 7, 3) := by decide +kernel
theorem dX10_answer_65 : decode cX10_answer 65 = .ok (.iconst 1, 1) := by decide +kernel
theorem dX10_answer_66 : decode cX10_answer 66 = .ok (.goto 24, 3) := by decide +kernel
theorem dX10_answer_69 : decode cX10_answer 69 = .ok (.aload_n 0, 1) := by decide +kernel
theorem dX10_answer_70 : decode cX10_answer 70 = .ok (.getfield 76, 3) := by decide +kernel
theorem dX10_answer_73 : decode cX10_answer 73 = .ok (.bipush 10, 2) := by decide +kernel
theorem dX10_answer_75 : decode cX10_answer 75 = .ok (.iload 4, 2) := by decide +kernel
theorem dX10_answer_77 : decode cX10_answer 77 = .ok (.imul, 1) := by decide +kernel
theorem dX10_answer_78 : decode cX10_answer 78 = .ok (.iload 5, 2) := by decide +kernel
theorem dX10_answer_80 : decode cX10_answer 80 = .ok (.iadd, 1) := by decide +kernel
theorem dX10_answer_81 : decode cX10_answer 81 = .ok (.iaload, 1) := by decide +kernel
theorem dX10_answer_82 : decode cX10_answer 82 = .ok (.ifCond .eq 7, 3) := by decide +kernel
theorem dX10_answer_85 : decode cX10_answer 85 = .ok (.iconst 2, 1) := by decide +kernel
theorem dX10_answer_86 : decode cX10_answer 86 = .ok (.goto 4, 3) := by decide +kernel
theorem dX10_answer_89 : decode cX10_answer 89 = .ok (.iconst 0, 1) := by decide +kernel
theorem dX10_answer_90 : decode cX10_answer 90 = .ok (.putfield 145, 3) := by decide +kernel
theorem dX10_answer_93 : decode cX10_answer 93 = .ok (.aload_n 0, 1) := by decide +kernel
theorem dX10_answer_94 : decode cX10_answer 94 = .ok (.getfield 145, 3) := by decide +kernel
theorem dX10_answer_97 : decode cX10_answer 97 = .ok (.ifCond .le 5, 3) := by decide +kernel
theorem dX10_answer_100 : decode cX10_answer 100 = .ok (.iconst 0, 1) := by decide +kernel
theorem dX10_answer_101 : decode cX10_answer 101 = .ok (.ireturn, 1) := by decide +kernel
theorem dX10_answer_102 : decode cX10_answer 102 = .ok (.aload_n 0, 1) := by decide +kernel
theorem dX10_answer_103 : decode cX10_answer 103 = .ok (.getfield 76, 3) := by decide +kernel
theorem dX10_answer_106 : decode cX10_answer 106 = .ok (.bipush 10, 2) := by decide +kernel
theorem dX10_answer_108 : decode cX10_answer 108 = .ok (.iload 4, 2) := by decide +kernel
theorem dX10_answer_110 : decode cX10_answer 110 = .ok (.imul, 1) := by decide +kernel
theorem dX10_answer_111 : decode cX10_answer 111 = .ok (.iload 5, 2) := by decide +kernel
theorem dX10_answer_113 : decode cX10_answer 113 = .ok (.iadd, 1) := by decide +kernel
theorem dX10_answer_114 : decode cX10_answer 114 = .ok (.iload_n 3, 1) := by decide +kernel
theorem dX10_answer_115 : decode cX10_answer 115 = .ok (.ifCond .eq 7, 3) := by decide +kernel
theorem dX10_answer_118 : decode cX10_answer 118 = .ok (.iconst 1, 1) := by decide +kernel
theorem dX10_answer_119 : decode cX10_answer 119 = .ok (.goto 4, 3) := by decide +kernel
theorem dX10_answer_122 : decode cX10_answer 122 = .ok (.iconst 2, 1) := by decide +kernel
theorem dX10_answer_123 : decode cX10_answer 123 = .ok (.iastore, 1) := by decide +kernel
theorem dX10_answer_124 : decode cX10_answer 124 = .ok (.aload_n 0, 1) := by decide +kernel
theorem dX10_answer_125 : decode cX10_answer 125 = .ok (.iload 4, 2) := by decide +kernel
theorem dX10_answer_127 : decode cX10_answer 127 = .ok (.iconst 1, 1) := by decide +kernel
theorem dX10_answer_128 : decode cX10_answer 128 = .ok (.invokevirtual 306, 3) := by decide +kernel
theorem dX10_answer_131 : decode cX10_answer 131 = .ok (.aload_n 0, 1) := by decide +kernel
theorem dX10_answer_132 : decode cX10_answer 132 = .ok (.getfield 125, 3) := by decide +kernel
theorem dX10_answer_135 : decode cX10_answer 135 = .ok (.if_icmp .ne 7, 3) := by decide +kernel
theorem dX10_answer_138 : decode cX10_answer 138 = .ok (.iconst 1, 1) := by decide +kernel
theorem dX10_answer_139 : decode cX10_answer 139 = .ok (.goto 4, 3) := by decide +kernel
theorem dX10_answer_142 : decode cX10_answer 142 = .ok (.iconst 0, 1) := by decide +kernel
theorem dX10_answer_143 : decode cX10_answer 143 = .ok (.istore 6, 2) := by decide +kernel
theorem dX10_answer_145 : decode cX10_answer 145 = .ok (.iload 6, 2) := by decide +kernel
theorem dX10_answer_147 : decode cX10_answer 147 = .ok (.ifCond .ne 24, 3) := by decide +kernel
theorem dX10_answer_150 : decode cX10_answer 150 = .ok (.aload_n 0, 1) := by decide +kernel
theorem dX10_answer_151 : decode cX10_answer 151 = .ok (.iload 4, 2) := by decide +kernel
theorem dX10_answer_153 : decode cX10_answer 153 = .ok (.iconst 2, 1) := by decide +kernel
theorem dX10_answer_154 : decode cX10_answer 154 = .ok (.invokevirtual 306, 3) := by decide +kernel
theorem dX10_answer_157 : decode cX10_answer 157 = .ok (.aload_n 0, 1) := by decide +kernel
theorem dX10_answer_158 : decode cX10_answer 158 = .ok (.getfield 122, 3) := by decide +kernel
theorem dX10_answer_161 : decode cX10_answer 161 = .ok (.aload_n 0, 1) := by decide +kernel
theorem dX10_answer_162 : decode cX10_answer 162 = .ok (.getfield 125, 3) := by decide +kernel
theorem dX10_answer_165 : decode cX10_answer 165 = .ok (.isub, 1) := by decide +kernel
theorem dX10_answer_166 : decode cX10_answer 166 = .ok (.if_icmp .gt 5, 3) := by decide +kernel
theorem dX10_answer_169 : decode cX10_answer 169 = .ok (.iconst 0, 1) := by decide +kernel
theorem dX10_answer_170 : decode cX10_answer 170 = .ok (.ireturn, 1) := by decide +kernel
theorem dX10_answer_171 : decode cX10_answer 171 = .ok (.aload_n 0, 1) := by decide +kernel
theorem dX10_answer_172 : decode cX10_answer 172 = .ok (.iload 4, 2) := by decide +kernel
theorem dX10_answer_174 : decode cX10_answer 174 = .ok (.iload 6, 2) := by decide +kernel
theorem dX10_answer_176 : decode cX10_answer 176 = .ok (.invokevirtual 309, 3) := by decide +kernel
theorem dX10_answer_179 : decode cX10_answer 179 = .ok (.iload 6, 2) := by decide +kernel
theorem dX10_answer_181 : decode cX10_answer 181 = .ok (.ifCond .eq 7, 3) := by decide +kernel
theorem dX10_answer_184 : decode cX10_answer 184 = .ok (.iconst 1, 1) := by decide +kernel
theorem dX10_answer_185 : decode cX10_answer 185 = .ok (.goto 4, 3) := by decide +kernel
theorem dX10_answer_188 : decode cX10_answer 188 = .ok (.iconst 2, 1) := by decide +kernel
theorem dX10_answer_189 : decode cX10_answer 189 = .ok (.ireturn, 1) := by decide +kernel
theorem dX10_expire_0 : decode cX10_expire 0 = .ok (.aload_n 0, 1) := by decide +kernel
theorem dX10_expire_1 : decode cX10_expire 1 = .ok (.iconst 0, 1) := by decide +kernel
theorem dX10_expire_2 : decode cX10_expire 2 = .ok (.putfield 145, 3) := by decide +kernel
theorem dX10_expire_5 : decode cX10_expire 5 = .ok (.aload_n 0, 1) := by decide +kernel
theorem dX10_expire_6 : decode cX10_expire 6 = .ok (.iload_n 1, 1) := by decide +kernel
theorem dX10_expire_7 : decode cX10_expire 7 = .ok (.invokevirtual 303, 3) := by decide +kernel
theorem dX10_expire_10 : decode cX10_expire 10 = .ok (.istore_n 2, 1) := by decide +kernel
theorem dX10_expire_11 : decode cX10_expire 11 = .ok (.iload_n 2, 1) := by decide +kernel
theorem dX10_expire_12 : decode cX10_expire 12 = .ok (.ifCond .lt 9, 3) := by decide +kernel
theorem dX10_expire_15 : decode cX10_expire 15 = .ok (.aload_n 0, 1) := by decide +kernel
theorem dX10_expire_16 : decode cX10_expire 16 = .ok (.iload_n 2, 1) := by decide +kernel
theorem dX10_expire_17 : decode cX10_expire 17 = .ok (.iconst 0, 1) := by decide +kernel
theorem dX10_expire_18 : decode cX10_expire 18 = .ok (.invokevirtual 309, 3) := by decide +kernel
theorem dX10_expire_21 : decode cX10_expire 21 = .ok (.iload_n 2, 1) := by decide +kernel
theorem dX10_expire_22 : decode cX10_expire 22 = .ok (.ifCond .lt 7, 3) := by decide +kernel
theorem dX10_expire_25 : decode cX10_expire 25 = .ok (.iconst 1, 1) := by decide +kernel
theorem dX10_expire_26 : decode cX10_expire 26 = .ok (.goto 4, 3) := by decide +kernel
theorem dX10_expire_29 : decode cX10_expire 29 = .ok (.iconst 0, 1) := by decide +kernel
theorem dX10_expire_30 : decode cX10_expire 30 = .ok (.ireturn, 1) := by decide +kernel
theorem dX10_close_0 : decode cX10_close 0 = .ok (.aload_n 0, 1) := by decide +kernel
theorem dX10_close_1 : decode cX10_close 1 = .ok (.getfield 70, 3) := by decide +kernel
theorem dX10_close_4 : decode cX10_close 4 = .ok (.iload_n 1, 1) := by decide +kernel
theorem dX10_close_5 : decode cX10_close 5 = .ok (.iaload, 1) := by decide +kernel
theorem dX10_close_6 : decode cX10_close 6 = .ok (.istore_n 3, 1) := by decide +kernel
theorem dX10_close_7 : decode cX10_close 7 = .ok (.aload_n 0, 1) := by decide +kernel
theorem dX10_close_8 : decode cX10_close 8 = .ok (.getfield 67, 3) := by decide +kernel
theorem dX10_close_11 : decode cX10_close 11 = .ok (.iload_n 1, 1) := by decide +kernel
theorem dX10_close_12 : decode cX10_close 12 = .ok (.iconst (-1), 1) := by decide +kernel
theorem dX10_close_13 : decode cX10_close 13 = .ok (.iastore, 1) := by decide +kernel
theorem dX10_close_14 : decode cX10_close 14 = .ok (.aload_n 0, 1) := by decide +kernel
theorem dX10_close_15 : decode cX10_close 15 = .ok (.dup, 1) := by decide +kernel
theorem dX10_close_16 : decode cX10_close 16 = .ok (.getfield 313, 3) := by decide +kernel
theorem dX10_close_19 : decode cX10_close 19 = .ok (.iload_n 2, 1) := by decide +kernel
theorem dX10_close_20 : decode cX10_close 20 = .ok (.ifCond .eq 7, 3) := by decide +kernel
theorem dX10_close_23 : decode cX10_close 23 = .ok (.iconst 1, 1) := by decide +kernel
theorem dX10_close_24 : decode cX10_close 24 = .ok (.goto 4, 3) := by decide +kernel
theorem dX10_close_27 : decode cX10_close 27 = .ok (.iconst 0, 1) := by decide +kernel
theorem dX10_close_28 : decode cX10_close 28 = .ok (.iadd, 1) := by decide +kernel
theorem dX10_close_29 : decode cX10_close 29 = .ok (.putfield 313, 3) := by decide +kernel
theorem dX10_close_32 : decode cX10_close 32 = .ok (.aload_n 0, 1) := by decide +kernel
theorem dX10_close_33 : decode cX10_close 33 = .ok (.getfield 30, 3) := by decide +kernel
theorem dX10_close_36 : decode cX10_close 36 = .ok (.iload_n 3, 1) := by decide +kernel
theorem dX10_close_37 : decode cX10_close 37 = .ok (.iaload, 1) := by decide +kernel
theorem dX10_close_38 : decode cX10_close 38 = .ok (.iconst 4, 1) := by decide +kernel
theorem dX10_close_39 : decode cX10_close 39 = .ok (.if_icmp .ne 4, 3) := by decide +kernel
theorem dX10_close_42 : decode cX10_close 42 = .ok (.return_, 1) := by decide +kernel
theorem dX10_close_43 : decode cX10_close 43 = .ok (.aload_n 0, 1) := by decide +kernel
theorem dX10_close_44 : decode cX10_close 44 = .ok (.getfield 33, 3) := by decide +kernel
theorem dX10_close_47 : decode cX10_close 47 = .ok (.iload_n 3, 1) := by decide +kernel
theorem dX10_close_48 : decode cX10_close 48 = .ok (.aload_n 0, 1) := by decide +kernel
theorem dX10_close_49 : decode cX10_close 49 = .ok (.getfield 33, 3) := by decide +kernel
theorem dX10_close_52 : decode cX10_close 52 = .ok (.iload_n 3, 1) := by decide +kernel
theorem dX10_close_53 : decode cX10_close 53 = .ok (.baload, 1) := by decide +kernel
theorem dX10_close_54 : decode cX10_close 54 = .ok (.ifCond .ne 7, 3) := by decide +kernel
theorem dX10_close_57 : decode cX10_close 57 = .ok (.iload_n 2, 1) := by decide +kernel
theorem dX10_close_58 : decode cX10_close 58 = .ok (.ifCond .eq 7, 3) := by decide +kernel
theorem dX10_close_61 : decode cX10_close 61 = .ok (.iconst 1, 1) := by decide +kernel
theorem dX10_close_62 : decode cX10_close 62 = .ok (.goto 4, 3) := by decide +kernel
theorem dX10_close_65 : decode cX10_close 65 = .ok (.iconst 0, 1) := by decide +kernel
theorem dX10_close_66 : decode cX10_close 66 = .ok (.bastore, 1) := by decide +kernel
theorem dX10_close_67 : decode cX10_close 67 = .ok (.aload_n 0, 1) := by decide +kernel
theorem dX10_close_68 : decode cX10_close 68 = .ok (.iload_n 3, 1) := by decide +kernel
theorem dX10_close_69 : decode cX10_close 69 = .ok (.invokevirtual 242, 3) := by decide +kernel
theorem dX10_close_72 : decode cX10_close 72 = .ok (.iconst 0, 1) := by decide +kernel
theorem dX10_close_73 : decode cX10_close 73 = .ok (.istore 4, 2) := by decide +kernel
theorem dX10_close_75 : decode cX10_close 75 = .ok (.iload 4, 2) := by decide +kernel
theorem dX10_close_77 : decode cX10_close 77 = .ok (.sipush 140, 3) := by decide +kernel
theorem dX10_close_80 : decode cX10_close 80 = .ok (.if_icmp .ge 42, 3) := by decide +kernel
theorem dX10_close_83 : decode cX10_close 83 = .ok (.aload_n 0, 1) := by decide +kernel
theorem dX10_close_84 : decode cX10_close 84 = .ok (.getfield 55, 3) := by decide +kernel
theorem dX10_close_87 : decode cX10_close 87 = .ok (.iload 4, 2) := by decide +kernel
theorem dX10_close_89 : decode cX10_close 89 = .ok (.iload 4, 2) := by decide +kernel
theorem dX10_close_91 : decode cX10_close 91 = .ok (.ifCond .le 23, 3) := by decide +kernel
theorem dX10_close_94 : decode cX10_close 94 = .ok (.aload_n 0, 1) := by decide +kernel
theorem dX10_close_95 : decode cX10_close 95 = .ok (.getfield 52, 3) := by decide +kernel
theorem dX10_close_98 : decode cX10_close 98 = .ok (.iload 4, 2) := by decide +kernel
theorem dX10_close_100 : decode cX10_close 100 = .ok (.baload, 1) := by decide +kernel
theorem dX10_close_101 : decode cX10_close 101 = .ok (.ifCond .ne 9, 3) := by decide +kernel
theorem dX10_close_104 : decode cX10_close 104 = .ok (.iload 4, 2) := by decide +kernel
theorem dX10_close_106 : decode cX10_close 106 = .ok (.iload_n 3, 1) := by decide +kernel
theorem dX10_close_107 : decode cX10_close 107 = .ok (.if_icmp .ne 7, 3) := by decide +kernel
theorem dX10_close_110 : decode cX10_close 110 = .ok (.iconst 1, 1) := by decide +kernel
theorem dX10_close_111 : decode cX10_close 111 = .ok (.goto 4, 3) := by decide +kernel
theorem dX10_close_114 : decode cX10_close 114 = .ok (.iconst 0, 1) := by decide +kernel
theorem dX10_close_115 : decode cX10_close 115 = .ok (.bastore, 1) := by decide +kernel
theorem dX10_close_116 : decode cX10_close 116 = .ok (.iinc 4 1, 3) := by decide +kernel
theorem dX10_close_119 : decode cX10_close 119 = .ok (.goto (-44), 3) := by decide +kernel
theorem dX10_close_122 : decode cX10_close 122 = .ok (.iconst 0, 1) := by decide +kernel
theorem dX10_close_123 : decode cX10_close 123 = .ok (.istore 4, 2) := by decide +kernel
theorem dX10_close_125 : decode cX10_close 125 = .ok (.iload 4, 2) := by decide +kernel
theorem dX10_close_127 : decode cX10_close 127 = .ok (.aload_n 0, 1) := by decide +kernel
theorem dX10_close_128 : decode cX10_close 128 = .ok (.getfield 43, 3) := by decide +kernel
theorem dX10_close_131 : decode cX10_close 131 = .ok (.if_icmp .ge 36, 3) := by decide +kernel
theorem dX10_close_134 : decode cX10_close 134 = .ok (.aload_n 0, 1) := by decide +kernel
theorem dX10_close_135 : decode cX10_close 135 = .ok (.getfield 55, 3) := by decide +kernel
theorem dX10_close_138 : decode cX10_close 138 = .ok (.aload_n 0, 1) := by decide +kernel
theorem dX10_close_139 : decode cX10_close 139 = .ok (.getfield 40, 3) := by decide +kernel
theorem dX10_close_142 : decode cX10_close 142 = .ok (.iload 4, 2) := by decide +kernel
theorem dX10_close_144 : decode cX10_close 144 = .ok (.iaload, 1) := by decide +kernel
theorem dX10_close_145 : decode cX10_close 145 = .ok (.baload, 1) := by decide +kernel
theorem dX10_close_146 : decode cX10_close 146 = .ok (.ifCond .eq 15, 3) := by decide +kernel
theorem dX10_close_149 : decode cX10_close 149 = .ok (.aload_n 0, 1) := by decide +kernel
theorem dX10_close_150 : decode cX10_close 150 = .ok (.aload_n 0, 1) := by decide +kernel
theorem dX10_close_151 : decode cX10_close 151 = .ok (.getfield 40, 3) := by decide +kernel
theorem dX10_close_154 : decode cX10_close 154 = .ok (.iload 4, 2) := by decide +kernel
theorem dX10_close_156 : decode cX10_close 156 = .ok (.iaload, 1) := by decide +kernel
theorem dX10_close_157 : decode cX10_close 157 = .ok (.iload_n 2, 1) := by decide +kernel
theorem dX10_close_158 : decode cX10_close 158 = .ok (.invokevirtual 316, 3) := by decide +kernel
theorem dX10_close_161 : decode cX10_close 161 = .ok (.iinc 4 1, 3) := by decide +kernel
theorem dX10_close_164 : decode cX10_close 164 = .ok (.goto (-39), 3) := by decide +kernel
theorem dX10_close_167 : decode cX10_close 167 = .ok (.aload_n 0, 1) := by decide +kernel
theorem dX10_close_168 : decode cX10_close 168 = .ok (.invokevirtual 319, 3) := by decide +kernel
theorem dX10_close_171 : decode cX10_close 171 = .ok (.return_, 1) := by decide +kernel
theorem dX10_spoken_0 : decode cX10_spoken 0 = .ok (.aload_n 0, 1) := by decide +kernel
theorem dX10_spoken_1 : decode cX10_spoken 1 = .ok (.iload_n 1, 1) := by decide +kernel
theorem dX10_spoken_2 : decode cX10_spoken 2 = .ok (.invokevirtual 277, 3) := by decide +kernel
theorem dX10_spoken_5 : decode cX10_spoken 5 = .ok (.istore_n 3, 1) := by decide +kernel
theorem dX10_spoken_6 : decode cX10_spoken 6 = .ok (.iconst 0, 1) := by decide +kernel
theorem dX10_spoken_7 : decode cX10_spoken 7 = .ok (.istore 4, 2) := by decide +kernel
theorem dX10_spoken_9 : decode cX10_spoken 9 = .ok (.iload 4, 2) := by decide +kernel
theorem dX10_spoken_11 : decode cX10_spoken 11 = .ok (.aload_n 0, 1) := by decide +kernel
theorem dX10_spoken_12 : decode cX10_spoken 12 = .ok (.iload_n 1, 1) := by decide +kernel
theorem dX10_spoken_13 : decode cX10_spoken 13 = .ok (.invokevirtual 188, 3) := by decide +kernel
theorem dX10_spoken_16 : decode cX10_spoken 16 = .ok (.if_icmp .ge 105, 3) := by decide +kernel
theorem dX10_spoken_19 : decode cX10_spoken 19 = .ok (.aload_n 0, 1) := by decide +kernel
theorem dX10_spoken_20 : decode cX10_spoken 20 = .ok (.iload_n 1, 1) := by decide +kernel
theorem dX10_spoken_21 : decode cX10_spoken 21 = .ok (.iload 4, 2) := by decide +kernel
theorem dX10_spoken_23 : decode cX10_spoken 23 = .ok (.invokevirtual 255, 3) := by decide +kernel
theorem dX10_spoken_26 : decode cX10_spoken 26 = .ok (.istore 5, 2) := by decide +kernel
theorem dX10_spoken_28 : decode cX10_spoken 28 = .ok (.iload_n 2, 1) := by decide +kernel
theorem dX10_spoken_29 : decode cX10_spoken 29 = .ok (.ifCond .ne 14, 3) := by decide +kernel
theorem dX10_spoken_32 : decode cX10_spoken 32 = .ok (.aload_n 0, 1) := by decide +kernel
theorem dX10_spoken_33 : decode cX10_spoken 33 = .ok (.getfield 64, 3) := by decide +kernel
theorem dX10_spoken_36 : decode cX10_spoken 36 = .ok (.iload 5, 2) := by decide +kernel
theorem dX10_spoken_38 : decode cX10_spoken 38 = .ok (.iconst 0, 1) := by decide +kernel
theorem dX10_spoken_39 : decode cX10_spoken 39 = .ok (.iastore, 1) := by decide +kernel
theorem dX10_spoken_40 : decode cX10_spoken 40 = .ok (.goto 75, 3) := by decide +kernel
theorem dX10_spoken_43 : decode cX10_spoken 43 = .ok (.aload_n 0, 1) := by decide +kernel
theorem dX10_spoken_44 : decode cX10_spoken 44 = .ok (.getfield 58, 3) := by decide +kernel
theorem dX10_spoken_47 : decode cX10_spoken 47 = .ok (.iload 5, 2) := by decide +kernel
theorem dX10_spoken_49 : decode cX10_spoken 49 = .ok (.iaload, 1) := by decide +kernel
theorem dX10_spoken_50 : decode cX10_spoken 50 = .ok (.ifCond .lt 18, 3) := by decide +kernel
theorem dX10_spoken_53 : decode cX10_spoken 53 = .ok (.iload_n 3, 1) := by decide +kernel
theorem dX10_spoken_54 : decode cX10_spoken 54 = .ok (.aload_n 0, 1) := by decide +kernel
theorem dX10_spoken_55 : decode cX10_spoken 55 = .ok (.aload_n 0, 1) := by decide +kernel
theorem dX10_spoken_56 : decode cX10_spoken 56 = .ok (.getfield 58, 3) := by decide +kernel
theorem dX10_spoken_59 : decode cX10_spoken 59 = .ok (.iload 5, 2) := by decide +kernel
theorem dX10_spoken_61 : decode cX10_spoken 61 = .ok (.iaload, 1) := by decide +kernel
theorem dX10_spoken_62 : decode cX10_spoken 62 = .ok (.invokevirtual 277, 3) := by decide +kernel
theorem dX10_spoken_65 : decode cX10_spoken 65 = .ok (.if_icmp .le 11, 3) := by decide +kernel
theorem dX10_spoken_68 : decode cX10_spoken 68 = .ok (.aload_n 0, 1) := by decide +kernel
theorem dX10_spoken_69 : decode cX10_spoken 69 = .ok (.getfield 58, 3) := by decide +kernel
theorem dX10_spoken_72 : decode cX10_spoken 72 = .ok (.iload 5, 2) := by decide +kernel
theorem dX10_spoken_74 : decode cX10_spoken 74 = .ok (.iload_n 1, 1) := by decide +kernel
theorem dX10_spoken_75 : decode cX10_spoken 75 = .ok (.iastore, 1) := by decide +kernel
theorem dX10_spoken_76 : decode cX10_spoken 76 = .ok (.aload_n 0, 1) := by decide +kernel
theorem dX10_spoken_77 : decode cX10_spoken 77 = .ok (.getfield 64, 3) := by decide +kernel
theorem dX10_spoken_80 : decode cX10_spoken 80 = .ok (.iload 5, 2) := by decide +kernel
theorem dX10_spoken_82 : decode cX10_spoken 82 = .ok (.aload_n 0, 1) := by decide +kernel
theorem dX10_spoken_83 : decode cX10_spoken 83 = .ok (.getfield 61, 3) := by decide +kernel
theorem dX10_spoken_86 : decode cX10_spoken 86 = .ok (.iload 5, 2) := by decide +kernel
theorem dX10_spoken_88 : decode cX10_spoken 88 = .ok (.iaload, 1) := by decide +kernel
theorem dX10_spoken_89 : decode cX10_spoken 89 = .ok (.iload_n 1, 1) := by decide +kernel
theorem dX10_spoken_90 : decode cX10_spoken 90 = .ok (.if_icmp .ne 15, 3) := by decide +kernel
theorem dX10_spoken_93 : decode cX10_spoken 93 = .ok (.aload_n 0, 1) := by decide +kernel
theorem dX10_spoken_94 : decode cX10_spoken 94 = .ok (.getfield 64, 3) := by decide +kernel
theorem dX10_spoken_97 : decode cX10_spoken 97 = .ok (.iload 5, 2) := by decide +kernel
theorem dX10_spoken_99 : decode cX10_spoken 99 = .ok (.iaload, 1) := by decide +kernel
theorem dX10_spoken_100 : decode cX10_spoken 100 = .ok (.iconst 1, 1) := by decide +kernel
theorem dX10_spoken_101 : decode cX10_spoken 101 = .ok (.iadd, 1) := by decide +kernel
theorem dX10_spoken_102 : decode cX10_spoken 102 = .ok (.goto 4, 3) := by decide +kernel
theorem dX10_spoken_105 : decode cX10_spoken 105 = .ok (.iconst 1, 1) := by decide +kernel
theorem dX10_spoken_106 : decode cX10_spoken 106 = .ok (.iastore, 1) := by decide +kernel
theorem dX10_spoken_107 : decode cX10_spoken 107 = .ok (.aload_n 0, 1) := by decide +kernel
theorem dX10_spoken_108 : decode cX10_spoken 108 = .ok (.getfield 61, 3) := by decide +kernel
theorem dX10_spoken_111 : decode cX10_spoken 111 = .ok (.iload 5, 2) := by decide +kernel
theorem dX10_spoken_113 : decode cX10_spoken 113 = .ok (.iload_n 1, 1) := by decide +kernel
theorem dX10_spoken_114 : decode cX10_spoken 114 = .ok (.iastore, 1) := by decide +kernel
theorem dX10_spoken_115 : decode cX10_spoken 115 = .ok (.iinc 4 1, 3) := by decide +kernel
theorem dX10_spoken_118 : decode cX10_spoken 118 = .ok (.goto (-109), 3) := by decide +kernel
theorem dX10_spoken_121 : decode cX10_spoken 121 = .ok (.return_, 1) := by decide +kernel
theorem dX10_isAcceptable_0 : decode cX10_isAcceptable 0 = .ok (.aload_n 0, 1) := by decide +kernel
theorem dX10_isAcceptable_1 : decode cX10_isAcceptable 1 = .ok (.getfield 30, 3) := by decide +kernel
theorem dX10_isAcceptable_4 : decode cX10_isAcceptable 4 = .ok (.iload_n 1, 1) := by decide +kernel
theorem dX10_isAcceptable_5 : decode cX10_isAcceptable 5 = .ok (.iaload, 1) := by decide +kernel
theorem dX10_isAcceptable_6 : decode cX10_isAcceptable 6 = .ok (.iconst 2, 1) := by decide +kernel
theorem dX10_isAcceptable_7 : decode cX10_isAcceptable 7 = .ok (.if_icmp .ne 15, 3) := by decide +kernel
theorem dX10_isAcceptable_10 : decode cX10_isAcceptable 10 = .ok (.aload_n 0, 1) := by decide +kernel
theorem dX10_isAcceptable_11 : decode cX10_isAcceptable 11 = .ok (.iload_n 1, 1) := by decide +kernel
theorem dX10_isAcceptable_12 : decode cX10_isAcceptable 12 = .ok (.invokevirtual 280, 3) := by decide +kernel
theorem dX10_isAcceptable_15 : decode cX10_isAcceptable 15 = .ok (.ifCond .eq 7, 3) := by decide +kernel
theorem dX10_isAcceptable_18 : decode cX10_isAcceptable 18 = .ok (.iconst 1, 1) := by decide +kernel
theorem dX10_isAcceptable_19 : decode cX10_isAcceptable 19 = .ok (.goto 4, 3) := by decide +kernel
theorem dX10_isAcceptable_22 : decode cX10_isAcceptable 22 = .ok (.iconst 0, 1) := by decide +kernel
theorem dX10_isAcceptable_23 : decode cX10_isAcceptable 23 = .ok (.istore_n 2, 1) := by decide +kernel
theorem dX10_isAcceptable_24 : decode cX10_isAcceptable 24 = .ok (.iconst 0, 1) := by decide +kernel
theorem dX10_isAcceptable_25 : decode cX10_isAcceptable 25 = .ok (.istore_n 3, 1) := by decide +kernel
theorem dX10_isAcceptable_26 : decode cX10_isAcceptable 26 = .ok (.iload_n 3, 1) := by decide +kernel
theorem dX10_isAcceptable_27 : decode cX10_isAcceptable 27 = .ok (.aload_n 0, 1) := by decide +kernel
theorem dX10_isAcceptable_28 : decode cX10_isAcceptable 28 = .ok (.iload_n 1, 1) := by decide +kernel
theorem dX10_isAcceptable_29 : decode cX10_isAcceptable 29 = .ok (.invokevirtual 182, 3) := by decide +kernel
theorem dX10_isAcceptable_32 : decode cX10_isAcceptable 32 = .ok (.if_icmp .ge 38, 3) := by decide +kernel
theorem dX10_isAcceptable_35 : decode cX10_isAcceptable 35 = .ok (.iload_n 2, 1) := by decide +kernel
theorem dX10_isAcceptable_36 : decode cX10_isAcceptable 36 = .ok (.ifCond .eq 26, 3) := by decide +kernel
theorem dX10_isAcceptable_39 : decode cX10_isAcceptable 39 = .ok (.aload_n 0, 1) := by decide +kernel
theorem dX10_isAcceptable_40 : decode cX10_isAcceptable 40 = .ok (.getfield 30, 3) := by decide +kernel
theorem dX10_isAcceptable_43 : decode cX10_isAcceptable 43 = .ok (.aload_n 0, 1) := by decide +kernel
theorem dX10_isAcceptable_44 : decode cX10_isAcceptable 44 = .ok (.aload_n 0, 1) := by decide +kernel
theorem dX10_isAcceptable_45 : decode cX10_isAcceptable 45 = .ok (.iload_n 1, 1) := by decide +kernel
theorem dX10_isAcceptable_46 : decode cX10_isAcceptable 46 = .ok (.iload_n 3, 1) := by decide +kernel
theorem dX10_isAcceptable_47 : decode cX10_isAcceptable 47 = .ok (.invokevirtual 224, 3) := by decide +kernel
theorem dX10_isAcceptable_50 : decode cX10_isAcceptable 50 = .ok (.invokevirtual 198, 3) := by decide +kernel
theorem dX10_isAcceptable_53 : decode cX10_isAcceptable 53 = .ok (.iaload, 1) := by decide +kernel
theorem dX10_isAcceptable_54 : decode cX10_isAcceptable 54 = .ok (.iconst 3, 1) := by decide +kernel
theorem dX10_isAcceptable_55 : decode cX10_isAcceptable 55 = .ok (.if_icmp .ne 7, 3) := by decide +kernel
theorem dX10_isAcceptable_58 : decode cX10_isAcceptable 58 = .ok (.iconst 1, 1) := by decide +kernel
theorem dX10_isAcceptable_59 : decode cX10_isAcceptable 59 = .ok (.goto 4, 3) := by decide +kernel
theorem dX10_isAcceptable_62 : decode cX10_isAcceptable 62 = .ok (.iconst 0, 1) := by decide +kernel
theorem dX10_isAcceptable_63 : decode cX10_isAcceptable 63 = .ok (.istore_n 2, 1) := by decide +kernel
theorem dX10_isAcceptable_64 : decode cX10_isAcceptable 64 = .ok (.iinc 3 1, 3) := by decide +kernel
theorem dX10_isAcceptable_67 : decode cX10_isAcceptable 67 = .ok (.goto (-41), 3) := by decide +kernel
theorem dX10_isAcceptable_70 : decode cX10_isAcceptable 70 = .ok (.iconst 0, 1) := by decide +kernel
theorem dX10_isAcceptable_71 : decode cX10_isAcceptable 71 = .ok (.istore_n 3, 1) := by decide +kernel
theorem dX10_isAcceptable_72 : decode cX10_isAcceptable 72 = .ok (.iload_n 3, 1) := by decide +kernel
theorem dX10_isAcceptable_73 : decode cX10_isAcceptable 73 = .ok (.aload_n 0, 1) := by decide +kernel
theorem dX10_isAcceptable_74 : decode cX10_isAcceptable 74 = .ok (.iload_n 1, 1) := by decide +kernel
theorem dX10_isAcceptable_75 : decode cX10_isAcceptable 75 = .ok (.invokevirtual 188, 3) := by decide +kernel
theorem dX10_isAcceptable_78 : decode cX10_isAcceptable 78 = .ok (.if_icmp .ge 69, 3) := by decide +kernel
theorem dX10_isAcceptable_81 : decode cX10_isAcceptable 81 = .ok (.aload_n 0, 1) := by decide +kernel
theorem dX10_isAcceptable_82 : decode cX10_isAcceptable 82 = .ok (.iload_n 1, 1) := by decide +kernel
theorem dX10_isAcceptable_83 : decode cX10_isAcceptable 83 = .ok (.iload_n 3, 1) := by decide +kernel
theorem dX10_isAcceptable_84 : decode cX10_isAcceptable 84 = .ok (.invokevirtual 255, 3) := by decide +kernel
theorem dX10_isAcceptable_87 : decode cX10_isAcceptable 87 = .ok (.istore 4, 2) := by decide +kernel
theorem dX10_isAcceptable_89 : decode cX10_isAcceptable 89 = .ok (.iload_n 2, 1) := by decide +kernel
theorem dX10_isAcceptable_90 : decode cX10_isAcceptable 90 = .ok (.ifCond .eq 49, 3) := by decide +kernel
theorem dX10_isAcceptable_93 : decode cX10_isAcceptable 93 = .ok (.aload_n 0, 1) := by decide +kernel
theorem dX10_isAcceptable_94 : decode cX10_isAcceptable 94 = .ok (.getfield 61, 3) := by decide +kernel
theorem dX10_isAcceptable_97 : decode cX10_isAcceptable 97 = .ok (.iload 4, 2) := by decide +kernel
theorem dX10_isAcceptable_99 : decode cX10_isAcceptable 99 = .ok (.iaload, 1) := by decide +kernel
theorem dX10_isAcceptable_100 : decode cX10_isAcceptable 100 = .ok (.iload_n 1, 1) := by decide +kernel
theorem dX10_isAcceptable_101 : decode cX10_isAcceptable 101 = .ok (.if_icmp .ne 38, 3) := by decide +kernel
theorem dX10_isAcceptable_104 : decode cX10_isAcceptable 104 = .ok (.aload_n 0, 1) := by decide +kernel
theorem dX10_isAcceptable_105 : decode cX10_isAcceptable 105 = .ok (.getfield 64, 3) := by decide +kernel
theorem dX10_isAcceptable_108 : decode cX10_isAcceptable 108 = .ok (.iload 4, 2) := by decide +kernel
theorem dX10_isAcceptable_110 : decode cX10_isAcceptable 110 = .ok (.iaload, 1) := by decide +kernel
theorem dX10_isAcceptable_111 : decode cX10_isAcceptable 111 = .ok (.aload_n 0, 1) := by decide +kernel
theorem dX10_isAcceptable_112 : decode cX10_isAcceptable 112 = .ok (.iload 4, 2) := by decide +kernel
theorem dX10_isAcceptable_114 : decode cX10_isAcceptable 114 = .ok (.invokevirtual 268, 3) := by decide +kernel
theorem dX10_isAcceptable_117 : decode cX10_isAcceptable 117 = .ok (.iconst 1, 1) := by decide +kernel
theorem dX10_isAcceptable_118 : decode cX10_isAcceptable 118 = .ok (.if_icmp .ne 10, 3) := by decide +kernel
theorem dX10_isAcceptable_121 : decode cX10_isAcceptable 121 = .ok (.aload_n 0, 1) := by decide +kernel
theorem dX10_isAcceptable_122 : decode cX10_isAcceptable 122 = .ok (.getfield 128, 3) := by decide +kernel
theorem dX10_isAcceptable_125 : decode cX10_isAcceptable 125 = .ok (.goto 7, 3) := by decide +kernel
theorem dX10_isAcceptable_128 : decode cX10_isAcceptable 128 = .ok (.aload_n 0, 1) := by decide +kernel
theorem dX10_isAcceptable_129 : decode cX10_isAcceptable 129 = .ok (.getfield 131, 3) := by decide +kernel
theorem dX10_isAcceptable_132 : decode cX10_isAcceptable 132 = .ok (.if_icmp .lt 7, 3) := by decide +kernel
theorem dX10_isAcceptable_135 : decode cX10_isAcceptable 135 = .ok (.iconst 1, 1) := by decide +kernel
theorem dX10_isAcceptable_136 : decode cX10_isAcceptable 136 = .ok (.goto 4, 3) := by decide +kernel
theorem dX10_isAcceptable_139 : decode cX10_isAcceptable 139 = .ok (.iconst 0, 1) := by decide +kernel
theorem dX10_isAcceptable_140 : decode cX10_isAcceptable 140 = .ok (.istore_n 2, 1) := by decide +kernel
theorem dX10_isAcceptable_141 : decode cX10_isAcceptable 141 = .ok (.iinc 3 1, 3) := by decide +kernel
theorem dX10_isAcceptable_144 : decode cX10_isAcceptable 144 = .ok (.goto (-72), 3) := by decide +kernel
theorem dX10_isAcceptable_147 : decode cX10_isAcceptable 147 = .ok (.iload_n 2, 1) := by decide +kernel
theorem dX10_isAcceptable_148 : decode cX10_isAcceptable 148 = .ok (.ireturn, 1) := by decide +kernel
theorem dX10_accept_0 : decode cX10_accept 0 = .ok (.iconst 1, 1) := by decide +kernel
theorem dX10_accept_1 : decode cX10_accept 1 = .ok (.istore_n 1, 1) := by decide +kernel
theorem dX10_accept_2 : decode cX10_accept 2 = .ok (.iload_n 1, 1) := by decide +kernel
theorem dX10_accept_3 : decode cX10_accept 3 = .ok (.aload_n 0, 1) := by decide +kernel
theorem dX10_accept_4 : decode cX10_accept 4 = .ok (.getfield 43, 3) := by decide +kernel
theorem dX10_accept_7 : decode cX10_accept 7 = .ok (.if_icmp .ge 56, 3) := by decide +kernel
theorem dX10_accept_10 : decode cX10_accept 10 = .ok (.aload_n 0, 1) := by decide +kernel
theorem dX10_accept_11 : decode cX10_accept 11 = .ok (.getfield 40, 3) := by decide +kernel
theorem dX10_accept_14 : decode cX10_accept 14 = .ok (.iload_n 1, 1) := by decide +kernel
theorem dX10_accept_15 : decode cX10_accept 15 = .ok (.iaload, 1) := by decide +kernel
theorem dX10_accept_16 : decode cX10_accept 16 = .ok (.istore_n 2, 1) := by decide +kernel
theorem dX10_accept_17 : decode cX10_accept 17 = .ok (.aload_n 0, 1) := by decide +kernel
theorem dX10_accept_18 : decode cX10_accept 18 = .ok (.iload_n 2, 1) := by decide +kernel
theorem dX10_accept_19 : decode cX10_accept 19 = .ok (.invokevirtual 322, 3) := by decide +kernel
theorem dX10_accept_22 : decode cX10_accept 22 = .ok (.ifCond .eq 35, 3) := by decide +kernel
theorem dX10_accept_25 : decode cX10_accept 25 = .ok (.aload_n 0, 1) := by decide +kernel
theorem dX10_accept_26 : decode cX10_accept 26 = .ok (.getfield 30, 3) := by decide +kernel
theorem dX10_accept_29 : decode cX10_accept 29 = .ok (.iload_n 2, 1) := by decide +kernel
theorem dX10_accept_30 : decode cX10_accept 30 = .ok (.iconst 3, 1) := by decide +kernel
theorem dX10_accept_31 : decode cX10_accept 31 = .ok (.iastore, 1) := by decide +kernel
theorem dX10_accept_32 : decode cX10_accept 32 = .ok (.aload_n 0, 1) := by decide +kernel
theorem dX10_accept_33 : decode cX10_accept 33 = .ok (.getfield 46, 3) := by decide +kernel
theorem dX10_accept_36 : decode cX10_accept 36 = .ok (.aload_n 0, 1) := by decide +kernel
theorem dX10_accept_37 : decode cX10_accept 37 = .ok (.getfield 49, 3) := by decide +kernel
theorem dX10_accept_40 : decode cX10_accept 40 = .ok (.iload_n 2, 1) := by decide +kernel
theorem dX10_accept_41 : decode cX10_accept 41 = .ok (.iastore, 1) := by decide +kernel
theorem dX10_accept_42 : decode cX10_accept 42 = .ok (.aload_n 0, 1) := by decide +kernel
theorem dX10_accept_43 : decode cX10_accept 43 = .ok (.dup, 1) := by decide +kernel
theorem dX10_accept_44 : decode cX10_accept 44 = .ok (.getfield 49, 3) := by decide +kernel
theorem dX10_accept_47 : decode cX10_accept 47 = .ok (.iconst 1, 1) := by decide +kernel
theorem dX10_accept_48 : decode cX10_accept 48 = .ok (.iadd, 1) := by decide +kernel
theorem dX10_accept_49 : decode cX10_accept 49 = .ok (.putfield 49, 3) := by decide +kernel
theorem dX10_accept_52 : decode cX10_accept 52 = .ok (.aload_n 0, 1) := by decide +kernel
theorem dX10_accept_53 : decode cX10_accept 53 = .ok (.iload_n 2, 1) := by decide +kernel
theorem dX10_accept_54 : decode cX10_accept 54 = .ok (.invokevirtual 325, 3) := by decide +kernel
theorem dX10_accept_57 : decode cX10_accept 57 = .ok (.iinc 1 1, 3) := by decide +kernel
theorem dX10_accept_60 : decode cX10_accept 60 = .ok (.goto (-58), 3) := by decide +kernel
theorem dX10_accept_63 : decode cX10_accept 63 = .ok (.return_, 1) := by decide +kernel
theorem dX10_rejectRivals_0 : decode cX10_rejectRivals 0 = .ok (.iconst 0, 1) := by decide +kernel
theorem dX10_rejectRivals_1 : decode cX10_rejectRivals 1 = .ok (.istore_n 2, 1) := by decide +kernel
theorem dX10_rejectRivals_2 : decode cX10_rejectRivals 2 = .ok (.iload_n 2, 1) := by decide +kernel
theorem dX10_rejectRivals_3 : decode cX10_rejectRivals 3 = .ok (.sipush 140, 3) := by decide +kernel
theorem dX10_rejectRivals_6 : decode cX10_rejectRivals 6 = .ok (.if_icmp .ge 16, 3) := by decide +kernel
theorem dX10_rejectRivals_9 : decode cX10_rejectRivals 9 = .ok (.aload_n 0, 1) := by decide +kernel
theorem dX10_rejectRivals_10 : decode cX10_rejectRivals 10 = .ok (.getfield 55, 3) := by decide +kernel
theorem dX10_rejectRivals_13 : decode cX10_rejectRivals 13 = .ok (.iload_n 2, 1) := by decide +kernel
theorem dX10_rejectRivals_14 : decode cX10_rejectRivals 14 = .ok (.iconst 0, 1) := by decide +kernel
theorem dX10_rejectRivals_15 : decode cX10_rejectRivals 15 = .ok (.bastore, 1) := by decide +kernel
theorem dX10_rejectRivals_16 : decode cX10_rejectRivals 16 = .ok (.iinc 2 1, 3) := by decide +kernel
theorem dX10_rejectRivals_19 : decode cX10_rejectRivals 19 = .ok (.goto (-17), 3) := by decide +kernel
theorem dX10_rejectRivals_22 : decode cX10_rejectRivals 22 = .ok (.iconst 1, 1) := by decide +kernel
theorem dX10_rejectRivals_23 : decode cX10_rejectRivals 23 = .ok (.istore_n 2, 1) := by decide +kernel
theorem dX10_rejectRivals_24 : decode cX10_rejectRivals 24 = .ok (.iload_n 2, 1) := by decide +kernel
theorem dX10_rejectRivals_25 : decode cX10_rejectRivals 25 = .ok (.aload_n 0, 1) := by decide +kernel
theorem dX10_rejectRivals_26 : decode cX10_rejectRivals 26 = .ok (.getfield 43, 3) := by decide +kernel
theorem dX10_rejectRivals_29 : decode cX10_rejectRivals 29 = .ok (.if_icmp .ge 128, 3) := by decide +kernel
theorem dX10_rejectRivals_32 : decode cX10_rejectRivals 32 = .ok (.aload_n 0, 1) := by decide +kernel
theorem dX10_rejectRivals_33 : decode cX10_rejectRivals 33 = .ok (.getfield 40, 3) := by decide +kernel
theorem dX10_rejectRivals_36 : decode cX10_rejectRivals 36 = .ok (.iload_n 2, 1) := by decide +kernel
theorem dX10_rejectRivals_37 : decode cX10_rejectRivals 37 = .ok (.iaload, 1) := by decide +kernel
theorem dX10_rejectRivals_38 : decode cX10_rejectRivals 38 = .ok (.istore_n 3, 1) := by decide +kernel
theorem dX10_rejectRivals_39 : decode cX10_rejectRivals 39 = .ok (.iconst 0, 1) := by decide +kernel
theorem dX10_rejectRivals_40 : decode cX10_rejectRivals 40 = .ok (.istore 4, 2) := by decide +kernel
theorem dX10_rejectRivals_42 : decode cX10_rejectRivals 42 = .ok (.iconst 0, 1) := by decide +kernel
theorem dX10_rejectRivals_43 : decode cX10_rejectRivals 43 = .ok (.istore 5, 2) := by decide +kernel
theorem dX10_rejectRivals_45 : decode cX10_rejectRivals 45 = .ok (.iload 5, 2) := by decide +kernel
theorem dX10_rejectRivals_47 : decode cX10_rejectRivals 47 = .ok (.aload_n 0, 1) := by decide +kernel
theorem dX10_rejectRivals_48 : decode cX10_rejectRivals 48 = .ok (.iload_n 1, 1) := by decide +kernel
theorem dX10_rejectRivals_49 : decode cX10_rejectRivals 49 = .ok (.invokevirtual 188, 3) := by decide +kernel
theorem dX10_rejectRivals_52 : decode cX10_rejectRivals 52 = .ok (.if_icmp .ge 41, 3) := by decide +kernel
theorem dX10_rejectRivals_55 : decode cX10_rejectRivals 55 = .ok (.iload 4, 2) := by decide +kernel
theorem dX10_rejectRivals_57 : decode cX10_rejectRivals 57 = .ok (.ifCond .ne 23, 3) := by decide +kernel
theorem dX10_rejectRivals_60 : decode cX10_rejectRivals 60 = .ok (.iload_n 3, 1) := by decide +kernel
theorem dX10_rejectRivals_61 : decode cX10_rejectRivals 61 = .ok (.iload_n 1, 1) := by decide +kernel
theorem dX10_rejectRivals_62 : decode cX10_rejectRivals 62 = .ok (.if_icmp .eq 22, 3) := by decide +kernel
theorem dX10_rejectRivals_65 : decode cX10_rejectRivals 65 = .ok (.aload_n 0, 1) := by decide +kernel
theorem dX10_rejectRivals_66 : decode cX10_rejectRivals 66 = .ok (.iload_n 3, 1) := by decide +kernel
theorem dX10_rejectRivals_67 : decode cX10_rejectRivals 67 = .ok (.aload_n 0, 1) := by decide +kernel
theorem dX10_rejectRivals_68 : decode cX10_rejectRivals 68 = .ok (.iload_n 1, 1) := by decide +kernel
theorem dX10_rejectRivals_69 : decode cX10_rejectRivals 69 = .ok (.iload 5, 2) := by decide +kernel
theorem dX10_rejectRivals_71 : decode cX10_rejectRivals 71 = .ok (.invokevirtual 255, 3) := by decide +kernel
theorem dX10_rejectRivals_74 : decode cX10_rejectRivals 74 = .ok (.invokevirtual 258, 3) := by decide +kernel
theorem dX10_rejectRivals_77 : decode cX10_rejectRivals 77 = .ok (.ifCond .eq 7, 3) := by decide +kernel
theorem dX10_rejectRivals_80 : decode cX10_rejectRivals 80 = .ok (.iconst 1, 1) := by decide +kernel
theorem dX10_rejectRivals_81 : decode cX10_rejectRivals 81 = .ok (.goto 4, 3) := by decide +kernel
theorem dX10_rejectRivals_84 : decode cX10_rejectRivals 84 = .ok (.iconst 0, 1) := by decide +kernel
theorem dX10_rejectRivals_85 : decode cX10_rejectRivals 85 = .ok (.istore 4, 2) := by decide +kernel
theorem dX10_rejectRivals_87 : decode cX10_rejectRivals 87 = .ok (.iinc 5 1, 3) := by decide +kernel
theorem dX10_rejectRivals_90 : decode cX10_rejectRivals 90 = .ok (.goto (-45), 3) := by decide +kernel
theorem dX10_rejectRivals_93 : decode cX10_rejectRivals 93 = .ok (.iconst 0, 1) := by decide +kernel
theorem dX10_rejectRivals_94 : decode cX10_rejectRivals 94 = .ok (.istore 5, 2) := by decide +kernel
theorem dX10_rejectRivals_96 : decode cX10_rejectRivals 96 = .ok (.iload 5, 2) := by decide +kernel
theorem dX10_rejectRivals_98 : decode cX10_rejectRivals 98 = .ok (.aload_n 0, 1) := by decide +kernel
theorem dX10_rejectRivals_99 : decode cX10_rejectRivals 99 = .ok (.iload_n 3, 1) := by decide +kernel
theorem dX10_rejectRivals_100 : decode cX10_rejectRivals 100 = .ok (.invokevirtual 182, 3) := by decide +kernel
theorem dX10_rejectRivals_103 : decode cX10_rejectRivals 103 = .ok (.if_icmp .ge 40, 3) := by decide +kernel
theorem dX10_rejectRivals_106 : decode cX10_rejectRivals 106 = .ok (.iload 4, 2) := by decide +kernel
theorem dX10_rejectRivals_108 : decode cX10_rejectRivals 108 = .ok (.ifCond .ne 22, 3) := by decide +kernel
theorem dX10_rejectRivals_111 : decode cX10_rejectRivals 111 = .ok (.aload_n 0, 1) := by decide +kernel
theorem dX10_rejectRivals_112 : decode cX10_rejectRivals 112 = .ok (.getfield 55, 3) := by decide +kernel
theorem dX10_rejectRivals_115 : decode cX10_rejectRivals 115 = .ok (.aload_n 0, 1) := by decide +kernel
theorem dX10_rejectRivals_116 : decode cX10_rejectRivals 116 = .ok (.aload_n 0, 1) := by decide +kernel
theorem dX10_rejectRivals_117 : decode cX10_rejectRivals 117 = .ok (.iload_n 3, 1) := by decide +kernel
theorem dX10_rejectRivals_118 : decode cX10_rejectRivals 118 = .ok (.iload 5, 2) := by decide +kernel
theorem dX10_rejectRivals_120 : decode cX10_rejectRivals 120 = .ok (.invokevirtual 224, 3) := by decide +kernel
theorem dX10_rejectRivals_123 : decode cX10_rejectRivals 123 = .ok (.invokevirtual 198, 3) := by decide +kernel
theorem dX10_rejectRivals_126 : decode cX10_rejectRivals 126 = .ok (.baload, 1) := by decide +kernel
theorem dX10_rejectRivals_127 : decode cX10_rejectRivals 127 = .ok (.ifCond .eq 7, 3) := by decide +kernel
theorem dX10_rejectRivals_130 : decode cX10_rejectRivals 130 = .ok (.iconst 1, 1) := by decide +kernel
theorem dX10_rejectRivals_131 : decode cX10_rejectRivals 131 = .ok (.goto 4, 3) := by decide +kernel
theorem dX10_rejectRivals_134 : decode cX10_rejectRivals 134 = .ok (.iconst 0, 1) := by decide +kernel
theorem dX10_rejectRivals_135 : decode cX10_rejectRivals 135 = .ok (.istore 4, 2) := by decide +kernel
theorem dX10_rejectRivals_137 : decode cX10_rejectRivals 137 = .ok (.iinc 5 1, 3) := by decide +kernel
theorem dX10_rejectRivals_140 : decode cX10_rejectRivals 140 = .ok (.goto (-44), 3) := by decide +kernel
theorem dX10_rejectRivals_143 : decode cX10_rejectRivals 143 = .ok (.aload_n 0, 1) := by decide +kernel
theorem dX10_rejectRivals_144 : decode cX10_rejectRivals 144 = .ok (.getfield 55, 3) := by decide +kernel
theorem dX10_rejectRivals_147 : decode cX10_rejectRivals 147 = .ok (.iload_n 3, 1) := by decide +kernel
theorem dX10_rejectRivals_148 : decode cX10_rejectRivals 148 = .ok (.iload 4, 2) := by decide +kernel
theorem dX10_rejectRivals_150 : decode cX10_rejectRivals 150 = .ok (.bastore, 1) := by decide +kernel
theorem dX10_rejectRivals_151 : decode cX10_rejectRivals 151 = .ok (.iinc 2 1, 3) := by decide +kernel
theorem dX10_rejectRivals_154 : decode cX10_rejectRivals 154 = .ok (.goto (-130), 3) := by decide +kernel
theorem dX10_rejectRivals_157 : decode cX10_rejectRivals 157 = .ok (.iconst 1, 1) := by decide +kernel
theorem dX10_rejectRivals_158 : decode cX10_rejectRivals 158 = .ok (.istore_n 2, 1) := by decide +kernel
theorem dX10_rejectRivals_159 : decode cX10_rejectRivals 159 = .ok (.iload_n 2, 1) := by decide +kernel
theorem dX10_rejectRivals_160 : decode cX10_rejectRivals 160 = .ok (.aload_n 0, 1) := by decide +kernel
theorem dX10_rejectRivals_161 : decode cX10_rejectRivals 161 = .ok (.getfield 43, 3) := by decide +kernel
theorem dX10_rejectRivals_164 : decode cX10_rejectRivals 164 = .ok (.if_icmp .ge 48, 3) := by decide +kernel
theorem dX10_rejectRivals_167 : decode cX10_rejectRivals 167 = .ok (.aload_n 0, 1) := by decide +kernel
theorem dX10_rejectRivals_168 : decode cX10_rejectRivals 168 = .ok (.getfield 55, 3) := by decide +kernel
theorem dX10_rejectRivals_171 : decode cX10_rejectRivals 171 = .ok (.aload_n 0, 1) := by decide +kernel
theorem dX10_rejectRivals_172 : decode cX10_rejectRivals 172 = .ok (.getfield 40, 3) := by decide +kernel
theorem dX10_rejectRivals_175 : decode cX10_rejectRivals 175 = .ok (.iload_n 2, 1) := by decide +kernel
theorem dX10_rejectRivals_176 : decode cX10_rejectRivals 176 = .ok (.iaload, 1) := by decide +kernel
theorem dX10_rejectRivals_177 : decode cX10_rejectRivals 177 = .ok (.baload, 1) := by decide +kernel
theorem dX10_rejectRivals_178 : decode cX10_rejectRivals 178 = .ok (.ifCond .eq 28, 3) := by decide +kernel
theorem dX10_rejectRivals_181 : decode cX10_rejectRivals 181 = .ok (.aload_n 0, 1) := by decide +kernel
theorem dX10_rejectRivals_182 : decode cX10_rejectRivals 182 = .ok (.getfield 30, 3) := by decide +kernel
theorem dX10_rejectRivals_185 : decode cX10_rejectRivals 185 = .ok (.aload_n 0, 1) := by decide +kernel
theorem dX10_rejectRivals_186 : decode cX10_rejectRivals 186 = .ok (.getfield 40, 3) := by decide +kernel
theorem dX10_rejectRivals_189 : decode cX10_rejectRivals 189 = .ok (.iload_n 2, 1) := by decide +kernel
theorem dX10_rejectRivals_190 : decode cX10_rejectRivals 190 = .ok (.iaload, 1) := by decide +kernel
theorem dX10_rejectRivals_191 : decode cX10_rejectRivals 191 = .ok (.iaload, 1) := by decide +kernel
theorem dX10_rejectRivals_192 : decode cX10_rejectRivals 192 = .ok (.iconst 2, 1) := by decide +kernel
theorem dX10_rejectRivals_193 : decode cX10_rejectRivals 193 = .ok (.if_icmp .ne 13, 3) := by decide +kernel
theorem dX10_rejectRivals_196 : decode cX10_rejectRivals 196 = .ok (.aload_n 0, 1) := by decide +kernel
theorem dX10_rejectRivals_197 : decode cX10_rejectRivals 197 = .ok (.aload_n 0, 1) := by decide +kernel
theorem dX10_rejectRivals_198 : decode cX10_rejectRivals 198 = .ok (.getfield 40, 3) := by decide +kernel
theorem dX10_rejectRivals_201 : decode cX10_rejectRivals 201 = .ok (.iload_n 2, 1) := by decide +kernel
theorem dX10_rejectRivals_202 : decode cX10_rejectRivals 202 = .ok (.iaload, 1) := by decide +kernel
theorem dX10_rejectRivals_203 : decode cX10_rejectRivals 203 = .ok (.invokevirtual 271, 3) := by decide +kernel
theorem dX10_rejectRivals_206 : decode cX10_rejectRivals 206 = .ok (.iinc 2 1, 3) := by decide +kernel
theorem dX10_rejectRivals_209 : decode cX10_rejectRivals 209 = .ok (.goto (-50), 3) := by decide +kernel
theorem dX10_rejectRivals_212 : decode cX10_rejectRivals 212 = .ok (.return_, 1) := by decide +kernel
theorem dX10_look_0 : decode cX10_look 0 = .ok (.aload_n 0, 1) := by decide +kernel
theorem dX10_look_1 : decode cX10_look 1 = .ok (.iload_n 2, 1) := by decide +kernel
theorem dX10_look_2 : decode cX10_look 2 = .ok (.ifCond .lt 9, 3) := by decide +kernel
theorem dX10_look_5 : decode cX10_look 5 = .ok (.iload_n 2, 1) := by decide +kernel
theorem dX10_look_6 : decode cX10_look 6 = .ok (.bipush 9, 2) := by decide +kernel
theorem dX10_look_8 : decode cX10_look 8 = .ok (.if_icmp .le 7, 3) := by decide +kernel
theorem dX10_look_11 : decode cX10_look 11 = .ok (.iconst 1, 1) := by decide +kernel
theorem dX10_look_12 : decode cX10_look 12 = .ok (.goto 4, 3) := by decide +kernel
theorem dX10_look_15 : decode cX10_look 15 = .ok (.iconst 0, 1) := by decide +kernel
theorem dX10_look_16 : decode cX10_look 16 = .ok (.putfield 145, 3) := by decide +kernel
theorem dX10_look_19 : decode cX10_look 19 = .ok (.aload_n 0, 1) := by decide +kernel
theorem dX10_look_20 : decode cX10_look 20 = .ok (.iload_n 1, 1) := by decide +kernel
theorem dX10_look_21 : decode cX10_look 21 = .ok (.invokevirtual 198, 3) := by decide +kernel
theorem dX10_look_24 : decode cX10_look 24 = .ok (.istore_n 3, 1) := by decide +kernel
theorem dX10_look_25 : decode cX10_look 25 = .ok (.aload_n 0, 1) := by decide +kernel
theorem dX10_look_26 : decode cX10_look 26 = .ok (.getfield 145, 3) := by decide +kernel
theorem dX10_look_29 : decode cX10_look 29 = .ok (.ifCond .gt 7, 3) := by decide +kernel
theorem dX10_look_32 : decode cX10_look 32 = .ok (.iload_n 3, 1) := by decide +kernel
theorem dX10_look_33 : decode cX10_look 33 = .ok (.ifCond .ge 5, 3) := by decide +kernel
theorem dX10_look_36 : decode cX10_look 36 = .ok (.iconst 0, 1) := by decide +kernel
theorem dX10_look_37 : decode cX10_look 37 = .ok (.ireturn, 1) := by decide +kernel
theorem dX10_look_38 : decode cX10_look 38 = .ok (.iload_n 2, 1) := by decide +kernel
theorem dX10_look_39 : decode cX10_look 39 = .ok (.ifCond .ne 10, 3) := by decide +kernel
theorem dX10_look_42 : decode cX10_look 42 = .ok (.aload_n 0, 1) := by decide +kernel
theorem dX10_look_43 : decode cX10_look 43 = .ok (.getfield 30, 3) := by decide +kernel
theorem dX10_look_46 : decode cX10_look 46 = .ok (.iload_n 3, 1) := by decide +kernel
theorem dX10_look_47 : decode cX10_look 47 = .ok (.iaload, 1) := by decide +kernel
theorem dX10_look_48 : decode cX10_look 48 = .ok (.ireturn, 1) := by decide +kernel
theorem dX10_look_49 : decode cX10_look 49 = .ok (.iload_n 2, 1) := by decide +kernel
theorem dX10_look_50 : decode cX10_look 50 = .ok (.iconst 5, 1) := by decide +kernel
theorem dX10_look_51 : decode cX10_look 51 = .ok (.if_icmp .le 52, 3) := by decide +kernel
theorem dX10_look_54 : decode cX10_look 54 = .ok (.iload_n 2, 1) := by decide +kernel
theorem dX10_look_55 : decode cX10_look 55 = .ok (.bipush 6, 2) := by decide +kernel
theorem dX10_look_57 : decode cX10_look 57 = .ok (.if_icmp .ne 11, 3) := by decide +kernel
theorem dX10_look_60 : decode cX10_look 60 = .ok (.aload_n 0, 1) := by decide +kernel
theorem dX10_look_61 : decode cX10_look 61 = .ok (.iload_n 3, 1) := by decide +kernel
theorem dX10_look_62 : decode cX10_look 62 = .ok (.invokevirtual 182, 3) := by decide +kernel
theorem dX10_look_65 : decode cX10_look 65 = .ok (.goto 37, 3) := by decide +kernel
theorem dX10_look_68 : decode cX10_look 68 = .ok (.iload_n 2, 1) := by decide +kernel
theorem dX10_look_69 : decode cX10_look 69 = .ok (.bipush 7, 2) := by decide +kernel
theorem dX10_look_71 : decode cX10_look 71 = .ok (.if_icmp .ne 11, 3) := by decide +kernel
theorem dX10_look_74 : decode cX10_look 74 = .ok (.aload_n 0, 1) := by decide +kernel
theorem dX10_look_75 : decode cX10_look 75 = .ok (.iload_n 3, 1) := by decide +kernel
theorem dX10_look_76 : decode cX10_look 76 = .ok (.invokevirtual 188, 3) := by decide +kernel
theorem dX10_look_79 : decode cX10_look 79 = .ok (.goto 23, 3) := by decide +kernel
theorem dX10_look_82 : decode cX10_look 82 = .ok (.iload_n 2, 1) := by decide +kernel
theorem dX10_look_83 : decode cX10_look 83 = .ok (.bipush 8, 2) := by decide +kernel
theorem dX10_look_85 : decode cX10_look 85 = .ok (.if_icmp .ne 11, 3) := by decide +kernel
theorem dX10_look_88 : decode cX10_look 88 = .ok (.aload_n 0, 1) := by decide +kernel
theorem dX10_look_89 : decode cX10_look 89 = .ok (.iload_n 3, 1) := by decide +kernel
theorem dX10_look_90 : decode cX10_look 90 = .ok (.invokevirtual 245, 3) := by decide +kernel
theorem dX10_look_93 : decode cX10_look 93 = .ok (.goto 9, 3) := by decide +kernel
theorem dX10_look_96 : decode cX10_look 96 = .ok (.aload_n 0, 1) := by decide +kernel
theorem dX10_look_97 : decode cX10_look 97 = .ok (.getfield 27, 3) := by decide +kernel
theorem dX10_look_100 : decode cX10_look 100 = .ok (.iload_n 3, 1) := by decide +kernel
theorem dX10_look_101 : decode cX10_look 101 = .ok (.iaload, 1) := by decide +kernel
theorem dX10_look_102 : decode cX10_look 102 = .ok (.ireturn, 1) := by decide +kernel
theorem dX10_look_103 : decode cX10_look 103 = .ok (.aload_n 0, 1) := by decide +kernel
theorem dX10_look_104 : decode cX10_look 104 = .ok (.iload_n 3, 1) := by decide +kernel
theorem dX10_look_105 : decode cX10_look 105 = .ok (.invokevirtual 283, 3) := by decide +kernel
theorem dX10_look_108 : decode cX10_look 108 = .ok (.ifCond .ne 5, 3) := by decide +kernel
theorem dX10_look_111 : decode cX10_look 111 = .ok (.iconst 0, 1) := by decide +kernel
theorem dX10_look_112 : decode cX10_look 112 = .ok (.ireturn, 1) := by decide +kernel
theorem dX10_look_113 : decode cX10_look 113 = .ok (.iload_n 2, 1) := by decide +kernel
theorem dX10_look_114 : decode cX10_look 114 = .ok (.iconst 4, 1) := by decide +kernel
theorem dX10_look_115 : decode cX10_look 115 = .ok (.if_icmp .ge 52, 3) := by decide +kernel
theorem dX10_look_118 : decode cX10_look 118 = .ok (.iload_n 2, 1) := by decide +kernel
theorem dX10_look_119 : decode cX10_look 119 = .ok (.iconst 1, 1) := by decide +kernel
theorem dX10_look_120 : decode cX10_look 120 = .ok (.if_icmp .ne 11, 3) := by decide +kernel
theorem dX10_look_123 : decode cX10_look 123 = .ok (.aload_n 0, 1) := by decide +kernel
theorem dX10_look_124 : decode cX10_look 124 = .ok (.iload_n 3, 1) := by decide +kernel
theorem dX10_look_125 : decode cX10_look 125 = .ok (.invokevirtual 277, 3) := by decide +kernel
theorem dX10_look_128 : decode cX10_look 128 = .ok (.goto 38, 3) := by decide +kernel
theorem dX10_look_131 : decode cX10_look 131 = .ok (.iload_n 2, 1) := by decide +kernel
theorem dX10_look_132 : decode cX10_look 132 = .ok (.iconst 2, 1) := by decide +kernel
theorem dX10_look_133 : decode cX10_look 133 = .ok (.if_icmp .ne 20, 3) := by decide +kernel
theorem dX10_look_136 : decode cX10_look 136 = .ok (.aload_n 0, 1) := by decide +kernel
theorem dX10_look_137 : decode cX10_look 137 = .ok (.getfield 33, 3) := by decide +kernel
theorem dX10_look_140 : decode cX10_look 140 = .ok (.iload_n 3, 1) := by decide +kernel
theorem dX10_look_141 : decode cX10_look 141 = .ok (.baload, 1) := by decide +kernel
theorem dX10_look_142 : decode cX10_look 142 = .ok (.ifCond .eq 7, 3) := by decide +kernel
theorem dX10_look_145 : decode cX10_look 145 = .ok (.iconst 1, 1) := by decide +kernel
theorem dX10_look_146 : decode cX10_look 146 = .ok (.goto 20, 3) := by decide +kernel
theorem dX10_look_149 : decode cX10_look 149 = .ok (.iconst 0, 1) := by decide +kernel
theorem dX10_look_150 : decode cX10_look 150 = .ok (.goto 16, 3) := by decide +kernel
theorem dX10_look_153 : decode cX10_look 153 = .ok (.aload_n 0, 1) := by decide +kernel
theorem dX10_look_154 : decode cX10_look 154 = .ok (.iload_n 3, 1) := by decide +kernel
theorem dX10_look_155 : decode cX10_look 155 = .ok (.invokevirtual 280, 3) := by decide +kernel
theorem dX10_look_158 : decode cX10_look 158 = .ok (.ifCond .eq 7, 3) := by decide +kernel
theorem dX10_look_161 : decode cX10_look 161 = .ok (.iconst 1, 1) := by decide +kernel
theorem dX10_look_162 : decode cX10_look 162 = .ok (.goto 4, 3) := by decide +kernel
theorem dX10_look_165 : decode cX10_look 165 = .ok (.iconst 0, 1) := by decide +kernel
theorem dX10_look_166 : decode cX10_look 166 = .ok (.ireturn, 1) := by decide +kernel
theorem dX10_look_167 : decode cX10_look 167 = .ok (.iload_n 2, 1) := by decide +kernel
theorem dX10_look_168 : decode cX10_look 168 = .ok (.iconst 4, 1) := by decide +kernel
theorem dX10_look_169 : decode cX10_look 169 = .ok (.if_icmp .ne 11, 3) := by decide +kernel
theorem dX10_look_172 : decode cX10_look 172 = .ok (.aload_n 0, 1) := by decide +kernel
theorem dX10_look_173 : decode cX10_look 173 = .ok (.iload_n 3, 1) := by decide +kernel
theorem dX10_look_174 : decode cX10_look 174 = .ok (.invokevirtual 242, 3) := by decide +kernel
theorem dX10_look_177 : decode cX10_look 177 = .ok (.goto 8, 3) := by decide +kernel
theorem dX10_look_180 : decode cX10_look 180 = .ok (.aload_n 0, 1) := by decide +kernel
theorem dX10_look_181 : decode cX10_look 181 = .ok (.iload_n 3, 1) := by decide +kernel
theorem dX10_look_182 : decode cX10_look 182 = .ok (.invokevirtual 262, 3) := by decide +kernel
theorem dX10_look_185 : decode cX10_look 185 = .ok (.iload_n 2, 1) := by decide +kernel
theorem dX10_look_186 : decode cX10_look 186 = .ok (.iconst 4, 1) := by decide +kernel
theorem dX10_look_187 : decode cX10_look 187 = .ok (.if_icmp .ne 7, 3) := by decide +kernel
theorem dX10_look_190 : decode cX10_look 190 = .ok (.iconst 0, 1) := by decide +kernel
theorem dX10_look_191 : decode cX10_look 191 = .ok (.goto 4, 3) := by decide +kernel
theorem dX10_look_194 : decode cX10_look 194 = .ok (.iconst (-1), 1) := by decide +kernel
theorem dX10_look_195 : decode cX10_look 195 = .ok (.istore 4, 2) := by decide +kernel
theorem dX10_look_197 : decode cX10_look 197 = .ok (.iconst 0, 1) := by decide +kernel
theorem dX10_look_198 : decode cX10_look 198 = .ok (.istore 5, 2) := by decide +kernel
theorem dX10_look_200 : decode cX10_look 200 = .ok (.iload 5, 2) := by decide +kernel
theorem dX10_look_202 : decode cX10_look 202 = .ok (.aload_n 0, 1) := by decide +kernel
theorem dX10_look_203 : decode cX10_look 203 = .ok (.getfield 16, 3) := by decide +kernel
