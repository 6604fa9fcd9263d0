theorem dX10_look_206 : decode cX10_look 206 = .ok (.if_icmp .ge 29, 3) := by decide +kernel
theorem dX10_look_209 : decode cX10_look 209 = .ok (.iload 4, 2) := by decide +kernel
theorem dX10_look_211 : decode cX10_look 211 = .ok (.aload_n 0, 1) := by decide +kernel
theorem dX10_look_212 : decode cX10_look 212 = .ok (.getfield 52, 3) := by decide +kernel
theorem dX10_look_215 : decode cX10_look 215 = .ok (.iload 5, 2) := by decide +kernel
theorem dX10_look_217 : decode cX10_look 217 = .ok (.baload, 1) := by decide +kernel
theorem dX10_look_218 : decode cX10_look 218 = .ok (.ifCond .eq 7, 3) := by decide +kernel
theorem dX10_look_221 : decode cX10_look 221 = .ok (.iconst 1, 1) := by decide +kernel
theorem dX10_look_222 : decode cX10_look 222 = .ok (.goto 4, 3) := by decide +kernel
theorem dX10_look_225 : decode cX10_look 225 = .ok (.iconst 0, 1) := by decide +kernel
theorem dX10_look_226 : decode cX10_look 226 = .ok (.iadd, 1) := by decide +kernel
theorem dX10_look_227 : decode cX10_look 227 = .ok (.istore 4, 2) := by decide +kernel
theorem dX10_look_229 : decode cX10_look 229 = .ok (.iinc 5 1, 3) := by decide +kernel
theorem dX10_look_232 : decode cX10_look 232 = .ok (.goto (-32), 3) := by decide +kernel
theorem dX10_look_235 : decode cX10_look 235 = .ok (.iload 4, 2) := by decide +kernel
theorem dX10_look_237 : decode cX10_look 237 = .ok (.ireturn, 1) := by decide +kernel
theorem dX10_idOf_0 : decode cX10_idOf 0 = .ok (.iload_n 1, 1) := by decide +kernel
theorem dX10_idOf_1 : decode cX10_idOf 1 = .ok (.ifCond .ge 7, 3) := by decide +kernel
theorem dX10_idOf_4 : decode cX10_idOf 4 = .ok (.iconst (-1), 1) := by decide +kernel
theorem dX10_idOf_5 : decode cX10_idOf 5 = .ok (.goto 9, 3) := by decide +kernel
theorem dX10_idOf_8 : decode cX10_idOf 8 = .ok (.aload_n 0, 1) := by decide +kernel
theorem dX10_idOf_9 : decode cX10_idOf 9 = .ok (.getfield 20, 3) := by decide +kernel
theorem dX10_idOf_12 : decode cX10_idOf 12 = .ok (.iload_n 1, 1) := by decide +kernel
theorem dX10_idOf_13 : decode cX10_idOf 13 = .ok (.iaload, 1) := by decide +kernel
theorem dX10_idOf_14 : decode cX10_idOf 14 = .ok (.ireturn, 1) := by decide +kernel
theorem dX10_set_0 : decode cX10_set 0 = .ok (.aload_n 0, 1) := by decide +kernel
theorem dX10_set_1 : decode cX10_set 1 = .ok (.iload_n 1, 1) := by decide +kernel
theorem dX10_set_2 : decode cX10_set 2 = .ok (.invokevirtual 198, 3) := by decide +kernel
theorem dX10_set_5 : decode cX10_set 5 = .ok (.istore 4, 2) := by decide +kernel
theorem dX10_set_7 : decode cX10_set 7 = .ok (.aload_n 0, 1) := by decide +kernel
theorem dX10_set_8 : decode cX10_set 8 = .ok (.aload_n 0, 1) := by decide +kernel
theorem dX10_set_9 : decode cX10_set 9 = .ok (.iload 4, 2) := by decide +kernel
theorem dX10_set_11 : decode cX10_set 11 = .ok (.invokevirtual 283, 3) := by decide +kernel
theorem dX10_set_14 : decode cX10_set 14 = .ok (.ifCond .eq 26, 3) := by decide +kernel
theorem dX10_set_17 : decode cX10_set 17 = .ok (.iload_n 2, 1) := by decide +kernel
theorem dX10_set_18 : decode cX10_set 18 = .ok (.ifCond .lt 22, 3) := by decide +kernel
theorem dX10_set_21 : decode cX10_set 21 = .ok (.iload_n 2, 1) := by decide +kernel
theorem dX10_set_22 : decode cX10_set 22 = .ok (.aload_n 0, 1) := by decide +kernel
theorem dX10_set_23 : decode cX10_set 23 = .ok (.iload 4, 2) := by decide +kernel
theorem dX10_set_25 : decode cX10_set 25 = .ok (.invokevirtual 245, 3) := by decide +kernel
theorem dX10_set_28 : decode cX10_set 28 = .ok (.if_icmp .ge 12, 3) := by decide +kernel
theorem dX10_set_31 : decode cX10_set 31 = .ok (.iload_n 3, 1) := by decide +kernel
theorem dX10_set_32 : decode cX10_set 32 = .ok (.ifCond .lt 8, 3) := by decide +kernel
theorem dX10_set_35 : decode cX10_set 35 = .ok (.iload_n 3, 1) := by decide +kernel
theorem dX10_set_36 : decode cX10_set 36 = .ok (.iconst 4, 1) := by decide +kernel
theorem dX10_set_37 : decode cX10_set 37 = .ok (.if_icmp .le 7, 3) := by decide +kernel
theorem dX10_set_40 : decode cX10_set 40 = .ok (.iconst 1, 1) := by decide +kernel
theorem dX10_set_41 : decode cX10_set 41 = .ok (.goto 4, 3) := by decide +kernel
theorem dX10_set_44 : decode cX10_set 44 = .ok (.iconst 0, 1) := by decide +kernel
theorem dX10_set_45 : decode cX10_set 45 = .ok (.putfield 145, 3) := by decide +kernel
theorem dX10_set_48 : decode cX10_set 48 = .ok (.aload_n 0, 1) := by decide +kernel
theorem dX10_set_49 : decode cX10_set 49 = .ok (.getfield 145, 3) := by decide +kernel
theorem dX10_set_52 : decode cX10_set 52 = .ok (.ifCond .le 5, 3) := by decide +kernel
theorem dX10_set_55 : decode cX10_set 55 = .ok (.iconst 0, 1) := by decide +kernel
theorem dX10_set_56 : decode cX10_set 56 = .ok (.ireturn, 1) := by decide +kernel
theorem dX10_set_57 : decode cX10_set 57 = .ok (.iload 4, 2) := by decide +kernel
theorem dX10_set_59 : decode cX10_set 59 = .ok (.iload_n 2, 1) := by decide +kernel
theorem dX10_set_60 : decode cX10_set 60 = .ok (.invokestatic 204, 3) := by decide +kernel
theorem dX10_set_63 : decode cX10_set 63 = .ok (.istore 5, 2) := by decide +kernel
theorem dX10_set_65 : decode cX10_set 65 = .ok (.iload_n 3, 1) := by decide +kernel
theorem dX10_set_66 : decode cX10_set 66 = .ok (.ifCond .ne 10, 3) := by decide +kernel
theorem dX10_set_69 : decode cX10_set 69 = .ok (.aload_n 0, 1) := by decide +kernel
theorem dX10_set_70 : decode cX10_set 70 = .ok (.iload 5, 2) := by decide +kernel
theorem dX10_set_72 : decode cX10_set 72 = .ok (.invokevirtual 268, 3) := by decide +kernel
theorem dX10_set_75 : decode cX10_set 75 = .ok (.ireturn, 1) := by decide +kernel
theorem dX10_set_76 : decode cX10_set 76 = .ok (.iload_n 3, 1) := by decide +kernel
theorem dX10_set_77 : decode cX10_set 77 = .ok (.iconst 3, 1) := by decide +kernel
theorem dX10_set_78 : decode cX10_set 78 = .ok (.if_icmp .ge 30, 3) := by decide +kernel
theorem dX10_set_81 : decode cX10_set 81 = .ok (.aload_n 0, 1) := by decide +kernel
theorem dX10_set_82 : decode cX10_set 82 = .ok (.iload_n 3, 1) := by decide +kernel
theorem dX10_set_83 : decode cX10_set 83 = .ok (.iconst 1, 1) := by decide +kernel
theorem dX10_set_84 : decode cX10_set 84 = .ok (.if_icmp .ne 13, 3) := by decide +kernel
theorem dX10_set_87 : decode cX10_set 87 = .ok (.aload_n 0, 1) := by decide +kernel
theorem dX10_set_88 : decode cX10_set 88 = .ok (.getfield 58, 3) := by decide +kernel
theorem dX10_set_91 : decode cX10_set 91 = .ok (.iload 5, 2) := by decide +kernel
theorem dX10_set_93 : decode cX10_set 93 = .ok (.iaload, 1) := by decide +kernel
theorem dX10_set_94 : decode cX10_set 94 = .ok (.goto 10, 3) := by decide +kernel
theorem dX10_set_97 : decode cX10_set 97 = .ok (.aload_n 0, 1) := by decide +kernel
theorem dX10_set_98 : decode cX10_set 98 = .ok (.getfield 61, 3) := by decide +kernel
theorem dX10_set_101 : decode cX10_set 101 = .ok (.iload 5, 2) := by decide +kernel
theorem dX10_set_103 : decode cX10_set 103 = .ok (.iaload, 1) := by decide +kernel
theorem dX10_set_104 : decode cX10_set 104 = .ok (.invokevirtual 328, 3) := by decide +kernel
theorem dX10_set_107 : decode cX10_set 107 = .ok (.ireturn, 1) := by decide +kernel
theorem dX10_set_108 : decode cX10_set 108 = .ok (.iload_n 3, 1) := by decide +kernel
theorem dX10_set_109 : decode cX10_set 109 = .ok (.iconst 3, 1) := by decide +kernel
theorem dX10_set_110 : decode cX10_set 110 = .ok (.if_icmp .ne 13, 3) := by decide +kernel
theorem dX10_set_113 : decode cX10_set 113 = .ok (.aload_n 0, 1) := by decide +kernel
theorem dX10_set_114 : decode cX10_set 114 = .ok (.getfield 64, 3) := by decide +kernel
theorem dX10_set_117 : decode cX10_set 117 = .ok (.iload 5, 2) := by decide +kernel
theorem dX10_set_119 : decode cX10_set 119 = .ok (.iaload, 1) := by decide +kernel
theorem dX10_set_120 : decode cX10_set 120 = .ok (.goto 13, 3) := by decide +kernel
theorem dX10_set_123 : decode cX10_set 123 = .ok (.aload_n 0, 1) := by decide +kernel
theorem dX10_set_124 : decode cX10_set 124 = .ok (.aload_n 0, 1) := by decide +kernel
theorem dX10_set_125 : decode cX10_set 125 = .ok (.iload 5, 2) := by decide +kernel
theorem dX10_set_127 : decode cX10_set 127 = .ok (.invokevirtual 265, 3) := by decide +kernel
theorem dX10_set_130 : decode cX10_set 130 = .ok (.invokevirtual 328, 3) := by decide +kernel
theorem dX10_set_133 : decode cX10_set 133 = .ok (.ireturn, 1) := by decide +kernel
theorem dX10_byteOf_0 : decode cX10_byteOf 0 = .ok (.aload_n 0, 1) := by decide +kernel
theorem dX10_byteOf_1 : decode cX10_byteOf 1 = .ok (.iconst 0, 1) := by decide +kernel
theorem dX10_byteOf_2 : decode cX10_byteOf 2 = .ok (.putfield 145, 3) := by decide +kernel
theorem dX10_byteOf_5 : decode cX10_byteOf 5 = .ok (.aload_n 0, 1) := by decide +kernel
theorem dX10_byteOf_6 : decode cX10_byteOf 6 = .ok (.iload_n 1, 1) := by decide +kernel
theorem dX10_byteOf_7 : decode cX10_byteOf 7 = .ok (.invokevirtual 198, 3) := by decide +kernel
theorem dX10_byteOf_10 : decode cX10_byteOf 10 = .ok (.istore_n 3, 1) := by decide +kernel
theorem dX10_byteOf_11 : decode cX10_byteOf 11 = .ok (.iload_n 3, 1) := by decide +kernel
theorem dX10_byteOf_12 : decode cX10_byteOf 12 = .ok (.ifCond .lt 17, 3) := by decide +kernel
theorem dX10_byteOf_15 : decode cX10_byteOf 15 = .ok (.iload_n 2, 1) := by decide +kernel
theorem dX10_byteOf_16 : decode cX10_byteOf 16 = .ok (.ifCond .lt 13, 3) := by decide +kernel
theorem dX10_byteOf_19 : decode cX10_byteOf 19 = .ok (.iload_n 2, 1) := by decide +kernel
theorem dX10_byteOf_20 : decode cX10_byteOf 20 = .ok (.aload_n 0, 1) := by decide +kernel
theorem dX10_byteOf_21 : decode cX10_byteOf 21 = .ok (.getfield 27, 3) := by decide +kernel
theorem dX10_byteOf_24 : decode cX10_byteOf 24 = .ok (.iload_n 3, 1) := by decide +kernel
theorem dX10_byteOf_25 : decode cX10_byteOf 25 = .ok (.iaload, 1) := by decide +kernel
theorem dX10_byteOf_26 : decode cX10_byteOf 26 = .ok (.if_icmp .lt 7, 3) := by decide +kernel
theorem dX10_byteOf_29 : decode cX10_byteOf 29 = .ok (.iconst (-1), 1) := by decide +kernel
theorem dX10_byteOf_30 : decode cX10_byteOf 30 = .ok (.goto 9, 3) := by decide +kernel
theorem dX10_byteOf_33 : decode cX10_byteOf 33 = .ok (.aload_n 0, 1) := by decide +kernel
theorem dX10_byteOf_34 : decode cX10_byteOf 34 = .ok (.iload_n 3, 1) := by decide +kernel
theorem dX10_byteOf_35 : decode cX10_byteOf 35 = .ok (.iload_n 2, 1) := by decide +kernel
theorem dX10_byteOf_36 : decode cX10_byteOf 36 = .ok (.invokevirtual 176, 3) := by decide +kernel
theorem dX10_byteOf_39 : decode cX10_byteOf 39 = .ok (.ireturn, 1) := by decide +kernel
theorem dX10_isTip_0 : decode cX10_isTip 0 = .ok (.aload_n 0, 1) := by decide +kernel
theorem dX10_isTip_1 : decode cX10_isTip 1 = .ok (.iload_n 1, 1) := by decide +kernel
theorem dX10_isTip_2 : decode cX10_isTip 2 = .ok (.invokevirtual 286, 3) := by decide +kernel
theorem dX10_isTip_5 : decode cX10_isTip 5 = .ok (.istore_n 2, 1) := by decide +kernel
theorem dX10_isTip_6 : decode cX10_isTip 6 = .ok (.iconst 0, 1) := by decide +kernel
theorem dX10_isTip_7 : decode cX10_isTip 7 = .ok (.istore_n 3, 1) := by decide +kernel
theorem dX10_isTip_8 : decode cX10_isTip 8 = .ok (.iload_n 3, 1) := by decide +kernel
theorem dX10_isTip_9 : decode cX10_isTip 9 = .ok (.aload_n 0, 1) := by decide +kernel
theorem dX10_isTip_10 : decode cX10_isTip 10 = .ok (.getfield 43, 3) := by decide +kernel
theorem dX10_isTip_13 : decode cX10_isTip 13 = .ok (.if_icmp .ge 92, 3) := by decide +kernel
theorem dX10_isTip_16 : decode cX10_isTip 16 = .ok (.iload_n 2, 1) := by decide +kernel
theorem dX10_isTip_17 : decode cX10_isTip 17 = .ok (.ifCond .eq 88, 3) := by decide +kernel
theorem dX10_isTip_20 : decode cX10_isTip 20 = .ok (.aload_n 0, 1) := by decide +kernel
theorem dX10_isTip_21 : decode cX10_isTip 21 = .ok (.getfield 40, 3) := by decide +kernel
theorem dX10_isTip_24 : decode cX10_isTip 24 = .ok (.iload_n 3, 1) := by decide +kernel
theorem dX10_isTip_25 : decode cX10_isTip 25 = .ok (.iaload, 1) := by decide +kernel
theorem dX10_isTip_26 : decode cX10_isTip 26 = .ok (.istore 4, 2) := by decide +kernel
theorem dX10_isTip_28 : decode cX10_isTip 28 = .ok (.iconst 0, 1) := by decide +kernel
theorem dX10_isTip_29 : decode cX10_isTip 29 = .ok (.istore 5, 2) := by decide +kernel
theorem dX10_isTip_31 : decode cX10_isTip 31 = .ok (.iconst 0, 1) := by decide +kernel
theorem dX10_isTip_32 : decode cX10_isTip 32 = .ok (.istore 6, 2) := by decide +kernel
theorem dX10_isTip_34 : decode cX10_isTip 34 = .ok (.iload 6, 2) := by decide +kernel
theorem dX10_isTip_36 : decode cX10_isTip 36 = .ok (.aload_n 0, 1) := by decide +kernel
theorem dX10_isTip_37 : decode cX10_isTip 37 = .ok (.iload 4, 2) := by decide +kernel
theorem dX10_isTip_39 : decode cX10_isTip 39 = .ok (.invokevirtual 182, 3) := by decide +kernel
theorem dX10_isTip_42 : decode cX10_isTip 42 = .ok (.if_icmp .ge 37, 3) := by decide +kernel
theorem dX10_isTip_45 : decode cX10_isTip 45 = .ok (.iload 5, 2) := by decide +kernel
theorem dX10_isTip_47 : decode cX10_isTip 47 = .ok (.ifCond .ne 19, 3) := by decide +kernel
theorem dX10_isTip_50 : decode cX10_isTip 50 = .ok (.aload_n 0, 1) := by decide +kernel
theorem dX10_isTip_51 : decode cX10_isTip 51 = .ok (.aload_n 0, 1) := by decide +kernel
theorem dX10_isTip_52 : decode cX10_isTip 52 = .ok (.iload 4, 2) := by decide +kernel
theorem dX10_isTip_54 : decode cX10_isTip 54 = .ok (.iload 6, 2) := by decide +kernel
theorem dX10_isTip_56 : decode cX10_isTip 56 = .ok (.invokevirtual 224, 3) := by decide +kernel
theorem dX10_isTip_59 : decode cX10_isTip 59 = .ok (.invokevirtual 198, 3) := by decide +kernel
theorem dX10_isTip_62 : decode cX10_isTip 62 = .ok (.iload_n 1, 1) := by decide +kernel
theorem dX10_isTip_63 : decode cX10_isTip 63 = .ok (.if_icmp .ne 7, 3) := by decide +kernel
theorem dX10_isTip_66 : decode cX10_isTip 66 = .ok (.iconst 1, 1) := by decide +kernel
theorem dX10_isTip_67 : decode cX10_isTip 67 = .ok (.goto 4, 3) := by decide +kernel
theorem dX10_isTip_70 : decode cX10_isTip 70 = .ok (.iconst 0, 1) := by decide +kernel
theorem dX10_isTip_71 : decode cX10_isTip 71 = .ok (.istore 5, 2) := by decide +kernel
theorem dX10_isTip_73 : decode cX10_isTip 73 = .ok (.iinc 6 1, 3) := by decide +kernel
theorem dX10_isTip_76 : decode cX10_isTip 76 = .ok (.goto (-42), 3) := by decide +kernel
theorem dX10_isTip_79 : decode cX10_isTip 79 = .ok (.iload 5, 2) := by decide +kernel
theorem dX10_isTip_81 : decode cX10_isTip 81 = .ok (.ifCond .eq 12, 3) := by decide +kernel
theorem dX10_isTip_84 : decode cX10_isTip 84 = .ok (.aload_n 0, 1) := by decide +kernel
theorem dX10_isTip_85 : decode cX10_isTip 85 = .ok (.iload 4, 2) := by decide +kernel
theorem dX10_isTip_87 : decode cX10_isTip 87 = .ok (.invokevirtual 286, 3) := by decide +kernel
theorem dX10_isTip_90 : decode cX10_isTip 90 = .ok (.ifCond .ne 7, 3) := by decide +kernel
theorem dX10_isTip_93 : decode cX10_isTip 93 = .ok (.iconst 1, 1) := by decide +kernel
theorem dX10_isTip_94 : decode cX10_isTip 94 = .ok (.goto 4, 3) := by decide +kernel
theorem dX10_isTip_97 : decode cX10_isTip 97 = .ok (.iconst 0, 1) := by decide +kernel
theorem dX10_isTip_98 : decode cX10_isTip 98 = .ok (.istore_n 2, 1) := by decide +kernel
theorem dX10_isTip_99 : decode cX10_isTip 99 = .ok (.iinc 3 1, 3) := by decide +kernel
theorem dX10_isTip_102 : decode cX10_isTip 102 = .ok (.goto (-94), 3) := by decide +kernel
theorem dX10_isTip_105 : decode cX10_isTip 105 = .ok (.iload_n 2, 1) := by decide +kernel
theorem dX10_isTip_106 : decode cX10_isTip 106 = .ok (.ireturn, 1) := by decide +kernel
theorem dX10_tip_0 : decode cX10_tip 0 = .ok (.iconst 0, 1) := by decide +kernel
theorem dX10_tip_1 : decode cX10_tip 1 = .ok (.istore_n 2, 1) := by decide +kernel
theorem dX10_tip_2 : decode cX10_tip 2 = .ok (.aload_n 0, 1) := by decide +kernel
theorem dX10_tip_3 : decode cX10_tip 3 = .ok (.getfield 43, 3) := by decide +kernel
theorem dX10_tip_6 : decode cX10_tip 6 = .ok (.iconst 1, 1) := by decide +kernel
theorem dX10_tip_7 : decode cX10_tip 7 = .ok (.isub, 1) := by decide +kernel
theorem dX10_tip_8 : decode cX10_tip 8 = .ok (.istore_n 3, 1) := by decide +kernel
theorem dX10_tip_9 : decode cX10_tip 9 = .ok (.iload_n 3, 1) := by decide +kernel
theorem dX10_tip_10 : decode cX10_tip 10 = .ok (.ifCond .lt 42, 3) := by decide +kernel
theorem dX10_tip_13 : decode cX10_tip 13 = .ok (.aload_n 0, 1) := by decide +kernel
theorem dX10_tip_14 : decode cX10_tip 14 = .ok (.aload_n 0, 1) := by decide +kernel
theorem dX10_tip_15 : decode cX10_tip 15 = .ok (.getfield 40, 3) := by decide +kernel
theorem dX10_tip_18 : decode cX10_tip 18 = .ok (.iload_n 3, 1) := by decide +kernel
theorem dX10_tip_19 : decode cX10_tip 19 = .ok (.iaload, 1) := by decide +kernel
theorem dX10_tip_20 : decode cX10_tip 20 = .ok (.invokevirtual 331, 3) := by decide +kernel
theorem dX10_tip_23 : decode cX10_tip 23 = .ok (.ifCond .eq 23, 3) := by decide +kernel
theorem dX10_tip_26 : decode cX10_tip 26 = .ok (.iload_n 2, 1) := by decide +kernel
theorem dX10_tip_27 : decode cX10_tip 27 = .ok (.iload_n 1, 1) := by decide +kernel
theorem dX10_tip_28 : decode cX10_tip 28 = .ok (.if_icmp .ne 15, 3) := by decide +kernel
theorem dX10_tip_31 : decode cX10_tip 31 = .ok (.aload_n 0, 1) := by decide +kernel
theorem dX10_tip_32 : decode cX10_tip 32 = .ok (.getfield 20, 3) := by decide +kernel
theorem dX10_tip_35 : decode cX10_tip 35 = .ok (.aload_n 0, 1) := by decide +kernel
theorem dX10_tip_36 : decode cX10_tip 36 = .ok (.getfield 40, 3) := by decide +kernel
theorem dX10_tip_39 : decode cX10_tip 39 = .ok (.iload_n 3, 1) := by decide +kernel
theorem dX10_tip_40 : decode cX10_tip 40 = .ok (.iaload, 1) := by decide +kernel
theorem dX10_tip_41 : decode cX10_tip 41 = .ok (.iaload, 1) := by decide +kernel
theorem dX10_tip_42 : decode cX10_tip 42 = .ok (.ireturn, 1) := by decide +kernel
theorem dX10_tip_43 : decode cX10_tip 43 = .ok (.iinc 2 1, 3) := by decide +kernel
theorem dX10_tip_46 : decode cX10_tip 46 = .ok (.iinc 3 (-1), 3) := by decide +kernel
theorem dX10_tip_49 : decode cX10_tip 49 = .ok (.goto (-40), 3) := by decide +kernel
theorem dX10_tip_52 : decode cX10_tip 52 = .ok (.iconst (-1), 1) := by decide +kernel
theorem dX10_tip_53 : decode cX10_tip 53 = .ok (.ireturn, 1) := by decide +kernel
theorem dX10_isEarlier_0 : decode cX10_isEarlier 0 = .ok (.iconst 0, 1) := by decide +kernel
theorem dX10_isEarlier_1 : decode cX10_isEarlier 1 = .ok (.istore_n 3, 1) := by decide +kernel
theorem dX10_isEarlier_2 : decode cX10_isEarlier 2 = .ok (.iconst 1, 1) := by decide +kernel
theorem dX10_isEarlier_3 : decode cX10_isEarlier 3 = .ok (.istore 4, 2) := by decide +kernel
theorem dX10_isEarlier_5 : decode cX10_isEarlier 5 = .ok (.iload 4, 2) := by decide +kernel
theorem dX10_isEarlier_7 : decode cX10_isEarlier 7 = .ok (.iload_n 1, 1) := by decide +kernel
theorem dX10_isEarlier_8 : decode cX10_isEarlier 8 = .ok (.if_icmp .gt 79, 3) := by decide +kernel
theorem dX10_isEarlier_11 : decode cX10_isEarlier 11 = .ok (.iconst 0, 1) := by decide +kernel
theorem dX10_isEarlier_12 : decode cX10_isEarlier 12 = .ok (.istore 5, 2) := by decide +kernel
theorem dX10_isEarlier_14 : decode cX10_isEarlier 14 = .ok (.iload 5, 2) := by decide +kernel
theorem dX10_isEarlier_16 : decode cX10_isEarlier 16 = .ok (.aload_n 0, 1) := by decide +kernel
theorem dX10_isEarlier_17 : decode cX10_isEarlier 17 = .ok (.iload 4, 2) := by decide +kernel
theorem dX10_isEarlier_19 : decode cX10_isEarlier 19 = .ok (.invokevirtual 182, 3) := by decide +kernel
theorem dX10_isEarlier_22 : decode cX10_isEarlier 22 = .ok (.if_icmp .ge 59, 3) := by decide +kernel
theorem dX10_isEarlier_25 : decode cX10_isEarlier 25 = .ok (.iload_n 3, 1) := by decide +kernel
theorem dX10_isEarlier_26 : decode cX10_isEarlier 26 = .ok (.ifCond .ne 43, 3) := by decide +kernel
theorem dX10_isEarlier_29 : decode cX10_isEarlier 29 = .ok (.aload_n 0, 1) := by decide +kernel
theorem dX10_isEarlier_30 : decode cX10_isEarlier 30 = .ok (.getfield 30, 3) := by decide +kernel
theorem dX10_isEarlier_33 : decode cX10_isEarlier 33 = .ok (.iload 4, 2) := by decide +kernel
theorem dX10_isEarlier_35 : decode cX10_isEarlier 35 = .ok (.iaload, 1) := by decide +kernel
theorem dX10_isEarlier_36 : decode cX10_isEarlier 36 = .ok (.iconst 1, 1) := by decide +kernel
theorem dX10_isEarlier_37 : decode cX10_isEarlier 37 = .ok (.if_icmp .ne 36, 3) := by decide +kernel
theorem dX10_isEarlier_40 : decode cX10_isEarlier 40 = .ok (.iload 4, 2) := by decide +kernel
theorem dX10_isEarlier_42 : decode cX10_isEarlier 42 = .ok (.iload_n 1, 1) := by decide +kernel
theorem dX10_isEarlier_43 : decode cX10_isEarlier 43 = .ok (.if_icmp .lt 9, 3) := by decide +kernel
theorem dX10_isEarlier_46 : decode cX10_isEarlier 46 = .ok (.iload 5, 2) := by decide +kernel
theorem dX10_isEarlier_48 : decode cX10_isEarlier 48 = .ok (.iload_n 2, 1) := by decide +kernel
theorem dX10_isEarlier_49 : decode cX10_isEarlier 49 = .ok (.if_icmp .ge 24, 3) := by decide +kernel
theorem dX10_isEarlier_52 : decode cX10_isEarlier 52 = .ok (.aload_n 0, 1) := by decide +kernel
theorem dX10_isEarlier_53 : decode cX10_isEarlier 53 = .ok (.iload 4, 2) := by decide +kernel
theorem dX10_isEarlier_55 : decode cX10_isEarlier 55 = .ok (.iload 5, 2) := by decide +kernel
theorem dX10_isEarlier_57 : decode cX10_isEarlier 57 = .ok (.invokevirtual 224, 3) := by decide +kernel
theorem dX10_isEarlier_60 : decode cX10_isEarlier 60 = .ok (.aload_n 0, 1) := by decide +kernel
theorem dX10_isEarlier_61 : decode cX10_isEarlier 61 = .ok (.iload_n 1, 1) := by decide +kernel
theorem dX10_isEarlier_62 : decode cX10_isEarlier 62 = .ok (.iload_n 2, 1) := by decide +kernel
theorem dX10_isEarlier_63 : decode cX10_isEarlier 63 = .ok (.invokevirtual 224, 3) := by decide +kernel
theorem dX10_isEarlier_66 : decode cX10_isEarlier 66 = .ok (.if_icmp .ne 7, 3) := by decide +kernel
theorem dX10_isEarlier_69 : decode cX10_isEarlier 69 = .ok (.iconst 1, 1) := by decide +kernel
theorem dX10_isEarlier_70 : decode cX10_isEarlier 70 = .ok (.goto 4, 3) := by decide +kernel
theorem dX10_isEarlier_73 : decode cX10_isEarlier 73 = .ok (.iconst 0, 1) := by decide +kernel
theorem dX10_isEarlier_74 : decode cX10_isEarlier 74 = .ok (.istore_n 3, 1) := by decide +kernel
theorem dX10_isEarlier_75 : decode cX10_isEarlier 75 = .ok (.iinc 5 1, 3) := by decide +kernel
theorem dX10_isEarlier_78 : decode cX10_isEarlier 78 = .ok (.goto (-64), 3) := by decide +kernel
theorem dX10_isEarlier_81 : decode cX10_isEarlier 81 = .ok (.iinc 4 1, 3) := by decide +kernel
theorem dX10_isEarlier_84 : decode cX10_isEarlier 84 = .ok (.goto (-79), 3) := by decide +kernel
theorem dX10_isEarlier_87 : decode cX10_isEarlier 87 = .ok (.iload_n 3, 1) := by decide +kernel
theorem dX10_isEarlier_88 : decode cX10_isEarlier 88 = .ok (.ireturn, 1) := by decide +kernel
theorem dX10_missing_0 : decode cX10_missing 0 = .ok (.iload_n 1, 1) := by decide +kernel
theorem dX10_missing_1 : decode cX10_missing 1 = .ok (.istore_n 2, 1) := by decide +kernel
theorem dX10_missing_2 : decode cX10_missing 2 = .ok (.iconst 1, 1) := by decide +kernel
theorem dX10_missing_3 : decode cX10_missing 3 = .ok (.istore_n 3, 1) := by decide +kernel
theorem dX10_missing_4 : decode cX10_missing 4 = .ok (.iload_n 3, 1) := by decide +kernel
theorem dX10_missing_5 : decode cX10_missing 5 = .ok (.aload_n 0, 1) := by decide +kernel
theorem dX10_missing_6 : decode cX10_missing 6 = .ok (.getfield 16, 3) := by decide +kernel
theorem dX10_missing_9 : decode cX10_missing 9 = .ok (.if_icmp .ge 77, 3) := by decide +kernel
theorem dX10_missing_12 : decode cX10_missing 12 = .ok (.iconst 0, 1) := by decide +kernel
theorem dX10_missing_13 : decode cX10_missing 13 = .ok (.istore 4, 2) := by decide +kernel
theorem dX10_missing_15 : decode cX10_missing 15 = .ok (.iload 4, 2) := by decide +kernel
theorem dX10_missing_17 : decode cX10_missing 17 = .ok (.aload_n 0, 1) := by decide +kernel
theorem dX10_missing_18 : decode cX10_missing 18 = .ok (.iload_n 3, 1) := by decide +kernel
theorem dX10_missing_19 : decode cX10_missing 19 = .ok (.invokevirtual 182, 3) := by decide +kernel
theorem dX10_missing_22 : decode cX10_missing 22 = .ok (.if_icmp .ge 58, 3) := by decide +kernel
theorem dX10_missing_25 : decode cX10_missing 25 = .ok (.aload_n 0, 1) := by decide +kernel
theorem dX10_missing_26 : decode cX10_missing 26 = .ok (.getfield 30, 3) := by decide +kernel
theorem dX10_missing_29 : decode cX10_missing 29 = .ok (.iload_n 3, 1) := by decide +kernel
theorem dX10_missing_30 : decode cX10_missing 30 = .ok (.iaload, 1) := by decide +kernel
theorem dX10_missing_31 : decode cX10_missing 31 = .ok (.iconst 1, 1) := by decide +kernel
theorem dX10_missing_32 : decode cX10_missing 32 = .ok (.if_icmp .ne 42, 3) := by decide +kernel
theorem dX10_missing_35 : decode cX10_missing 35 = .ok (.aload_n 0, 1) := by decide +kernel
theorem dX10_missing_36 : decode cX10_missing 36 = .ok (.aload_n 0, 1) := by decide +kernel
theorem dX10_missing_37 : decode cX10_missing 37 = .ok (.iload_n 3, 1) := by decide +kernel
theorem dX10_missing_38 : decode cX10_missing 38 = .ok (.iload 4, 2) := by decide +kernel
theorem dX10_missing_40 : decode cX10_missing 40 = .ok (.invokevirtual 224, 3) := by decide +kernel
theorem dX10_missing_43 : decode cX10_missing 43 = .ok (.invokevirtual 198, 3) := by decide +kernel
theorem dX10_missing_46 : decode cX10_missing 46 = .ok (.ifCond .ge 28, 3) := by decide +kernel
theorem dX10_missing_49 : decode cX10_missing 49 = .ok (.aload_n 0, 1) := by decide +kernel
theorem dX10_missing_50 : decode cX10_missing 50 = .ok (.iload_n 3, 1) := by decide +kernel
theorem dX10_missing_51 : decode cX10_missing 51 = .ok (.iload 4, 2) := by decide +kernel
theorem dX10_missing_53 : decode cX10_missing 53 = .ok (.invokevirtual 334, 3) := by decide +kernel
theorem dX10_missing_56 : decode cX10_missing 56 = .ok (.ifCond .ne 18, 3) := by decide +kernel
theorem dX10_missing_59 : decode cX10_missing 59 = .ok (.iload_n 2, 1) := by decide +kernel
theorem dX10_missing_60 : decode cX10_missing 60 = .ok (.ifCond .ne 11, 3) := by decide +kernel
theorem dX10_missing_63 : decode cX10_missing 63 = .ok (.aload_n 0, 1) := by decide +kernel
theorem dX10_missing_64 : decode cX10_missing 64 = .ok (.iload_n 3, 1) := by decide +kernel
theorem dX10_missing_65 : decode cX10_missing 65 = .ok (.iload 4, 2) := by decide +kernel
theorem dX10_missing_67 : decode cX10_missing 67 = .ok (.invokevirtual 224, 3) := by decide +kernel
theorem dX10_missing_70 : decode cX10_missing 70 = .ok (.ireturn, 1) := by decide +kernel
theorem dX10_missing_71 : decode cX10_missing 71 = .ok (.iinc 2 (-1), 3) := by decide +kernel
theorem dX10_missing_74 : decode cX10_missing 74 = .ok (.iinc 4 1, 3) := by decide +kernel
theorem dX10_missing_77 : decode cX10_missing 77 = .ok (.goto (-62), 3) := by decide +kernel
theorem dX10_missing_80 : decode cX10_missing 80 = .ok (.iinc 3 1, 3) := by decide +kernel
theorem dX10_missing_83 : decode cX10_missing 83 = .ok (.goto (-79), 3) := by decide +kernel
theorem dX10_missing_86 : decode cX10_missing 86 = .ok (.iconst (-1), 1) := by decide +kernel
theorem dX10_missing_87 : decode cX10_missing 87 = .ok (.ireturn, 1) := by decide +kernel
theorem dX10_listed_0 : decode cX10_listed 0 = .ok (.aload_n 0, 1) := by decide +kernel
theorem dX10_listed_1 : decode cX10_listed 1 = .ok (.iconst 0, 1) := by decide +kernel
theorem dX10_listed_2 : decode cX10_listed 2 = .ok (.putfield 145, 3) := by decide +kernel
theorem dX10_listed_5 : decode cX10_listed 5 = .ok (.iload_n 2, 1) := by decide +kernel
theorem dX10_listed_6 : decode cX10_listed 6 = .ok (.ifCond .ge 5, 3) := by decide +kernel
theorem dX10_listed_9 : decode cX10_listed 9 = .ok (.iconst (-1), 1) := by decide +kernel
theorem dX10_listed_10 : decode cX10_listed 10 = .ok (.ireturn, 1) := by decide +kernel
theorem dX10_listed_11 : decode cX10_listed 11 = .ok (.iload_n 1, 1) := by decide +kernel
theorem dX10_listed_12 : decode cX10_listed 12 = .ok (.ifCond .ne 18, 3) := by decide +kernel
theorem dX10_listed_15 : decode cX10_listed 15 = .ok (.iload_n 2, 1) := by decide +kernel
theorem dX10_listed_16 : decode cX10_listed 16 = .ok (.iconst 4, 1) := by decide +kernel
theorem dX10_listed_17 : decode cX10_listed 17 = .ok (.if_icmp .ge 11, 3) := by decide +kernel
theorem dX10_listed_20 : decode cX10_listed 20 = .ok (.aload_n 0, 1) := by decide +kernel
theorem dX10_listed_21 : decode cX10_listed 21 = .ok (.iload_n 2, 1) := by decide +kernel
theorem dX10_listed_22 : decode cX10_listed 22 = .ok (.invokevirtual 337, 3) := by decide +kernel
theorem dX10_listed_25 : decode cX10_listed 25 = .ok (.goto 4, 3) := by decide +kernel
theorem dX10_listed_28 : decode cX10_listed 28 = .ok (.iconst (-1), 1) := by decide +kernel
theorem dX10_listed_29 : decode cX10_listed 29 = .ok (.ireturn, 1) := by decide +kernel
theorem dX10_listed_30 : decode cX10_listed 30 = .ok (.iload_n 1, 1) := by decide +kernel
theorem dX10_listed_31 : decode cX10_listed 31 = .ok (.iconst 1, 1) := by decide +kernel
theorem dX10_listed_32 : decode cX10_listed 32 = .ok (.if_icmp .ne 27, 3) := by decide +kernel
theorem dX10_listed_35 : decode cX10_listed 35 = .ok (.iload_n 2, 1) := by decide +kernel
theorem dX10_listed_36 : decode cX10_listed 36 = .ok (.aload_n 0, 1) := by decide +kernel
theorem dX10_listed_37 : decode cX10_listed 37 = .ok (.getfield 49, 3) := by decide +kernel
theorem dX10_listed_40 : decode cX10_listed 40 = .ok (.if_icmp .ge 17, 3) := by decide +kernel
theorem dX10_listed_43 : decode cX10_listed 43 = .ok (.aload_n 0, 1) := by decide +kernel
theorem dX10_listed_44 : decode cX10_listed 44 = .ok (.getfield 20, 3) := by decide +kernel
theorem dX10_listed_47 : decode cX10_listed 47 = .ok (.aload_n 0, 1) := by decide +kernel
theorem dX10_listed_48 : decode cX10_listed 48 = .ok (.getfield 46, 3) := by decide +kernel
theorem dX10_listed_51 : decode cX10_listed 51 = .ok (.iload_n 2, 1) := by decide +kernel
theorem dX10_listed_52 : decode cX10_listed 52 = .ok (.iaload, 1) := by decide +kernel
theorem dX10_listed_53 : decode cX10_listed 53 = .ok (.iaload, 1) := by decide +kernel
theorem dX10_listed_54 : decode cX10_listed 54 = .ok (.goto 4, 3) := by decide +kernel
theorem dX10_listed_57 : decode cX10_listed 57 = .ok (.iconst (-1), 1) := by decide +kernel
theorem dX10_listed_58 : decode cX10_listed 58 = .ok (.ireturn, 1) := by decide +kernel
theorem dX10_listed_59 : decode cX10_listed 59 = .ok (.iload_n 1, 1) := by decide +kernel
theorem dX10_listed_60 : decode cX10_listed 60 = .ok (.iconst 2, 1) := by decide +kernel
theorem dX10_listed_61 : decode cX10_listed 61 = .ok (.if_icmp .ne 11, 3) := by decide +kernel
theorem dX10_listed_64 : decode cX10_listed 64 = .ok (.aload_n 0, 1) := by decide +kernel
theorem dX10_listed_65 : decode cX10_listed 65 = .ok (.iload_n 2, 1) := by decide +kernel
theorem dX10_listed_66 : decode cX10_listed 66 = .ok (.invokevirtual 340, 3) := by decide +kernel
theorem dX10_listed_69 : decode cX10_listed 69 = .ok (.goto 4, 3) := by decide +kernel
theorem dX10_listed_72 : decode cX10_listed 72 = .ok (.iconst (-1), 1) := by decide +kernel
theorem dX10_listed_73 : decode cX10_listed 73 = .ok (.ireturn, 1) := by decide +kernel
theorem dX10_left_0 : decode cX10_left 0 = .ok (.aload_n 0, 1) := by decide +kernel
theorem dX10_left_1 : decode cX10_left 1 = .ok (.getfield 30, 3) := by decide +kernel
theorem dX10_left_4 : decode cX10_left 4 = .ok (.iload_n 1, 1) := by decide +kernel
theorem dX10_left_5 : decode cX10_left 5 = .ok (.iaload, 1) := by decide +kernel
theorem dX10_left_6 : decode cX10_left 6 = .ok (.iconst 3, 1) := by decide +kernel
theorem dX10_left_7 : decode cX10_left 7 = .ok (.if_icmp .ne 24, 3) := by decide +kernel
theorem dX10_left_10 : decode cX10_left 10 = .ok (.aload_n 0, 1) := by decide +kernel
theorem dX10_left_11 : decode cX10_left 11 = .ok (.iload_n 1, 1) := by decide +kernel
theorem dX10_left_12 : decode cX10_left 12 = .ok (.iload_n 2, 1) := by decide +kernel
theorem dX10_left_13 : decode cX10_left 13 = .ok (.invokestatic 204, 3) := by decide +kernel
theorem dX10_left_16 : decode cX10_left 16 = .ok (.invokevirtual 265, 3) := by decide +kernel
theorem dX10_left_19 : decode cX10_left 19 = .ok (.ifCond .ge 12, 3) := by decide +kernel
theorem dX10_left_22 : decode cX10_left 22 = .ok (.aload_n 0, 1) := by decide +kernel
theorem dX10_left_23 : decode cX10_left 23 = .ok (.iload_n 1, 1) := by decide +kernel
theorem dX10_left_24 : decode cX10_left 24 = .ok (.iload_n 2, 1) := by decide +kernel
theorem dX10_left_25 : decode cX10_left 25 = .ok (.invokevirtual 252, 3) := by decide +kernel
theorem dX10_left_28 : decode cX10_left 28 = .ok (.goto 4, 3) := by decide +kernel
theorem dX10_left_31 : decode cX10_left 31 = .ok (.iconst 0, 1) := by decide +kernel
theorem dX10_left_32 : decode cX10_left 32 = .ok (.ireturn, 1) := by decide +kernel
theorem dX10_unspent_0 : decode cX10_unspent 0 = .ok (.aload_n 0, 1) := by decide +kernel
theorem dX10_unspent_1 : decode cX10_unspent 1 = .ok (.iconst 0, 1) := by decide +kernel
theorem dX10_unspent_2 : decode cX10_unspent 2 = .ok (.putfield 145, 3) := by decide +kernel
theorem dX10_unspent_5 : decode cX10_unspent 5 = .ok (.aload_n 0, 1) := by decide +kernel
theorem dX10_unspent_6 : decode cX10_unspent 6 = .ok (.iload_n 1, 1) := by decide +kernel
theorem dX10_unspent_7 : decode cX10_unspent 7 = .ok (.invokevirtual 198, 3) := by decide +kernel
theorem dX10_unspent_10 : decode cX10_unspent 10 = .ok (.istore_n 3, 1) := by decide +kernel
theorem dX10_unspent_11 : decode cX10_unspent 11 = .ok (.aload_n 0, 1) := by decide +kernel
theorem dX10_unspent_12 : decode cX10_unspent 12 = .ok (.iload_n 3, 1) := by decide +kernel
theorem dX10_unspent_13 : decode cX10_unspent 13 = .ok (.invokevirtual 283, 3) := by decide +kernel
theorem dX10_unspent_16 : decode cX10_unspent 16 = .ok (.ifCond .eq 16, 3) := by decide +kernel
theorem dX10_unspent_19 : decode cX10_unspent 19 = .ok (.iload_n 2, 1) := by decide +kernel
theorem dX10_unspent_20 : decode cX10_unspent 20 = .ok (.ifCond .lt 12, 3) := by decide +kernel
theorem dX10_unspent_23 : decode cX10_unspent 23 = .ok (.iload_n 2, 1) := by decide +kernel
theorem dX10_unspent_24 : decode cX10_unspent 24 = .ok (.aload_n 0, 1) := by decide +kernel
theorem dX10_unspent_25 : decode cX10_unspent 25 = .ok (.iload_n 3, 1) := by decide +kernel
theorem dX10_unspent_26 : decode cX10_unspent 26 = .ok (.invokevirtual 245, 3) := by decide +kernel
theorem dX10_unspent_29 : decode cX10_unspent 29 = .ok (.if_icmp .lt 7, 3) := by decide +kernel
theorem dX10_unspent_32 : decode cX10_unspent 32 = .ok (.iconst 0, 1) := by decide +kernel
theorem dX10_unspent_33 : decode cX10_unspent 33 = .ok (.goto 9, 3) := by decide +kernel
theorem dX10_unspent_36 : decode cX10_unspent 36 = .ok (.aload_n 0, 1) := by decide +kernel
theorem dX10_unspent_37 : decode cX10_unspent 37 = .ok (.iload_n 3, 1) := by decide +kernel
theorem dX10_unspent_38 : decode cX10_unspent 38 = .ok (.iload_n 2, 1) := by decide +kernel
theorem dX10_unspent_39 : decode cX10_unspent 39 = .ok (.invokevirtual 343, 3) := by decide +kernel
theorem dX10_unspent_42 : decode cX10_unspent 42 = .ok (.ireturn, 1) := by decide +kernel
theorem dX10_isBegun_0 : decode cX10_isBegun 0 = .ok (.iload_n 1, 1) := by decide +kernel
theorem dX10_isBegun_1 : decode cX10_isBegun 1 = .ok (.ifCond .lt 22, 3) := by decide +kernel
theorem dX10_isBegun_4 : decode cX10_isBegun 4 = .ok (.iload_n 1, 1) := by decide +kernel
theorem dX10_isBegun_5 : decode cX10_isBegun 5 = .ok (.bipush 8, 2) := by decide +kernel
theorem dX10_isBegun_7 : decode cX10_isBegun 7 = .ok (.if_icmp .ge 16, 3) := by decide +kernel
theorem dX10_isBegun_10 : decode cX10_isBegun 10 = .ok (.aload_n 0, 1) := by decide +kernel
theorem dX10_isBegun_11 : decode cX10_isBegun 11 = .ok (.getfield 85, 3) := by decide +kernel
theorem dX10_isBegun_14 : decode cX10_isBegun 14 = .ok (.iload_n 1, 1) := by decide +kernel
theorem dX10_isBegun_15 : decode cX10_isBegun 15 = .ok (.iaload, 1) := by decide +kernel
theorem dX10_isBegun_16 : decode cX10_isBegun 16 = .ok (.ifCond .le 7, 3) := by decide +kernel
theorem dX10_isBegun_19 : decode cX10_isBegun 19 = .ok (.iconst 1, 1) := by decide +kernel
theorem dX10_isBegun_20 : decode cX10_isBegun 20 = .ok (.goto 4, 3) := by decide +kernel
theorem dX10_isBegun_23 : decode cX10_isBegun 23 = .ok (.iconst 0, 1) := by decide +kernel
theorem dX10_isBegun_24 : decode cX10_isBegun 24 = .ok (.ireturn, 1) := by decide +kernel
theorem dX10_isColour_0 : decode cX10_isColour 0 = .ok (.aload_n 0, 1) := by decide +kernel
theorem dX10_isColour_1 : decode cX10_isColour 1 = .ok (.iload_n 1, 1) := by decide +kernel
theorem dX10_isColour_2 : decode cX10_isColour 2 = .ok (.invokevirtual 346, 3) := by decide +kernel
theorem dX10_isColour_5 : decode cX10_isColour 5 = .ok (.ifCond .eq 21, 3) := by decide +kernel
theorem dX10_isColour_8 : decode cX10_isColour 8 = .ok (.iload_n 2, 1) := by decide +kernel
theorem dX10_isColour_9 : decode cX10_isColour 9 = .ok (.ifCond .lt 17, 3) := by decide +kernel
theorem dX10_isColour_12 : decode cX10_isColour 12 = .ok (.iload_n 2, 1) := by decide +kernel
theorem dX10_isColour_13 : decode cX10_isColour 13 = .ok (.aload_n 0, 1) := by decide +kernel
theorem dX10_isColour_14 : decode cX10_isColour 14 = .ok (.getfield 85, 3) := by decide +kernel
theorem dX10_isColour_17 : decode cX10_isColour 17 = .ok (.iload_n 1, 1) := by decide +kernel
theorem dX10_isColour_18 : decode cX10_isColour 18 = .ok (.iaload, 1) := by decide +kernel
theorem dX10_isColour_19 : decode cX10_isColour 19 = .ok (.if_icmp .ge 7, 3) := by decide +kernel
theorem dX10_isColour_22 : decode cX10_isColour 22 = .ok (.iconst 1, 1) := by decide +kernel
theorem dX10_isColour_23 : decode cX10_isColour 23 = .ok (.goto 4, 3) := by decide +kernel
theorem dX10_isColour_26 : decode cX10_isColour 26 = .ok (.iconst 0, 1) := by decide +kernel
theorem dX10_isColour_27 : decode cX10_isColour 27 = .ok (.ireturn, 1) := by decide +kernel
theorem dX10_begin_0 : decode cX10_begin 0 = .ok (.aload_n 0, 1) := by decide +kernel
theorem dX10_begin_1 : decode cX10_begin 1 = .ok (.iconst 0, 1) := by decide +kernel
theorem dX10_begin_2 : decode cX10_begin 2 = .ok (.putfield 145, 3) := by decide +kernel
theorem dX10_begin_5 : decode cX10_begin 5 = .ok (.iload_n 1, 1) := by decide +kernel
theorem dX10_begin_6 : decode cX10_begin 6 = .ok (.ifCond .lt 29, 3) := by decide +kernel
theorem dX10_begin_9 : decode cX10_begin 9 = .ok (.iload_n 1, 1) := by decide +kernel
theorem dX10_begin_10 : decode cX10_begin 10 = .ok (.bipush 7, 2) := by decide +kernel
theorem dX10_begin_12 : decode cX10_begin 12 = .ok (.if_icmp .gt 23, 3) := by decide +kernel
theorem dX10_begin_15 : decode cX10_begin 15 = .ok (.iload_n 2, 1) := by decide +kernel
theorem dX10_begin_16 : decode cX10_begin 16 = .ok (.ifCond .lt 19, 3) := by decide +kernel
theorem dX10_begin_19 : decode cX10_begin 19 = .ok (.iload_n 2, 1) := by decide +kernel
theorem dX10_begin_20 : decode cX10_begin 20 = .ok (.iconst 2, 1) := by decide +kernel
theorem dX10_begin_21 : decode cX10_begin 21 = .ok (.if_icmp .gt 14, 3) := by decide +kernel
theorem dX10_begin_24 : decode cX10_begin 24 = .ok (.iload_n 3, 1) := by decide +kernel
theorem dX10_begin_25 : decode cX10_begin 25 = .ok (.iconst 2, 1) := by decide +kernel
theorem dX10_begin_26 : decode cX10_begin 26 = .ok (.if_icmp .lt 9, 3) := by decide +kernel
theorem dX10_begin_29 : decode cX10_begin 29 = .ok (.iload_n 3, 1) := by decide +kernel
theorem dX10_begin_30 : decode cX10_begin 30 = .ok (.bipush 8, 2) := by decide +kernel
theorem dX10_begin_32 : decode cX10_begin 32 = .ok (.if_icmp .le 5, 3) := by decide +kernel
theorem dX10_begin_35 : decode cX10_begin 35 = .ok (.iconst 0, 1) := by decide +kernel
theorem dX10_begin_36 : decode cX10_begin 36 = .ok (.ireturn, 1) := by decide +kernel
theorem dX10_begin_37 : decode cX10_begin 37 = .ok (.aload_n 0, 1) := by decide +kernel
theorem dX10_begin_38 : decode cX10_begin 38 = .ok (.getfield 82, 3) := by decide +kernel
theorem dX10_begin_41 : decode cX10_begin 41 = .ok (.iload_n 1, 1) := by decide +kernel
theorem dX10_begin_42 : decode cX10_begin 42 = .ok (.iload_n 2, 1) := by decide +kernel
theorem dX10_begin_43 : decode cX10_begin 43 = .ok (.iastore, 1) := by decide +kernel
theorem dX10_begin_44 : decode cX10_begin 44 = .ok (.aload_n 0, 1) := by decide +kernel
theorem dX10_begin_45 : decode cX10_begin 45 = .ok (.getfield 85, 3) := by decide +kernel
theorem dX10_begin_48 : decode cX10_begin 48 = .ok (.iload_n 1, 1) := by decide +kernel
theorem dX10_begin_49 : decode cX10_begin 49 = .ok (.iload_n 3, 1) := by decide +kernel
theorem dX10_begin_50 : decode cX10_begin 50 = .ok (.iastore, 1) := by decide +kernel
theorem dX10_begin_51 : decode cX10_begin 51 = .ok (.aload_n 0, 1) := by decide +kernel
theorem dX10_begin_52 : decode cX10_begin 52 = .ok (.getfield 88, 3) := by decide +kernel
theorem dX10_begin_55 : decode cX10_begin 55 = .ok (.iload_n 1, 1) := by decide +kernel
theorem dX10_begin_56 : decode cX10_begin 56 = .ok (.iconst (-1), 1) := by decide +kernel
theorem dX10_begin_57 : decode cX10_begin 57 = .ok (.iastore, 1) := by decide +kernel
theorem dX10_begin_58 : decode cX10_begin 58 = .ok (.aload_n 0, 1) := by decide +kernel
theorem dX10_begin_59 : decode cX10_begin 59 = .ok (.getfield 91, 3) := by decide +kernel
theorem dX10_begin_62 : decode cX10_begin 62 = .ok (.iload_n 1, 1) := by decide +kernel
theorem dX10_begin_63 : decode cX10_begin 63 = .ok (.iconst 0, 1) := by decide +kernel
theorem dX10_begin_64 : decode cX10_begin 64 = .ok (.iastore, 1) := by decide +kernel
theorem dX10_begin_65 : decode cX10_begin 65 = .ok (.aload_n 0, 1) := by decide +kernel
theorem dX10_begin_66 : decode cX10_begin 66 = .ok (.getfield 94, 3) := by decide +kernel
theorem dX10_begin_69 : decode cX10_begin 69 = .ok (.iload_n 1, 1) := by decide +kernel
theorem dX10_begin_70 : decode cX10_begin 70 = .ok (.iconst 0, 1) := by decide +kernel
theorem dX10_begin_71 : decode cX10_begin 71 = .ok (.bastore, 1) := by decide +kernel
theorem dX10_begin_72 : decode cX10_begin 72 = .ok (.aload_n 0, 1) := by decide +kernel
theorem dX10_begin_73 : decode cX10_begin 73 = .ok (.getfield 97, 3) := by decide +kernel
theorem dX10_begin_76 : decode cX10_begin 76 = .ok (.iload_n 1, 1) := by decide +kernel
theorem dX10_begin_77 : decode cX10_begin 77 = .ok (.iconst (-1), 1) := by decide +kernel
theorem dX10_begin_78 : decode cX10_begin 78 = .ok (.iastore, 1) := by decide +kernel
theorem dX10_begin_79 : decode cX10_begin 79 = .ok (.iconst 0, 1) := by decide +kernel
theorem dX10_begin_80 : decode cX10_begin 80 = .ok (.istore 4, 2) := by decide +kernel
theorem dX10_begin_82 : decode cX10_begin 82 = .ok (.iload 4, 2) := by decide +kernel
theorem dX10_begin_84 : decode cX10_begin 84 = .ok (.bipush 8, 2) := by decide +kernel
theorem dX10_begin_86 : decode cX10_begin 86 = .ok (.if_icmp .ge 35, 3) := by decide +kernel
theorem dX10_begin_89 : decode cX10_begin 89 = .ok (.aload_n 0, 1) := by decide +kernel
theorem dX10_begin_90 : decode cX10_begin 90 = .ok (.getfield 100, 3) := by decide +kernel
theorem dX10_begin_93 : decode cX10_begin 93 = .ok (.bipush 8, 2) := by decide +kernel
theorem dX10_begin_95 : decode cX10_begin 95 = .ok (.iload_n 1, 1) := by decide +kernel
theorem dX10_begin_96 : decode cX10_begin 96 = .ok (.imul, 1) := by decide +kernel
theorem dX10_begin_97 : decode cX10_begin 97 = .ok (.iload 4, 2) := by decide +kernel
theorem dX10_begin_99 : decode cX10_begin 99 = .ok (.iadd, 1) := by decide +kernel
theorem dX10_begin_100 : decode cX10_begin 100 = .ok (.iconst 0, 1) := by decide +kernel
theorem dX10_begin_101 : decode cX10_begin 101 = .ok (.iastore, 1) := by decide +kernel
theorem dX10_begin_102 : decode cX10_begin 102 = .ok (.aload_n 0, 1) := by decide +kernel
theorem dX10_begin_103 : decode cX10_begin 103 = .ok (.getfield 103, 3) := by decide +kernel
theorem dX10_begin_106 : decode cX10_begin 106 = .ok (.bipush 8, 2) := by decide +kernel
theorem dX10_begin_108 : decode cX10_begin 108 = .ok (.iload_n 1, 1) := by decide +kernel
theorem dX10_begin_109 : decode cX10_begin 109 = .ok (.imul, 1) := by decide +kernel
theorem dX10_begin_110 : decode cX10_begin 110 = .ok (.iload 4, 2) := by decide +kernel
theorem dX10_begin_112 : decode cX10_begin 112 = .ok (.iadd, 1) := by decide +kernel
theorem dX10_begin_113 : decode cX10_begin 113 = .ok (.iconst 0, 1) := by decide +kernel
theorem dX10_begin_114 : decode cX10_begin 114 = .ok (.iastore, 1) := by decide +kernel
theorem dX10_begin_115 : decode cX10_begin 115 = .ok (.iinc 4 1, 3) := by decide +kernel
theorem dX10_begin_118 : decode cX10_begin 118 = .ok (.goto (-36), 3) := by decide +kernel
theorem dX10_begin_121 : decode cX10_begin 121 = .ok (.iconst 1, 1) := by decide +kernel
theorem dX10_begin_122 : decode cX10_begin 122 = .ok (.ireturn, 1) := by decide +kernel
theorem dX10_meet_0 : decode cX10_meet 0 = .ok (.aload_n 0, 1) := by decide +kernel
theorem dX10_meet_1 : decode cX10_meet 1 = .ok (.aload_n 0, 1) := by decide +kernel
theorem dX10_meet_2 : decode cX10_meet 2 = .ok (.iload_n 1, 1) := by decide +kernel
theorem dX10_meet_3 : decode cX10_meet 3 = .ok (.iload_n 2, 1) := by decide +kernel
theorem dX10_meet_4 : decode cX10_meet 4 = .ok (.invokevirtual 349, 3) := by decide +kernel
theorem dX10_meet_7 : decode cX10_meet 7 = .ok (.ifCond .eq 7, 3) := by decide +kernel
theorem dX10_meet_10 : decode cX10_meet 10 = .ok (.iconst 0, 1) := by decide +kernel
theorem dX10_meet_11 : decode cX10_meet 11 = .ok (.goto 4, 3) := by decide +kernel
theorem dX10_meet_14 : decode cX10_meet 14 = .ok (.iconst 1, 1) := by decide +kernel
theorem dX10_meet_15 : decode cX10_meet 15 = .ok (.putfield 145, 3) := by decide +kernel
theorem dX10_meet_18 : decode cX10_meet 18 = .ok (.aload_n 0, 1) := by decide +kernel
theorem dX10_meet_19 : decode cX10_meet 19 = .ok (.getfield 145, 3) := by decide +kernel
theorem dX10_meet_22 : decode cX10_meet 22 = .ok (.ifCond .le 5, 3) := by decide +kernel
theorem dX10_meet_25 : decode cX10_meet 25 = .ok (.iconst 0, 1) := by decide +kernel
theorem dX10_meet_26 : decode cX10_meet 26 = .ok (.ireturn, 1) := by decide +kernel
theorem dX10_meet_27 : decode cX10_meet 27 = .ok (.aload_n 0, 1) := by decide +kernel
theorem dX10_meet_28 : decode cX10_meet 28 = .ok (.getfield 88, 3) := by decide +kernel
theorem dX10_meet_31 : decode cX10_meet 31 = .ok (.iload_n 1, 1) := by decide +kernel
theorem dX10_meet_32 : decode cX10_meet 32 = .ok (.iaload, 1) := by decide +kernel
theorem dX10_meet_33 : decode cX10_meet 33 = .ok (.ifCond .ge 10, 3) := by decide +kernel
theorem dX10_meet_36 : decode cX10_meet 36 = .ok (.aload_n 0, 1) := by decide +kernel
theorem dX10_meet_37 : decode cX10_meet 37 = .ok (.getfield 88, 3) := by decide +kernel
theorem dX10_meet_40 : decode cX10_meet 40 = .ok (.iload_n 1, 1) := by decide +kernel
theorem dX10_meet_41 : decode cX10_meet 41 = .ok (.iload_n 2, 1) := by decide +kernel
theorem dX10_meet_42 : decode cX10_meet 42 = .ok (.iastore, 1) := by decide +kernel
theorem dX10_meet_43 : decode cX10_meet 43 = .ok (.aload_n 0, 1) := by decide +kernel
theorem dX10_meet_44 : decode cX10_meet 44 = .ok (.getfield 88, 3) := by decide +kernel
theorem dX10_meet_47 : decode cX10_meet 47 = .ok (.iload_n 1, 1) := by decide +kernel
theorem dX10_meet_48 : decode cX10_meet 48 = .ok (.iaload, 1) := by decide +kernel
theorem dX10_meet_49 : decode cX10_meet 49 = .ok (.ireturn, 1) := by decide +kernel
theorem dX10_votesOf_0 : decode cX10_votesOf 0 = .ok (.iconst 0, 1) := by decide +kernel
theorem dX10_votesOf_1 : decode cX10_votesOf 1 = .ok (.istore_n 2, 1) := by decide +kernel
theorem dX10_votesOf_2 : decode cX10_votesOf 2 = .ok (.iconst 0, 1) := by decide +kernel
theorem dX10_votesOf_3 : decode cX10_votesOf 3 = .ok (.istore_n 3, 1) := by decide +kernel
theorem dX10_votesOf_4 : decode cX10_votesOf 4 = .ok (.iload_n 3, 1) := by decide +kernel
theorem dX10_votesOf_5 : decode cX10_votesOf 5 = .ok (.bipush 8, 2) := by decide +kernel
theorem dX10_votesOf_7 : decode cX10_votesOf 7 = .ok (.if_icmp .ge 23, 3) := by decide +kernel
theorem dX10_votesOf_10 : decode cX10_votesOf 10 = .ok (.iload_n 2, 1) := by decide +kernel
theorem dX10_votesOf_11 : decode cX10_votesOf 11 = .ok (.aload_n 0, 1) := by decide +kernel
theorem dX10_votesOf_12 : decode cX10_votesOf 12 = .ok (.getfield 100, 3) := by decide +kernel
theorem dX10_votesOf_15 : decode cX10_votesOf 15 = .ok (.bipush 8, 2) := by decide +kernel
theorem dX10_votesOf_17 : decode cX10_votesOf 17 = .ok (.iload_n 1, 1) := by decide +kernel
theorem dX10_votesOf_18 : decode cX10_votesOf 18 = .ok (.imul, 1) := by decide +kernel
theorem dX10_votesOf_19 : decode cX10_votesOf 19 = .ok (.iload_n 3, 1) := by decide +kernel
theorem dX10_votesOf_20 : decode cX10_votesOf 20 = .ok (.iadd, 1) := by decide +kernel
theorem dX10_votesOf_21 : decode cX10_votesOf 21 = .ok (.iaload, 1) := by decide +kernel
theorem dX10_votesOf_22 : decode cX10_votesOf 22 = .ok (.iadd, 1) := by decide +kernel
theorem dX10_votesOf_23 : decode cX10_votesOf 23 = .ok (.istore_n 2, 1) := by decide +kernel
theorem dX10_votesOf_24 : decode cX10_votesOf 24 = .ok (.iinc 3 1, 3) := by decide +kernel
theorem dX10_votesOf_27 : decode cX10_votesOf 27 = .ok (.goto (-23), 3) := by decide +kernel
theorem dX10_votesOf_30 : decode cX10_votesOf 30 = .ok (.iload_n 2, 1) := by decide +kernel
theorem dX10_votesOf_31 : decode cX10_votesOf 31 = .ok (.ireturn, 1) := by decide +kernel
theorem dX10_votes_0 : decode cX10_votes 0 = .ok (.aload_n 0, 1) := by decide +kernel
theorem dX10_votes_1 : decode cX10_votes 1 = .ok (.aload_n 0, 1) := by decide +kernel
theorem dX10_votes_2 : decode cX10_votes 2 = .ok (.iload_n 1, 1) := by decide +kernel
theorem dX10_votes_3 : decode cX10_votes 3 = .ok (.iload_n 2, 1) := by decide +kernel
theorem dX10_votes_4 : decode cX10_votes 4 = .ok (.invokevirtual 349, 3) := by decide +kernel
theorem dX10_votes_7 : decode cX10_votes 7 = .ok (.ifCond .eq 17, 3) := by decide +kernel
theorem dX10_votes_10 : decode cX10_votes 10 = .ok (.aload_n 0, 1) := by decide +kernel
theorem dX10_votes_11 : decode cX10_votes 11 = .ok (.getfield 94, 3) := by decide +kernel
theorem dX10_votes_14 : decode cX10_votes 14 = .ok (.iload_n 1, 1) := by decide +kernel
theorem dX10_votes_15 : decode cX10_votes 15 = .ok (.baload, 1) := by decide +kernel
theorem dX10_votes_16 : decode cX10_votes 16 = .ok (.ifCond .ne 8, 3) := by decide +kernel
theorem dX10_votes_19 : decode cX10_votes 19 = .ok (.iload_n 3, 1) := by decide +kernel
theorem dX10_votes_20 : decode cX10_votes 20 = .ok (.iconst 1, 1) := by decide +kernel
theorem dX10_votes_21 : decode cX10_votes 21 = .ok (.if_icmp .ge 7, 3) := by decide +kernel
theorem dX10_votes_24 : decode cX10_votes 24 = .ok (.iconst 1, 1) := by decide +kernel
theorem dX10_votes_25 : decode cX10_votes 25 = .ok (.goto 22, 3) := by decide +kernel
theorem dX10_votes_28 : decode cX10_votes 28 = .ok (.iload_n 3, 1) := by decide +kernel
theorem dX10_votes_29 : decode cX10_votes 29 = .ok (.aload_n 0, 1) := by decide +kernel
theorem dX10_votes_30 : decode cX10_votes 30 = .ok (.getfield 122, 3) := by decide +kernel
theorem dX10_votes_33 : decode cX10_votes 33 = .ok (.aload_n 0, 1) := by decide +kernel
theorem dX10_votes_34 : decode cX10_votes 34 = .ok (.iload_n 1, 1) := by decide +kernel
theorem dX10_votes_35 : decode cX10_votes 35 = .ok (.invokevirtual 352, 3) := by decide +kernel
theorem dX10_votes_38 : decode cX10_votes 38 = .ok (.isub, 1) := by decide +kernel
theorem dX10_votes_39 : decode cX10_votes 39 = .ok (.if_icmp .le 7, 3) := by decide +kernel
theorem dX10_votes_42 : decode cX10_votes 42 = .ok (.iconst 2, 1) := by decide +kernel
theorem dX10_votes_43 : decode cX10_votes 43 = .ok (.goto 4, 3) := by decide +kernel
theorem dX10_votes_46 : decode cX10_votes 46 = .ok (.iconst 0, 1) := by decide +kernel
theorem dX10_votes_47 : decode cX10_votes 47 = .ok (.putfield 145, 3) := by decide +kernel
theorem dX10_votes_50 : decode cX10_votes 50 = .ok (.aload_n 0, 1) := by decide +kernel
theorem dX10_votes_51 : decode cX10_votes 51 = .ok (.getfield 145, 3) := by decide +kernel
theorem dX10_votes_54 : decode cX10_votes 54 = .ok (.ifCond .ne 18, 3) := by decide +kernel
theorem dX10_votes_57 : decode cX10_votes 57 = .ok (.aload_n 0, 1) := by decide +kernel
theorem dX10_votes_58 : decode cX10_votes 58 = .ok (.getfield 100, 3) := by decide +kernel
theorem dX10_votes_61 : decode cX10_votes 61 = .ok (.bipush 8, 2) := by decide +kernel
theorem dX10_votes_63 : decode cX10_votes 63 = .ok (.iload_n 1, 1) := by decide +kernel
theorem dX10_votes_64 : decode cX10_votes 64 = .ok (.imul, 1) := by decide +kernel
theorem dX10_votes_65 : decode cX10_votes 65 = .ok (.iload_n 2, 1) := by decide +kernel
theorem dX10_votes_66 : decode cX10_votes 66 = .ok (.iadd, 1) := by decide +kernel
theorem dX10_votes_67 : decode cX10_votes 67 = .ok (.dup2, 1) := by decide +kernel
theorem dX10_votes_68 : decode cX10_votes 68 = .ok (.iaload, 1) := by decide +kernel
theorem dX10_votes_69 : decode cX10_votes 69 = .ok (.iload_n 3, 1) := by decide +kernel
theorem dX10_votes_70 : decode cX10_votes 70 = .ok (.iadd, 1) := by decide +kernel
theorem dX10_votes_71 : decode cX10_votes 71 = .ok (.iastore, 1) := by decide +kernel
theorem dX10_votes_72 : decode cX10_votes 72 = .ok (.return_, 1) := by decide +kernel
theorem dX10_round_0 : decode cX10_round 0 = .ok (.aload_n 0, 1) := by decide +kernel
theorem dX10_round_1 : decode cX10_round 1 = .ok (.aload_n 0, 1) := by decide +kernel
theorem dX10_round_2 : decode cX10_round 2 = .ok (.iload_n 1, 1) := by decide +kernel
theorem dX10_round_3 : decode cX10_round 3 = .ok (.invokevirtual 346, 3) := by decide +kernel
theorem dX10_round_6 : decode cX10_round 6 = .ok (.ifCond .eq 12, 3) := by decide +kernel
theorem dX10_round_9 : decode cX10_round 9 = .ok (.aload_n 0, 1) := by decide +kernel
theorem dX10_round_10 : decode cX10_round 10 = .ok (.getfield 94, 3) := by decide +kernel
theorem dX10_round_13 : decode cX10_round 13 = .ok (.iload_n 1, 1) := by decide +kernel
theorem dX10_round_14 : decode cX10_round 14 = .ok (.baload, 1) := by decide +kernel
theorem dX10_round_15 : decode cX10_round 15 = .ok (.ifCond .eq 7, 3) := by decide +kernel
theorem dX10_round_18 : decode cX10_round 18 = .ok (.iconst 1, 1) := by decide +kernel
theorem dX10_round_19 : decode cX10_round 19 = .ok (.goto 4, 3) := by decide +kernel
theorem dX10_round_22 : decode cX10_round 22 = .ok (.iconst 0, 1) := by decide +kernel
theorem dX10_round_23 : decode cX10_round 23 = .ok (.putfield 145, 3) := by decide +kernel
theorem dX10_round_26 : decode cX10_round 26 = .ok (.aload_n 0, 1) := by decide +kernel
theorem dX10_round_27 : decode cX10_round 27 = .ok (.getfield 145, 3) := by decide +kernel
theorem dX10_round_30 : decode cX10_round 30 = .ok (.ifCond .le 5, 3) := by decide +kernel
theorem dX10_round_33 : decode cX10_round 33 = .ok (.iconst 0, 1) := by decide +kernel
theorem dX10_round_34 : decode cX10_round 34 = .ok (.ireturn, 1) := by decide +kernel
theorem dX10_round_35 : decode cX10_round 35 = .ok (.iconst (-1), 1) := by decide +kernel
theorem dX10_round_36 : decode cX10_round 36 = .ok (.istore_n 2, 1) := by decide +kernel
theorem dX10_round_37 : decode cX10_round 37 = .ok (.iconst 0, 1) := by decide +kernel
theorem dX10_round_38 : decode cX10_round 38 = .ok (.istore_n 3, 1) := by decide +kernel
theorem dX10_round_39 : decode cX10_round 39 = .ok (.iload_n 3, 1) := by decide +kernel
theorem dX10_round_40 : decode cX10_round 40 = .ok (.bipush 8, 2) := by decide +kernel
theorem dX10_round_42 : decode cX10_round 42 = .ok (.if_icmp .ge 45, 3) := by decide +kernel
theorem dX10_round_45 : decode cX10_round 45 = .ok (.aload_n 0, 1) := by decide +kernel
theorem dX10_round_46 : decode cX10_round 46 = .ok (.getfield 100, 3) := by decide +kernel
theorem dX10_round_49 : decode cX10_round 49 = .ok (.bipush 8, 2) := by decide +kernel
theorem dX10_round_51 : decode cX10_round 51 = .ok (.iload_n 1, 1) := by decide +kernel
theorem dX10_round_52 : decode cX10_round 52 = .ok (.imul, 1) := by decide +kernel
theorem dX10_round_53 : decode cX10_round 53 = .ok (.iload_n 3, 1) := by decide +kernel
theorem dX10_round_54 : decode cX10_round 54 = .ok (.iadd, 1) := by decide +kernel
theorem dX10_round_55 : decode cX10_round 55 = .ok (.iaload, 1) := by decide +kernel
theorem dX10_round_56 : decode cX10_round 56 = .ok (.aload_n 0, 1) := by decide +kernel
theorem dX10_round_57 : decode cX10_round 57 = .ok (.getfield 125, 3) := by decide +kernel
theorem dX10_round_60 : decode cX10_round 60 = .ok (.if_icmp .lt 7, 3) := by decide +kernel
theorem dX10_round_63 : decode cX10_round 63 = .ok (.iload_n 3, 1) := by decide +kernel
theorem dX10_round_64 : decode cX10_round 64 = .ok (.goto 4, 3) := by decide +kernel
theorem dX10_round_67 : decode cX10_round 67 = .ok (.iload_n 2, 1) := by decide +kernel
theorem dX10_round_68 : decode cX10_round 68 = .ok (.istore_n 2, 1) := by decide +kernel
theorem dX10_round_69 : decode cX10_round 69 = .ok (.aload_n 0, 1) := by decide +kernel
theorem dX10_round_70 : decode cX10_round 70 = .ok (.getfield 100, 3) := by decide +kernel
theorem dX10_round_73 : decode cX10_round 73 = .ok (.bipush 8, 2) := by decide +kernel
theorem dX10_round_75 : decode cX10_round 75 = .ok (.iload_n 1, 1) := by decide +kernel
theorem dX10_round_76 : decode cX10_round 76 = .ok (.imul, 1) := by decide +kernel
theorem dX10_round_77 : decode cX10_round 77 = .ok (.iload_n 3, 1) := by decide +kernel
theorem dX10_round_78 : decode cX10_round 78 = .ok (.iadd, 1) := by decide +kernel
theorem dX10_round_79 : decode cX10_round 79 = .ok (.iconst 0, 1) := by decide +kernel
theorem dX10_round_80 : decode cX10_round 80 = .ok (.iastore, 1) := by decide +kernel
theorem dX10_round_81 : decode cX10_round 81 = .ok (.iinc 3 1, 3) := by decide +kernel
theorem dX10_round_84 : decode cX10_round 84 = .ok (.goto (-45), 3) := by decide +kernel
theorem dX10_round_87 : decode cX10_round 87 = .ok (.aload_n 0, 1) := by decide +kernel
theorem dX10_round_88 : decode cX10_round 88 = .ok (.getfield 82, 3) := by decide +kernel
theorem dX10_round_91 : decode cX10_round 91 = .ok (.iload_n 1, 1) := by decide +kernel
theorem dX10_round_92 : decode cX10_round 92 = .ok (.iaload, 1) := by decide +kernel
theorem dX10_round_93 : decode cX10_round 93 = .ok (.ifCond .ne 12, 3) := by decide +kernel
theorem dX10_round_96 : decode cX10_round 96 = .ok (.aload_n 0, 1) := by decide +kernel
theorem dX10_round_97 : decode cX10_round 97 = .ok (.iload_n 1, 1) := by decide +kernel
theorem dX10_round_98 : decode cX10_round 98 = .ok (.iload_n 2, 1) := by decide +kernel
theorem dX10_round_99 : decode cX10_round 99 = .ok (.invokevirtual 355, 3) := by decide +kernel
theorem dX10_round_102 : decode cX10_round 102 = .ok (.goto 28, 3) := by decide +kernel
theorem dX10_round_105 : decode cX10_round 105 = .ok (.aload_n 0, 1) := by decide +kernel
theorem dX10_round_106 : decode cX10_round 106 = .ok (.getfield 82, 3) := by decide +kernel
theorem dX10_round_109 : decode cX10_round 109 = .ok (.iload_n 1, 1) := by decide +kernel
theorem dX10_round_110 : decode cX10_round 110 = .ok (.iaload, 1) := by decide +kernel
theorem dX10_round_111 : decode cX10_round 111 = .ok (.iconst 1, 1) := by decide +kernel
theorem dX10_round_112 : decode cX10_round 112 = .ok (.if_icmp .ne 12, 3) := by decide +kernel
theorem dX10_round_115 : decode cX10_round 115 = .ok (.aload_n 0, 1) := by decide +kernel
theorem dX10_round_116 : decode cX10_round 116 = .ok (.iload_n 1, 1) := by decide +kernel
theorem dX10_round_117 : decode cX10_round 117 = .ok (.iload_n 2, 1) := by decide +kernel
theorem dX10_round_118 : decode cX10_round 118 = .ok (.invokevirtual 359, 3) := by decide +kernel
theorem dX10_round_121 : decode cX10_round 121 = .ok (.goto 9, 3) := by decide +kernel
theorem dX10_round_124 : decode cX10_round 124 = .ok (.aload_n 0, 1) := by decide +kernel
theorem dX10_round_125 : decode cX10_round 125 = .ok (.iload_n 1, 1) := by decide +kernel
theorem dX10_round_126 : decode cX10_round 126 = .ok (.iload_n 2, 1) := by decide +kernel
theorem dX10_round_127 : decode cX10_round 127 = .ok (.invokevirtual 362, 3) := by decide +kernel
theorem dX10_round_130 : decode cX10_round 130 = .ok (.aload_n 0, 1) := by decide +kernel
theorem dX10_round_131 : decode cX10_round 131 = .ok (.getfield 82, 3) := by decide +kernel
theorem dX10_round_134 : decode cX10_round 134 = .ok (.iload_n 1, 1) := by decide +kernel
theorem dX10_round_135 : decode cX10_round 135 = .ok (.iaload, 1) := by decide +kernel
theorem dX10_round_136 : decode cX10_round 136 = .ok (.iconst 1, 1) := by decide +kernel
theorem dX10_round_137 : decode cX10_round 137 = .ok (.if_icmp .ne 10, 3) := by decide +kernel
theorem dX10_round_140 : decode cX10_round 140 = .ok (.aload_n 0, 1) := by decide +kernel
theorem dX10_round_141 : decode cX10_round 141 = .ok (.getfield 128, 3) := by decide +kernel
theorem dX10_round_144 : decode cX10_round 144 = .ok (.goto 7, 3) := by decide +kernel
theorem dX10_round_147 : decode cX10_round 147 = .ok (.aload_n 0, 1) := by decide +kernel
theorem dX10_round_148 : decode cX10_round 148 = .ok (.getfield 131, 3) := by decide +kernel
theorem dX10_round_151 : decode cX10_round 151 = .ok (.istore_n 3, 1) := by decide +kernel
theorem dX10_round_152 : decode cX10_round 152 = .ok (.aload_n 0, 1) := by decide +kernel
theorem dX10_round_153 : decode cX10_round 153 = .ok (.getfield 94, 3) := by decide +kernel
theorem dX10_round_156 : decode cX10_round 156 = .ok (.iload_n 1, 1) := by decide +kernel
theorem dX10_round_157 : decode cX10_round 157 = .ok (.aload_n 0, 1) := by decide +kernel
theorem dX10_round_158 : decode cX10_round 158 = .ok (.getfield 88, 3) := by decide +kernel
theorem dX10_round_161 : decode cX10_round 161 = .ok (.iload_n 1, 1) := by decide +kernel
theorem dX10_round_162 : decode cX10_round 162 = .ok (.iaload, 1) := by decide +kernel
theorem dX10_round_163 : decode cX10_round 163 = .ok (.ifCond .lt 17, 3) := by decide +kernel
theorem dX10_round_166 : decode cX10_round 166 = .ok (.aload_n 0, 1) := by decide +kernel
theorem dX10_round_167 : decode cX10_round 167 = .ok (.getfield 91, 3) := by decide +kernel
theorem dX10_round_170 : decode cX10_round 170 = .ok (.iload_n 1, 1) := by decide +kernel
theorem dX10_round_171 : decode cX10_round 171 = .ok (.iaload, 1) := by decide +kernel
theorem dX10_round_172 : decode cX10_round 172 = .ok (.iload_n 3, 1) := by decide +kernel
theorem dX10_round_173 : decode cX10_round 173 = .ok (.if_icmp .lt 7, 3) := by decide +kernel
theorem dX10_round_176 : decode cX10_round 176 = .ok (.iconst 1, 1) := by decide +kernel
theorem dX10_round_177 : decode cX10_round 177 = .ok (.goto 4, 3) := by decide +kernel
theorem dX10_round_180 : decode cX10_round 180 = .ok (.iconst 0, 1) := by decide +kernel
theorem dX10_round_181 : decode cX10_round 181 = .ok (.bastore, 1) := by decide +kernel
theorem dX10_round_182 : decode cX10_round 182 = .ok (.iload_n 2, 1) := by decide +kernel
theorem dX10_round_183 : decode cX10_round 183 = .ok (.ifCond .lt 7, 3) := by decide +kernel
theorem dX10_round_186 : decode cX10_round 186 = .ok (.iconst 1, 1) := by decide +kernel
theorem dX10_round_187 : decode cX10_round 187 = .ok (.goto 4, 3) := by decide +kernel
theorem dX10_round_190 : decode cX10_round 190 = .ok (.iconst 0, 1) := by decide +kernel
theorem dX10_round_191 : decode cX10_round 191 = .ok (.ireturn, 1) := by decide +kernel
theorem dX10_roundOfSlush_0 : decode cX10_roundOfSlush 0 = .ok (.iload_n 2, 1) := by decide +kernel
theorem dX10_roundOfSlush_1 : decode cX10_roundOfSlush 1 = .ok (.ifCond .ge 4, 3) := by decide +kernel
theorem dX10_roundOfSlush_4 : decode cX10_roundOfSlush 4 = .ok (.return_, 1) := by decide +kernel
theorem dX10_roundOfSlush_5 : decode cX10_roundOfSlush 5 = .ok (.aload_n 0, 1) := by decide +kernel
theorem dX10_roundOfSlush_6 : decode cX10_roundOfSlush 6 = .ok (.getfield 88, 3) := by decide +kernel
theorem dX10_roundOfSlush_9 : decode cX10_roundOfSlush 9 = .ok (.iload_n 1, 1) := by decide +kernel
theorem dX10_roundOfSlush_10 : decode cX10_roundOfSlush 10 = .ok (.iload_n 2, 1) := by decide +kernel
theorem dX10_roundOfSlush_11 : decode cX10_roundOfSlush 11 = .ok (.iastore, 1) := by decide +kernel
theorem dX10_roundOfSlush_12 : decode cX10_roundOfSlush 12 = .ok (.aload_n 0, 1) := by decide +kernel
theorem dX10_roundOfSlush_13 : decode cX10_roundOfSlush 13 = .ok (.getfield 91, 3) := by decide +kernel
theorem dX10_roundOfSlush_16 : decode cX10_roundOfSlush 16 = .ok (.iload_n 1, 1) := by decide +kernel
theorem dX10_roundOfSlush_17 : decode cX10_roundOfSlush 17 = .ok (.dup2, 1) := by decide +kernel
theorem dX10_roundOfSlush_18 : decode cX10_roundOfSlush 18 = .ok (.iaload, 1) := by decide +kernel
theorem dX10_roundOfSlush_19 : decode cX10_roundOfSlush 19 = .ok (.iconst 1, 1) := by decide +kernel
theorem dX10_roundOfSlush_20 : decode cX10_roundOfSlush 20 = .ok (.iadd, 1) := by decide +kernel
theorem dX10_roundOfSlush_21 : decode cX10_roundOfSlush 21 = .ok (.iastore, 1) := by decide +kernel
theorem dX10_roundOfSlush_22 : decode cX10_roundOfSlush 22 = .ok (.return_, 1) := by decide +kernel
theorem dX10_roundOfFlake_0 : decode cX10_roundOfFlake 0 = .ok (.aload_n 0, 1) := by decide +kernel
theorem dX10_roundOfFlake_1 : decode cX10_roundOfFlake 1 = .ok (.getfield 91, 3) := by decide +kernel
theorem dX10_roundOfFlake_4 : decode cX10_roundOfFlake 4 = .ok (.iload_n 1, 1) := by decide +kernel
theorem dX10_roundOfFlake_5 : decode cX10_roundOfFlake 5 = .ok (.iload_n 2, 1) := by decide +kernel
theorem dX10_roundOfFlake_6 : decode cX10_roundOfFlake 6 = .ok (.ifCond .ge 7, 3) := by decide +kernel
theorem dX10_roundOfFlake_9 : decode cX10_roundOfFlake 9 = .ok (.iconst 0, 1) := by decide +kernel
theorem dX10_roundOfFlake_10 : decode cX10_roundOfFlake 10 = .ok (.goto 25, 3) := by decide +kernel
theorem dX10_roundOfFlake_13 : decode cX10_roundOfFlake 13 = .ok (.iload_n 2, 1) := by decide +kernel
theorem dX10_roundOfFlake_14 : decode cX10_roundOfFlake 14 = .ok (.aload_n 0, 1) := by decide +kernel
theorem dX10_roundOfFlake_15 : decode cX10_roundOfFlake 15 = .ok (.getfield 88, 3) := by decide +kernel
theorem dX10_roundOfFlake_18 : decode cX10_roundOfFlake 18 = .ok (.iload_n 1, 1) := by decide +kernel
theorem dX10_roundOfFlake_19 : decode cX10_roundOfFlake 19 = .ok (.iaload, 1) := by decide +kernel
theorem dX10_roundOfFlake_20 : decode cX10_roundOfFlake 20 = .ok (.if_icmp .ne 14, 3) := by decide +kernel
theorem dX10_roundOfFlake_23 : decode cX10_roundOfFlake 23 = .ok (.aload_n 0, 1) := by decide +kernel
theorem dX10_roundOfFlake_24 : decode cX10_roundOfFlake 24 = .ok (.getfield 91, 3) := by decide +kernel
theorem dX10_roundOfFlake_27 : decode cX10_roundOfFlake 27 = .ok (.iload_n 1, 1) := by decide +kernel
theorem dX10_roundOfFlake_28 : decode cX10_roundOfFlake 28 = .ok (.iaload, 1) := by decide +kernel
theorem dX10_roundOfFlake_29 : decode cX10_roundOfFlake 29 = .ok (.iconst 1, 1) := by decide +kernel
theorem dX10_roundOfFlake_30 : decode cX10_roundOfFlake 30 = .ok (.iadd, 1) := by decide +kernel
theorem dX10_roundOfFlake_31 : decode cX10_roundOfFlake 31 = .ok (.goto 4, 3) := by decide +kernel
theorem dX10_roundOfFlake_34 : decode cX10_roundOfFlake 34 = .ok (.iconst 1, 1) := by decide +kernel
theorem dX10_roundOfFlake_35 : decode cX10_roundOfFlake 35 = .ok (.iastore, 1) := by decide +kernel
theorem dX10_roundOfFlake_36 : decode cX10_roundOfFlake 36 = .ok (.iload_n 2, 1) := by decide +kernel
theorem dX10_roundOfFlake_37 : decode cX10_roundOfFlake 37 = .ok (.ifCond .lt 10, 3) := by decide +kernel
theorem dX10_roundOfFlake_40 : decode cX10_roundOfFlake 40 = .ok (.aload_n 0, 1) := by decide +kernel
theorem dX10_roundOfFlake_41 : decode cX10_roundOfFlake 41 = .ok (.getfield 88, 3) := by decide +kernel
theorem dX10_roundOfFlake_44 : decode cX10_roundOfFlake 44 = .ok (.iload_n 1, 1) := by decide +kernel
theorem dX10_roundOfFlake_45 : decode cX10_roundOfFlake 45 = .ok (.iload_n 2, 1) := by decide +kernel
theorem dX10_roundOfFlake_46 : decode cX10_roundOfFlake 46 = .ok (.iastore, 1) := by decide +kernel
theorem dX10_roundOfFlake_47 : decode cX10_roundOfFlake 47 = .ok (.return_, 1) := by decide +kernel
theorem dX10_roundOfBall_0 : decode cX10_roundOfBall 0 = .ok (.aload_n 0, 1) := by decide +kernel
theorem dX10_roundOfBall_1 : decode cX10_roundOfBall 1 = .ok (.getfield 91, 3) := by decide +kernel
theorem dX10_roundOfBall_4 : decode cX10_roundOfBall 4 = .ok (.iload_n 1, 1) := by decide +kernel
theorem dX10_roundOfBall_5 : decode cX10_roundOfBall 5 = .ok (.iload_n 2, 1) := by decide +kernel
theorem dX10_roundOfBall_6 : decode cX10_roundOfBall 6 = .ok (.ifCond .ge 7, 3) := by decide +kernel
theorem dX10_roundOfBall_9 : decode cX10_roundOfBall 9 = .ok (.iconst 0, 1) := by decide +kernel
theorem dX10_roundOfBall_10 : decode cX10_roundOfBall 10 = .ok (.goto 25, 3) := by decide +kernel
theorem dX10_roundOfBall_13 : decode cX10_roundOfBall 13 = .ok (.iload_n 2, 1) := by decide +kernel
theorem dX10_roundOfBall_14 : decode cX10_roundOfBall 14 = .ok (.aload_n 0, 1) := by decide +kernel
theorem dX10_roundOfBall_15 : decode cX10_roundOfBall 15 = .ok (.getfield 97, 3) := by decide +kernel
theorem dX10_roundOfBall_18 : decode cX10_roundOfBall 18 = .ok (.iload_n 1, 1) := by decide +kernel
theorem dX10_roundOfBall_19 : decode cX10_roundOfBall 19 = .ok (.iaload, 1) := by decide +kernel
theorem dX10_roundOfBall_20 : decode cX10_roundOfBall 20 = .ok (.if_icmp .ne 14, 3) := by decide +kernel
theorem dX10_roundOfBall_23 : decode cX10_roundOfBall 23 = .ok (.aload_n 0, 1) := by decide +kernel
theorem dX10_roundOfBall_24 : decode cX10_roundOfBall 24 = .ok (.getfield 91, 3) := by decide +kernel
theorem dX10_roundOfBall_27 : decode cX10_roundOfBall 27 = .ok (.iload_n 1, 1) := by decide +kernel
theorem dX10_roundOfBall_28 : decode cX10_roundOfBall 28 = .ok (.iaload, 1) := by decide +kernel
theorem dX10_roundOfBall_29 : decode cX10_roundOfBall 29 = .ok (.iconst 1, 1) := by decide +kernel
theorem dX10_roundOfBall_30 : decode cX10_roundOfBall 30 = .ok (.iadd, 1) := by decide +kernel
theorem dX10_roundOfBall_31 : decode cX10_roundOfBall 31 = .ok (.goto 4, 3) := by decide +kernel
theorem dX10_roundOfBall_34 : decode cX10_roundOfBall 34 = .ok (.iconst 1, 1) := by decide +kernel
theorem dX10_roundOfBall_35 : decode cX10_roundOfBall 35 = .ok (.iastore, 1) := by decide +kernel
theorem dX10_roundOfBall_36 : decode cX10_roundOfBall 36 = .ok (.aload_n 0, 1) := by decide +kernel
theorem dX10_roundOfBall_37 : decode cX10_roundOfBall 37 = .ok (.getfield 97, 3) := by decide +kernel
theorem dX10_roundOfBall_40 : decode cX10_roundOfBall 40 = .ok (.iload_n 1, 1) := by decide +kernel
theorem dX10_roundOfBall_41 : decode cX10_roundOfBall 41 = .ok (.iload_n 2, 1) := by decide +kernel
theorem dX10_roundOfBall_42 : decode cX10_roundOfBall 42 = .ok (.iastore, 1) := by decide +kernel
theorem dX10_roundOfBall_43 : decode cX10_roundOfBall 43 = .ok (.iload_n 2, 1) := by decide +kernel
theorem dX10_roundOfBall_44 : decode cX10_roundOfBall 44 = .ok (.ifCond .ge 4, 3) := by decide +kernel
theorem dX10_roundOfBall_47 : decode cX10_roundOfBall 47 = .ok (.return_, 1) := by decide +kernel
theorem dX10_roundOfBall_48 : decode cX10_roundOfBall 48 = .ok (.aload_n 0, 1) := by decide +kernel
theorem dX10_roundOfBall_49 : decode cX10_roundOfBall 49 = .ok (.getfield 103, 3) := by decide +kernel
theorem dX10_roundOfBall_52 : decode cX10_roundOfBall 52 = .ok (.bipush 8, 2) := by decide +kernel
theorem dX10_roundOfBall_54 : decode cX10_roundOfBall 54 = .ok (.iload_n 1, 1) := by decide +kernel
theorem dX10_roundOfBall_55 : decode cX10_roundOfBall 55 = .ok (.imul, 1) := by decide +kernel
theorem dX10_roundOfBall_56 : decode cX10_roundOfBall 56 = .ok (.iload_n 2, 1) := by decide +kernel
theorem dX10_roundOfBall_57 : decode cX10_roundOfBall 57 = .ok (.iadd, 1) := by decide +kernel
theorem dX10_roundOfBall_58 : decode cX10_roundOfBall 58 = .ok (.dup2, 1) := by decide +kernel
theorem dX10_roundOfBall_59 : decode cX10_roundOfBall 59 = .ok (.iaload, 1) := by decide +kernel
theorem dX10_roundOfBall_60 : decode cX10_roundOfBall 60 = .ok (.iconst 1, 1) := by decide +kernel
theorem dX10_roundOfBall_61 : decode cX10_roundOfBall 61 = .ok (.iadd, 1) := by decide +kernel
theorem dX10_roundOfBall_62 : decode cX10_roundOfBall 62 = .ok (.iastore, 1) := by decide +kernel
theorem dX10_roundOfBall_63 : decode cX10_roundOfBall 63 = .ok (.aload_n 0, 1) := by decide +kernel
theorem dX10_roundOfBall_64 : decode cX10_roundOfBall 64 = .ok (.getfield 88, 3) := by decide +kernel
theorem dX10_roundOfBall_67 : decode cX10_roundOfBall 67 = .ok (.iload_n 1, 1) := by decide +kernel
theorem dX10_roundOfBall_68 : decode cX10_roundOfBall 68 = .ok (.iaload, 1) := by decide +kernel
theorem dX10_roundOfBall_69 : decode cX10_roundOfBall 69 = .ok (.istore_n 3, 1) := by decide +kernel
theorem dX10_roundOfBall_70 : decode cX10_roundOfBall 70 = .ok (.iload_n 3, 1) := by decide +kernel
theorem dX10_roundOfBall_71 : decode cX10_roundOfBall 71 = .ok (.ifCond .lt 28, 3) := by decide +kernel
theorem dX10_roundOfBall_74 : decode cX10_roundOfBall 74 = .ok (.aload_n 0, 1) := by decide +kernel
theorem dX10_roundOfBall_75 : decode cX10_roundOfBall 75 = .ok (.getfield 103, 3) := by decide +kernel
theorem dX10_roundOfBall_78 : decode cX10_roundOfBall 78 = .ok (.bipush 8, 2) := by decide +kernel
theorem dX10_roundOfBall_80 : decode cX10_roundOfBall 80 = .ok (.iload_n 1, 1) := by decide +kernel
theorem dX10_roundOfBall_81 : decode cX10_roundOfBall 81 = .ok (.imul, 1) := by decide +kernel
theorem dX10_roundOfBall_82 : decode cX10_roundOfBall 82 = .ok (.iload_n 2, 1) := by decide +kernel
theorem dX10_roundOfBall_83 : decode cX10_roundOfBall 83 = .ok (.iadd, 1) := by decide +kernel
theorem dX10_roundOfBall_84 : decode cX10_roundOfBall 84 = .ok (.iaload, 1) := by decide +kernel
theorem dX10_roundOfBall_85 : decode cX10_roundOfBall 85 = .ok (.aload_n 0, 1) := by decide +kernel
theorem dX10_roundOfBall_86 : decode cX10_roundOfBall 86 = .ok (.getfield 103, 3) := by decide +kernel
theorem dX10_roundOfBall_89 : decode cX10_roundOfBall 89 = .ok (.bipush 8, 2) := by decide +kernel
theorem dX10_roundOfBall_91 : decode cX10_roundOfBall 91 = .ok (.iload_n 1, 1) := by decide +kernel
theorem dX10_roundOfBall_92 : decode cX10_roundOfBall 92 = .ok (.imul, 1) := by decide +kernel
theorem dX10_roundOfBall_93 : decode cX10_roundOfBall 93 = .ok (.iload_n 3, 1) := by decide +kernel
theorem dX10_roundOfBall_94 : decode cX10_roundOfBall 94 = .ok (.iadd, 1) := by decide +kernel
theorem dX10_roundOfBall_95 : decode cX10_roundOfBall 95 = .ok (.iaload, 1) := by decide +kernel
theorem dX10_roundOfBall_96 : decode cX10_roundOfBall 96 = .ok (.if_icmp .le 10, 3) := by decide +kernel
theorem dX10_roundOfBall_99 : decode cX10_roundOfBall 99 = .ok (.aload_n 0, 1) := by decide +kernel
theorem dX10_roundOfBall_100 : decode cX10_roundOfBall 100 = .ok (.getfield 88, 3) := by decide +kernel
theorem dX10_roundOfBall_103 : decode cX10_roundOfBall 103 = .ok (.iload_n 1, 1) := by decide +kernel
theorem dX10_roundOfBall_104 : decode cX10_roundOfBall 104 = .ok (.iload_n 2, 1) := by decide +kernel
theorem dX10_roundOfBall_105 : decode cX10_roundOfBall 105 = .ok (.iastore, 1) := by decide +kernel
theorem dX10_roundOfBall_106 : decode cX10_roundOfBall 106 = .ok (.return_, 1) := by decide +kernel
theorem dX10_state_0 : decode cX10_state 0 = .ok (.aload_n 0, 1) := by decide +kernel
theorem dX10_state_1 : decode cX10_state 1 = .ok (.iconst 0, 1) := by decide +kernel
theorem dX10_state_2 : decode cX10_state 2 = .ok (.putfield 145, 3) := by decide +kernel
theorem dX10_state_5 : decode cX10_state 5 = .ok (.aload_n 0, 1) := by decide +kernel
theorem dX10_state_6 : decode cX10_state 6 = .ok (.iload_n 1, 1) := by decide +kernel
theorem dX10_state_7 : decode cX10_state 7 = .ok (.invokevirtual 346, 3) := by decide +kernel
theorem dX10_state_10 : decode cX10_state 10 = .ok (.ifCond .eq 24, 3) := by decide +kernel
theorem dX10_state_13 : decode cX10_state 13 = .ok (.iload_n 2, 1) := by decide +kernel
theorem dX10_state_14 : decode cX10_state 14 = .ok (.ifCond .lt 20, 3) := by decide +kernel
theorem dX10_state_17 : decode cX10_state 17 = .ok (.iload_n 2, 1) := by decide +kernel
theorem dX10_state_18 : decode cX10_state 18 = .ok (.iconst 3, 1) := by decide +kernel
theorem dX10_state_19 : decode cX10_state 19 = .ok (.if_icmp .le 17, 3) := by decide +kernel
theorem dX10_state_22 : decode cX10_state 22 = .ok (.iload_n 2, 1) := by decide +kernel
theorem dX10_state_23 : decode cX10_state 23 = .ok (.iconst 4, 1) := by decide +kernel
theorem dX10_state_24 : decode cX10_state 24 = .ok (.isub, 1) := by decide +kernel
theorem dX10_state_25 : decode cX10_state 25 = .ok (.aload_n 0, 1) := by decide +kernel
theorem dX10_state_26 : decode cX10_state 26 = .ok (.getfield 85, 3) := by decide +kernel
theorem dX10_state_29 : decode cX10_state 29 = .ok (.iload_n 1, 1) := by decide +kernel
theorem dX10_state_30 : decode cX10_state 30 = .ok (.iaload, 1) := by decide +kernel
theorem dX10_state_31 : decode cX10_state 31 = .ok (.if_icmp .lt 5, 3) := by decide +kernel
theorem dX10_state_34 : decode cX10_state 34 = .ok (.iconst (-1), 1) := by decide +kernel
theorem dX10_state_35 : decode cX10_state 35 = .ok (.ireturn, 1) := by decide +kernel
theorem dX10_state_36 : decode cX10_state 36 = .ok (.iload_n 2, 1) := by decide +kernel
theorem dX10_state_37 : decode cX10_state 37 = .ok (.tableswitch 66 0 3 #[31, 38, 45, 60], 31) := by decide +kernel
theorem dX10_state_68 : decode cX10_state 68 = .ok (.aload_n 0, 1) := by decide +kernel
theorem dX10_state_69 : decode cX10_state 69 = .ok (.getfield 88, 3) := by decide +kernel
theorem dX10_state_72 : decode cX10_state 72 = .ok (.iload_n 1, 1) := by decide +kernel
theorem dX10_state_73 : decode cX10_state 73 = .ok (.iaload, 1) := by decide +kernel
theorem dX10_state_74 : decode cX10_state 74 = .ok (.ireturn, 1) := by decide +kernel
theorem dX10_state_75 : decode cX10_state 75 = .ok (.aload_n 0, 1) := by decide +kernel
theorem dX10_state_76 : decode cX10_state 76 = .ok (.getfield 91, 3) := by decide +kernel
theorem dX10_state_79 : decode cX10_state 79 = .ok (.iload_n 1, 1) := by decide +kernel
theorem dX10_state_80 : decode cX10_state 80 = .ok (.iaload, 1) := by decide +kernel
theorem dX10_state_81 : decode cX10_state 81 = .ok (.ireturn, 1) := by decide +kernel
theorem dX10_state_82 : decode cX10_state 82 = .ok (.aload_n 0, 1) := by decide +kernel
theorem dX10_state_83 : decode cX10_state 83 = .ok (.getfield 94, 3) := by decide +kernel
theorem dX10_state_86 : decode cX10_state 86 = .ok (.iload_n 1, 1) := by decide +kernel
theorem dX10_state_87 : decode cX10_state 87 = .ok (.baload, 1) := by decide +kernel
theorem dX10_state_88 : decode cX10_state 88 = .ok (.ifCond .eq 7, 3) := by decide +kernel
theorem dX10_state_91 : decode cX10_state 91 = .ok (.iconst 1, 1) := by decide +kernel
theorem dX10_state_92 : decode cX10_state 92 = .ok (.goto 4, 3) := by decide +kernel
theorem dX10_state_95 : decode cX10_state 95 = .ok (.iconst 0, 1) := by decide +kernel
theorem dX10_state_96 : decode cX10_state 96 = .ok (.ireturn, 1) := by decide +kernel
theorem dX10_state_97 : decode cX10_state 97 = .ok (.aload_n 0, 1) := by decide +kernel
theorem dX10_state_98 : decode cX10_state 98 = .ok (.iload_n 1, 1) := by decide +kernel
theorem dX10_state_99 : decode cX10_state 99 = .ok (.invokevirtual 352, 3) := by decide +kernel
theorem dX10_state_102 : decode cX10_state 102 = .ok (.ireturn, 1) := by decide +kernel
theorem dX10_state_103 : decode cX10_state 103 = .ok (.aload_n 0, 1) := by decide +kernel
theorem dX10_state_104 : decode cX10_state 104 = .ok (.getfield 103, 3) := by decide +kernel
theorem dX10_state_107 : decode cX10_state 107 = .ok (.bipush 8, 2) := by decide +kernel
theorem dX10_state_109 : decode cX10_state 109 = .ok (.iload_n 1, 1) := by decide +kernel
theorem dX10_state_110 : decode cX10_state 110 = .ok (.imul, 1) := by decide +kernel
theorem dX10_state_111 : decode cX10_state 111 = .ok (.iload_n 2, 1) := by decide +kernel
theorem dX10_state_112 : decode cX10_state 112 = .ok (.iadd, 1) := by decide +kernel
theorem dX10_state_113 : decode cX10_state 113 = .ok (.iconst 4, 1) := by decide +kernel
theorem dX10_state_114 : decode cX10_state 114 = .ok (.isub, 1) := by decide +kernel
theorem dX10_state_115 : decode cX10_state 115 = .ok (.iaload, 1) := by decide +kernel
theorem dX10_state_116 : decode cX10_state 116 = .ok (.ireturn, 1) := by decide +kernel
theorem dX10_inState_0 : decode cX10_inState 0 = .ok (.iconst 0, 1) := by decide +kernel
theorem dX10_inState_1 : decode cX10_inState 1 = .ok (.istore_n 2, 1) := by decide +kernel
theorem dX10_inState_2 : decode cX10_inState 2 = .ok (.iconst 0, 1) := by decide +kernel
theorem dX10_inState_3 : decode cX10_inState 3 = .ok (.istore_n 3, 1) := by decide +kernel
theorem dX10_inState_4 : decode cX10_inState 4 = .ok (.iload_n 3, 1) := by decide +kernel
theorem dX10_inState_5 : decode cX10_inState 5 = .ok (.aload_n 0, 1) := by decide +kernel
theorem dX10_inState_6 : decode cX10_inState 6 = .ok (.getfield 16, 3) := by decide +kernel
theorem dX10_inState_9 : decode cX10_inState 9 = .ok (.if_icmp .ge 27, 3) := by decide +kernel
theorem dX10_inState_12 : decode cX10_inState 12 = .ok (.iload_n 2, 1) := by decide +kernel
theorem dX10_inState_13 : decode cX10_inState 13 = .ok (.aload_n 0, 1) := by decide +kernel
theorem dX10_inState_14 : decode cX10_inState 14 = .ok (.getfield 30, 3) := by decide +kernel
theorem dX10_inState_17 : decode cX10_inState 17 = .ok (.iload_n 3, 1) := by decide +kernel
theorem dX10_inState_18 : decode cX10_inState 18 = .ok (.iaload, 1) := by decide +kernel
theorem dX10_inState_19 : decode cX10_inState 19 = .ok (.iload_n 1, 1) := by decide +kernel
theorem dX10_inState_20 : decode cX10_inState 20 = .ok (.if_icmp .ne 7, 3) := by decide +kernel
theorem dX10_inState_23 : decode cX10_inState 23 = .ok (.iconst 1, 1) := by decide +kernel
theorem dX10_inState_24 : decode cX10_inState 24 = .ok (.goto 4, 3) := by decide +kernel
theorem dX10_inState_27 : decode cX10_inState 27 = .ok (.iconst 0, 1) := by decide +kernel
theorem dX10_inState_28 : decode cX10_inState 28 = .ok (.iadd, 1) := by decide +kernel
theorem dX10_inState_29 : decode cX10_inState 29 = .ok (.istore_n 2, 1) := by decide +kernel
theorem dX10_inState_30 : decode cX10_inState 30 = .ok (.iinc 3 1, 3) := by decide +kernel
theorem dX10_inState_33 : decode cX10_inState 33 = .ok (.goto (-29), 3) := by decide +kernel
theorem dX10_inState_36 : decode cX10_inState 36 = .ok (.iload_n 2, 1) := by decide +kernel
theorem dX10_inState_37 : decode cX10_inState 37 = .ok (.ireturn, 1) := by decide +kernel
theorem dX10_allLeft_0 : decode cX10_allLeft 0 = .ok (.iconst 0, 1) := by decide +kernel
theorem dX10_allLeft_1 : decode cX10_allLeft 1 = .ok (.istore_n 1, 1) := by decide +kernel
theorem dX10_allLeft_2 : decode cX10_allLeft 2 = .ok (.iconst 0, 1) := by decide +kernel
theorem dX10_allLeft_3 : decode cX10_allLeft 3 = .ok (.istore_n 2, 1) := by decide +kernel
theorem dX10_allLeft_4 : decode cX10_allLeft 4 = .ok (.iload_n 2, 1) := by decide +kernel
theorem dX10_allLeft_5 : decode cX10_allLeft 5 = .ok (.aload_n 0, 1) := by decide +kernel
theorem dX10_allLeft_6 : decode cX10_allLeft 6 = .ok (.getfield 49, 3) := by decide +kernel
theorem dX10_allLeft_9 : decode cX10_allLeft 9 = .ok (.if_icmp .ge 45, 3) := by decide +kernel
theorem dX10_allLeft_12 : decode cX10_allLeft 12 = .ok (.aload_n 0, 1) := by decide +kernel
theorem dX10_allLeft_13 : decode cX10_allLeft 13 = .ok (.getfield 46, 3) := by decide +kernel
theorem dX10_allLeft_16 : decode cX10_allLeft 16 = .ok (.iload_n 2, 1) := by decide +kernel
theorem dX10_allLeft_17 : decode cX10_allLeft 17 = .ok (.iaload, 1) := by decide +kernel
theorem dX10_allLeft_18 : decode cX10_allLeft 18 = .ok (.istore_n 3, 1) := by decide +kernel
theorem dX10_allLeft_19 : decode cX10_allLeft 19 = .ok (.iconst 0, 1) := by decide +kernel
theorem dX10_allLeft_20 : decode cX10_allLeft 20 = .ok (.istore 4, 2) := by decide +kernel
theorem dX10_allLeft_22 : decode cX10_allLeft 22 = .ok (.iload 4, 2) := by decide +kernel
theorem dX10_allLeft_24 : decode cX10_allLeft 24 = .ok (.aload_n 0, 1) := by decide +kernel
theorem dX10_allLeft_25 : decode cX10_allLeft 25 = .ok (.iload_n 3, 1) := by decide +kernel
theorem dX10_allLeft_26 : decode cX10_allLeft 26 = .ok (.invokevirtual 245, 3) := by decide +kernel
theorem dX10_allLeft_29 : decode cX10_allLeft 29 = .ok (.if_icmp .ge 19, 3) := by decide +kernel
theorem dX10_allLeft_32 : decode cX10_allLeft 32 = .ok (.iload_n 1, 1) := by decide +kernel
theorem dX10_allLeft_33 : decode cX10_allLeft 33 = .ok (.aload_n 0, 1) := by decide +kernel
theorem dX10_allLeft_34 : decode cX10_allLeft 34 = .ok (.iload_n 3, 1) := by decide +kernel
theorem dX10_allLeft_35 : decode cX10_allLeft 35 = .ok (.iload 4, 2) := by decide +kernel
theorem dX10_allLeft_37 : decode cX10_allLeft 37 = .ok (.invokevirtual 343, 3) := by decide +kernel
theorem dX10_allLeft_40 : decode cX10_allLeft 40 = .ok (.iadd, 1) := by decide +kernel
theorem dX10_allLeft_41 : decode cX10_allLeft 41 = .ok (.istore_n 1, 1) := by decide +kernel
theorem dX10_allLeft_42 : decode cX10_allLeft 42 = .ok (.iinc 4 1, 3) := by decide +kernel
theorem dX10_allLeft_45 : decode cX10_allLeft 45 = .ok (.goto (-23), 3) := by decide +kernel
theorem dX10_allLeft_48 : decode cX10_allLeft 48 = .ok (.iinc 2 1, 3) := by decide +kernel
theorem dX10_allLeft_51 : decode cX10_allLeft 51 = .ok (.goto (-47), 3) := by decide +kernel
theorem dX10_allLeft_54 : decode cX10_allLeft 54 = .ok (.iload_n 1, 1) := by decide +kernel
theorem dX10_allLeft_55 : decode cX10_allLeft 55 = .ok (.ireturn, 1) := by decide +kernel
theorem dX10_count_0 : decode cX10_count 0 = .ok (.aload_n 0, 1) := by decide +kernel
theorem dX10_count_1 : decode cX10_count 1 = .ok (.iconst 0, 1) := by decide +kernel
theorem dX10_count_2 : decode cX10_count 2 = .ok (.putfield 145, 3) := by decide +kernel
theorem dX10_count_5 : decode cX10_count 5 = .ok (.iload_n 1, 1) := by decide +kernel
theorem dX10_count_6 : decode cX10_count 6 = .ok (.tableswitch 116 0 10 #[58, 63, 69, 74, 79, 85, 91, 96, 101, 106, 111], 58) := by decide +kernel
theorem dX10_count_64 : decode cX10_count 64 = .ok (.aload_n 0, 1) := by decide +kernel
theorem dX10_count_65 : decode cX10_count 65 = .ok (.getfield 16, 3) := by decide +kernel
theorem dX10_count_68 : decode cX10_count 68 = .ok (.ireturn, 1) := by decide +kernel
theorem dX10_count_69 : decode cX10_count 69 = .ok (.aload_n 0, 1) := by decide +kernel
theorem dX10_count_70 : decode cX10_count 70 = .ok (.iconst 1, 1) := by decide +kernel
theorem dX10_count_71 : decode cX10_count 71 = .ok (.invokevirtual 365, 3) := by decide +kernel
theorem dX10_count_74 : decode cX10_count 74 = .ok (.ireturn, 1) := by decide +kernel
theorem dX10_count_75 : decode cX10_count 75 = .ok (.aload_n 0, 1) := by decide +kernel
theorem dX10_count_76 : decode cX10_count 76 = .ok (.getfield 43, 3) := by decide +kernel
theorem dX10_count_79 : decode cX10_count 79 = .ok (.ireturn, 1) := by decide +kernel
theorem dX10_count_80 : decode cX10_count 80 = .ok (.aload_n 0, 1) := by decide +kernel
theorem dX10_count_81 : decode cX10_count 81 = .ok (.getfield 49, 3) := by decide +kernel
theorem dX10_count_84 : decode cX10_count 84 = .ok (.ireturn, 1) := by decide +kernel
theorem dX10_count_85 : decode cX10_count 85 = .ok (.aload_n 0, 1) := by decide +kernel
theorem dX10_count_86 : decode cX10_count 86 = .ok (.iconst 4, 1) := by decide +kernel
theorem dX10_count_87 : decode cX10_count 87 = .ok (.invokevirtual 365, 3) := by decide +kernel
theorem dX10_count_90 : decode cX10_count 90 = .ok (.ireturn, 1) := by decide +kernel
theorem dX10_count_91 : decode cX10_count 91 = .ok (.aload_n 0, 1) := by decide +kernel
theorem dX10_count_92 : decode cX10_count 92 = .ok (.iconst 5, 1) := by decide +kernel
theorem dX10_count_93 : decode cX10_count 93 = .ok (.invokevirtual 365, 3) := by decide +kernel
theorem dX10_count_96 : decode cX10_count 96 = .ok (.ireturn, 1) := by decide +kernel
theorem dX10_count_97 : decode cX10_count 97 = .ok (.aload_n 0, 1) := by decide +kernel
theorem dX10_count_98 : decode cX10_count 98 = .ok (.invokevirtual 293, 3) := by decide +kernel
theorem dX10_count_101 : decode cX10_count 101 = .ok (.ireturn, 1) := by decide +kernel
theorem dX10_count_102 : decode cX10_count 102 = .ok (.aload_n 0, 1) := by decide +kernel
theorem dX10_count_103 : decode cX10_count 103 = .ok (.getfield 297, 3) := by decide +kernel
theorem dX10_count_106 : decode cX10_count 106 = .ok (.ireturn, 1) := by decide +kernel
theorem dX10_count_107 : decode cX10_count 107 = .ok (.aload_n 0, 1) := by decide +kernel
theorem dX10_count_108 : decode cX10_count 108 = .ok (.getfield 313, 3) := by decide +kernel
theorem dX10_count_111 : decode cX10_count 111 = .ok (.ireturn, 1) := by decide +kernel
theorem dX10_count_112 : decode cX10_count 112 = .ok (.aload_n 0, 1) := by decide +kernel
theorem dX10_count_113 : decode cX10_count 113 = .ok (.getfield 173, 3) := by decide +kernel
theorem dX10_count_116 : decode cX10_count 116 = .ok (.ireturn, 1) := by decide +kernel
theorem dX10_count_117 : decode cX10_count 117 = .ok (.aload_n 0, 1) := by decide +kernel
theorem dX10_count_118 : decode cX10_count 118 = .ok (.invokevirtual 368, 3) := by decide +kernel
theorem dX10_count_121 : decode cX10_count 121 = .ok (.ireturn, 1) := by decide +kernel
theorem dX10_count_122 : decode cX10_count 122 = .ok (.iconst (-1), 1) := by decide +kernel
theorem dX10_count_123 : decode cX10_count 123 = .ok (.ireturn, 1) := by decide +kernel
theorem dJ13_bitCount_95d88_0 : decode cJ13_bitCount_95d88 0 = .ok (.lload_n 0, 1) := by decide +kernel
theorem dJ13_bitCount_95d88_1 : decode cJ13_bitCount_95d88 1 = .ok (.lload_n 0, 1) := by decide +kernel
theorem dJ13_bitCount_95d88_2 : decode cJ13_bitCount_95d88 2 = .ok (.iconst 1, 1) := by decide +kernel
theorem dJ13_bitCount_95d88_3 : decode cJ13_bitCount_95d88 3 = .ok (.lushr, 1) := by decide +kernel
theorem dJ13_bitCount_95d88_4 : decode cJ13_bitCount_95d88 4 = .ok (.ldc2_w 314, 3) := by decide +kernel
theorem dJ13_bitCount_95d88_7 : decode cJ13_bitCount_95d88 7 = .ok (.land, 1) := by decide +kernel
theorem dJ13_bitCount_95d88_8 : decode cJ13_bitCount_95d88 8 = .ok (.lsub, 1) := by decide +kernel
theorem dJ13_bitCount_95d88_9 : decode cJ13_bitCount_95d88 9 = .ok (.lstore_n 0, 1) := by decide +kernel
theorem dJ13_bitCount_95d88_10 : decode cJ13_bitCount_95d88 10 = .ok (.lload_n 0, 1) := by decide +kernel
theorem dJ13_bitCount_95d88_11 : decode cJ13_bitCount_95d88 11 = .ok (.ldc2_w 316, 3) := by decide +kernel
theorem dJ13_bitCount_95d88_14 : decode cJ13_bitCount_95d88 14 = .ok (.land, 1) := by decide +kernel
theorem dJ13_bitCount_95d88_15 : decode cJ13_bitCount_95d88 15 = .ok (.lload_n 0, 1) := by decide +kernel
theorem dJ13_bitCount_95d88_16 : decode cJ13_bitCount_95d88 16 = .ok (.iconst 2, 1) := by decide +kernel
theorem dJ13_bitCount_95d88_17 : decode cJ13_bitCount_95d88 17 = .ok (.lushr, 1) := by decide +kernel
theorem dJ13_bitCount_95d88_18 : decode cJ13_bitCount_95d88 18 = .ok (.ldc2_w 316, 3) := by decide +kernel
theorem dJ13_bitCount_95d88_21 : decode cJ13_bitCount_95d88 21 = .ok (.land, 1) := by decide +kernel
theorem dJ13_bitCount_95d88_22 : decode cJ13_bitCount_95d88 22 = .ok (.ladd, 1) := by decide +kernel
theorem dJ13_bitCount_95d88_23 : decode cJ13_bitCount_95d88 23 = .ok (.lstore_n 0, 1) := by decide +kernel
theorem dJ13_bitCount_95d88_24 : decode cJ13_bitCount_95d88 24 = .ok (.lload_n 0, 1) := by decide +kernel
theorem dJ13_bitCount_95d88_25 : decode cJ13_bitCount_95d88 25 = .ok (.lload_n 0, 1) := by decide +kernel
theorem dJ13_bitCount_95d88_26 : decode cJ13_bitCount_95d88 26 = .ok (.iconst 4, 1) := by decide +kernel
theorem dJ13_bitCount_95d88_27 : decode cJ13_bitCount_95d88 27 = .ok (.lushr, 1) := by decide +kernel
theorem dJ13_bitCount_95d88_28 : decode cJ13_bitCount_95d88 28 = .ok (.ladd, 1) := by decide +kernel
theorem dJ13_bitCount_95d88_29 : decode cJ13_bitCount_95d88 29 = .ok (.ldc2_w 318, 3) := by decide +kernel
theorem dJ13_bitCount_95d88_32 : decode cJ13_bitCount_95d88 32 = .ok (.land, 1) := by decide +kernel
theorem dJ13_bitCount_95d88_33 : decode cJ13_bitCount_95d88 33 = .ok (.lstore_n 0, 1) := by decide +kernel
theorem dJ13_bitCount_95d88_34 : decode cJ13_bitCount_95d88 34 = .ok (.lload_n 0, 1) := by decide +kernel
theorem dJ13_bitCount_95d88_35 : decode cJ13_bitCount_95d88 35 = .ok (.lload_n 0, 1) := by decide +kernel
theorem dJ13_bitCount_95d88_36 : decode cJ13_bitCount_95d88 36 = .ok (.bipush 8, 2) := by decide +kernel
theorem dJ13_bitCount_95d88_38 : decode cJ13_bitCount_95d88 38 = .ok (.lushr, 1) := by decide +kernel
theorem dJ13_bitCount_95d88_39 : decode cJ13_bitCount_95d88 39 = .ok (.ladd, 1) := by decide +kernel
theorem dJ13_bitCount_95d88_40 : decode cJ13_bitCount_95d88 40 = .ok (.lstore_n 0, 1) := by decide +kernel
theorem dJ13_bitCount_95d88_41 : decode cJ13_bitCount_95d88 41 = .ok (.lload_n 0, 1) := by decide +kernel
theorem dJ13_bitCount_95d88_42 : decode cJ13_bitCount_95d88 42 = .ok (.lload_n 0, 1) := by decide +kernel
theorem dJ13_bitCount_95d88_43 : decode cJ13_bitCount_95d88 43 = .ok (.bipush 16, 2) := by decide +kernel
theorem dJ13_bitCount_95d88_45 : decode cJ13_bitCount_95d88 45 = .ok (.lushr, 1) := by decide +kernel
theorem dJ13_bitCount_95d88_46 : decode cJ13_bitCount_95d88 46 = .ok (.ladd, 1) := by decide +kernel
theorem dJ13_bitCount_95d88_47 : decode cJ13_bitCount_95d88 47 = .ok (.lstore_n 0, 1) := by decide +kernel
theorem dJ13_bitCount_95d88_48 : decode cJ13_bitCount_95d88 48 = .ok (.lload_n 0, 1) := by decide +kernel
theorem dJ13_bitCount_95d88_49 : decode cJ13_bitCount_95d88 49 = .ok (.lload_n 0, 1) := by decide +kernel
theorem dJ13_bitCount_95d88_50 : decode cJ13_bitCount_95d88 50 = .ok (.bipush 32, 2) := by decide +kernel
theorem dJ13_bitCount_95d88_52 : decode cJ13_bitCount_95d88 52 = .ok (.lushr, 1) := by decide +kernel
theorem dJ13_bitCount_95d88_53 : decode cJ13_bitCount_95d88 53 = .ok (.ladd, 1) := by decide +kernel
theorem dJ13_bitCount_95d88_54 : decode cJ13_bitCount_95d88 54 = .ok (.lstore_n 0, 1) := by decide +kernel
theorem dJ13_bitCount_95d88_55 : decode cJ13_bitCount_95d88 55 = .ok (.lload_n 0, 1) := by decide +kernel
theorem dJ13_bitCount_95d88_56 : decode cJ13_bitCount_95d88 56 = .ok (.l2i, 1) := by decide +kernel
theorem dJ13_bitCount_95d88_57 : decode cJ13_bitCount_95d88 57 = .ok (.bipush 127, 2) := by decide +kernel
theorem dJ13_bitCount_95d88_59 : decode cJ13_bitCount_95d88 59 = .ok (.iand, 1) := by decide +kernel
theorem dJ13_bitCount_95d88_60 : decode cJ13_bitCount_95d88 60 = .ok (.ireturn, 1) := by decide +kernel
theorem dJ9_max_7cf53_0 : decode cJ9_max_7cf53 0 = .ok (.iload_n 0, 1) := by decide +kernel
theorem dJ9_max_7cf53_1 : decode cJ9_max_7cf53 1 = .ok (.iload_n 1, 1) := by decide +kernel
theorem dJ9_max_7cf53_2 : decode cJ9_max_7cf53 2 = .ok (.if_icmp .lt 7, 3) := by decide +kernel
theorem dJ9_max_7cf53_5 : decode cJ9_max_7cf53 5 = .ok (.iload_n 0, 1) := by decide +kernel
theorem dJ9_max_7cf53_6 : decode cJ9_max_7cf53 6 = .ok (.goto 4, 3) := by decide +kernel
theorem dJ9_max_7cf53_9 : decode cJ9_max_7cf53 9 = .ok (.iload_n 1, 1) := by decide +kernel
theorem dJ9_max_7cf53_10 : decode cJ9_max_7cf53 10 = .ok (.ireturn, 1) := by decide +kernel
theorem dJ9_min_7cf53_0 : decode cJ9_min_7cf53 0 = .ok (.iload_n 0, 1) := by decide +kernel
theorem dJ9_min_7cf53_1 : decode cJ9_min_7cf53 1 = .ok (.iload_n 1, 1) := by decide +kernel
theorem dJ9_min_7cf53_2 : decode cJ9_min_7cf53 2 = .ok (.if_icmp .gt 7, 3) := by decide +kernel
theorem dJ9_min_7cf53_5 : decode cJ9_min_7cf53 5 = .ok (.iload_n 0, 1) := by decide +kernel
theorem dJ9_min_7cf53_6 : decode cJ9_min_7cf53 6 = .ok (.goto 4, 3) := by decide +kernel
theorem dJ9_min_7cf53_9 : decode cJ9_min_7cf53 9 = .ok (.iload_n 1, 1) := by decide +kernel
theorem dJ9_min_7cf53_10 : decode cJ9_min_7cf53 10 = .ok (.ireturn, 1) := by decide +kernel
theorem dJxa1e45_init_da8c8_0 : decode cJxa1e45_init_da8c8 0 = .ok (.aload_n 0, 1) := by decide +kernel
theorem dJxa1e45_init_da8c8_1 : decode cJxa1e45_init_da8c8 1 = .ok (.invokespecial 1, 3) := by decide +kernel
theorem dJxa1e45_init_da8c8_4 : decode cJxa1e45_init_da8c8 4 = .ok (.return_, 1) := by decide +kernel
theorem dJxc12de_init_da8c8_0 : decode cJxc12de_init_da8c8 0 = .ok (.aload_n 0, 1) := by decide +kernel
theorem dJxc12de_init_da8c8_1 : decode cJxc12de_init_da8c8 1 = .ok (.invokespecial 1, 3) := by decide +kernel
theorem dJxc12de_init_da8c8_4 : decode cJxc12de_init_da8c8 4 = .ok (.aload_n 0, 1) := by decide +kernel
theorem dJxc12de_init_da8c8_5 : decode cJxc12de_init_da8c8 5 = .ok (.iconst 0, 1) := by decide +kernel
theorem dJxc12de_init_da8c8_6 : decode cJxc12de_init_da8c8 6 = .ok (.putfield 7, 3) := by decide +kernel
theorem dJxc12de_init_da8c8_9 : decode cJxc12de_init_da8c8 9 = .ok (.return_, 1) := by decide +kernel
theorem dJx4a65c_init_da8c8_0 : decode cJx4a65c_init_da8c8 0 = .ok (.aload_n 0, 1) := by decide +kernel
theorem dJx4a65c_init_da8c8_1 : decode cJx4a65c_init_da8c8 1 = .ok (.invokespecial 1, 3) := by decide +kernel
theorem dJx4a65c_init_da8c8_4 : decode cJx4a65c_init_da8c8 4 = .ok (.aload_n 0, 1) := by decide +kernel
theorem dJx4a65c_init_da8c8_5 : decode cJx4a65c_init_da8c8 5 = .ok (.getstatic 39, 3) := by decide +kernel
theorem dJx4a65c_init_da8c8_8 : decode cJx4a65c_init_da8c8 8 = .ok (.putfield 9, 3) := by decide +kernel
theorem dJx4a65c_init_da8c8_11 : decode cJx4a65c_init_da8c8 11 = .ok (.return_, 1) := by decide +kernel
theorem dJx4a65c_grow_92f84_0 : decode cJx4a65c_grow_92f84 0 = .ok (.aload_n 0, 1) := by decide +kernel
theorem dJx4a65c_grow_92f84_1 : decode cJx4a65c_grow_92f84 1 = .ok (.getfield 9, 3) := by decide +kernel
theorem dJx4a65c_grow_92f84_4 : decode cJx4a65c_grow_92f84 4 = .ok (.arraylength, 1) := by decide +kernel
theorem dJx4a65c_grow_92f84_5 : decode cJx4a65c_grow_92f84 5 = .ok (.istore_n 2, 1) := by decide +kernel
theorem dJx4a65c_grow_92f84_6 : decode cJx4a65c_grow_92f84 6 = .ok (.iload_n 2, 1) := by decide +kernel
theorem dJx4a65c_grow_92f84_7 : decode cJx4a65c_grow_92f84 7 = .ok (.ifCond .gt 13, 3) := by decide +kernel
theorem dJx4a65c_grow_92f84_10 : decode cJx4a65c_grow_92f84 10 = .ok (.aload_n 0, 1) := by decide +kernel
theorem dJx4a65c_grow_92f84_11 : decode cJx4a65c_grow_92f84 11 = .ok (.getfield 9, 3) := by decide +kernel
theorem dJx4a65c_grow_92f84_14 : decode cJx4a65c_grow_92f84 14 = .ok (.getstatic 39, 3) := by decide +kernel
theorem dJx4a65c_grow_92f84_17 : decode cJx4a65c_grow_92f84 17 = .ok (.if_acmp .eq 28, 3) := by decide +kernel
theorem dJx4a65c_grow_92f84_20 : decode cJx4a65c_grow_92f84 20 = .ok (.iload_n 2, 1) := by decide +kernel
theorem dJx4a65c_grow_92f84_21 : decode cJx4a65c_grow_92f84 21 = .ok (.iload_n 1, 1) := by decide +kernel
theorem dJx4a65c_grow_92f84_22 : decode cJx4a65c_grow_92f84 22 = .ok (.iload_n 2, 1) := by decide +kernel
theorem dJx4a65c_grow_92f84_23 : decode cJx4a65c_grow_92f84 23 = .ok (.isub, 1) := by decide +kernel
theorem dJx4a65c_grow_92f84_24 : decode cJx4a65c_grow_92f84 24 = .ok (.iload_n 2, 1) := by decide +kernel
theorem dJx4a65c_grow_92f84_25 : decode cJx4a65c_grow_92f84 25 = .ok (.iconst 1, 1) := by decide +kernel
theorem dJx4a65c_grow_92f84_26 : decode cJx4a65c_grow_92f84 26 = .ok (.ishr, 1) := by decide +kernel
theorem dJx4a65c_grow_92f84_27 : decode cJx4a65c_grow_92f84 27 = .ok (.invokestatic 73, 3) := by decide +kernel
theorem dJx4a65c_grow_92f84_30 : decode cJx4a65c_grow_92f84 30 = .ok (.istore_n 3, 1) := by decide +kernel
theorem dJx4a65c_grow_92f84_31 : decode cJx4a65c_grow_92f84 31 = .ok (.aload_n 0, 1) := by decide +kernel
theorem dJx4a65c_grow_92f84_32 : decode cJx4a65c_grow_92f84 32 = .ok (.aload_n 0, 1) := by decide +kernel
theorem dJx4a65c_grow_92f84_33 : decode cJx4a65c_grow_92f84 33 = .ok (.getfield 9, 3) := by decide +kernel
theorem dJx4a65c_grow_92f84_36 : decode cJx4a65c_grow_92f84 36 = .ok (.iload_n 3, 1) := by decide +kernel
theorem dJx4a65c_grow_92f84_37 : decode cJx4a65c_grow_92f84 37 = .ok (.invokestatic 66, 3) := by decide +kernel
theorem dJx4a65c_grow_92f84_40 : decode cJx4a65c_grow_92f84 40 = .ok (.dup_x1, 1) := by decide +kernel
theorem dJx4a65c_grow_92f84_41 : decode cJx4a65c_grow_92f84 41 = .ok (.putfield 9, 3) := by decide +kernel
theorem dJx4a65c_grow_92f84_44 : decode cJx4a65c_grow_92f84 44 = .ok (.areturn, 1) := by decide +kernel
theorem dJx4a65c_grow_92f84_45 : decode cJx4a65c_grow_92f84 45 = .ok (.aload_n 0, 1) := by decide +kernel
theorem dJx4a65c_grow_92f84_46 : decode cJx4a65c_grow_92f84 46 = .ok (.bipush 10, 2) := by decide +kernel
theorem dJx4a65c_grow_92f84_48 : decode cJx4a65c_grow_92f84 48 = .ok (.iload_n 1, 1) := by decide +kernel
theorem dJx4a65c_grow_92f84_49 : decode cJx4a65c_grow_92f84 49 = .ok (.invokestatic 79, 3) := by decide +kernel
theorem dJx4a65c_grow_92f84_52 : decode cJx4a65c_grow_92f84 52 = .ok (.anewarray 7, 3) := by decide +kernel
theorem dJx4a65c_grow_92f84_55 : decode cJx4a65c_grow_92f84 55 = .ok (.dup_x1, 1) := by decide +kernel
theorem dJx4a65c_grow_92f84_56 : decode cJx4a65c_grow_92f84 56 = .ok (.putfield 9, 3) := by decide +kernel
theorem dJx4a65c_grow_92f84_59 : decode cJx4a65c_grow_92f84 59 = .ok (.areturn, 1) := by decide +kernel
theorem dJx4a65c_grow_d5877_0 : decode cJx4a65c_grow_d5877 0 = .ok (.aload_n 0, 1) := by decide +kernel
theorem dJx4a65c_grow_d5877_1 : decode cJx4a65c_grow_d5877 1 = .ok (.aload_n 0, 1) := by decide +kernel
theorem dJx4a65c_grow_d5877_2 : decode cJx4a65c_grow_d5877 2 = .ok (.getfield 48, 3) := by decide +kernel
theorem dJx4a65c_grow_d5877_5 : decode cJx4a65c_grow_d5877 5 = .ok (.iconst 1, 1) := by decide +kernel
theorem dJx4a65c_grow_d5877_6 : decode cJx4a65c_grow_d5877 6 = .ok (.iadd, 1) := by decide +kernel
theorem dJx4a65c_grow_d5877_7 : decode cJx4a65c_grow_d5877 7 = .ok (.invokevirtual 69, 3) := by decide +kernel
theorem dJx4a65c_grow_d5877_10 : decode cJx4a65c_grow_d5877 10 = .ok (.areturn, 1) := by decide +kernel
theorem dJx4a65c_size_8abf5_0 : decode cJx4a65c_size_8abf5 0 = .ok (.aload_n 0, 1) := by decide +kernel
theorem dJx4a65c_size_8abf5_1 : decode cJx4a65c_size_8abf5 1 = .ok (.getfield 48, 3) := by decide +kernel
theorem dJx4a65c_size_8abf5_4 : decode cJx4a65c_size_8abf5 4 = .ok (.ireturn, 1) := by decide +kernel
theorem dJx4a65c_elementData_915e3_0 : decode cJx4a65c_elementData_915e3 0 = .ok (.aload_n 0, 1) := by decide +kernel
theorem dJx4a65c_elementData_915e3_1 : decode cJx4a65c_elementData_915e3 1 = .ok (.getfield 9, 3) := by decide +kernel
theorem dJx4a65c_elementData_915e3_4 : decode cJx4a65c_elementData_915e3 4 = .ok (.iload_n 1, 1) := by decide +kernel
theorem dJx4a65c_elementData_915e3_5 : decode cJx4a65c_elementData_915e3 5 = .ok (.aaload, 1) := by decide +kernel
theorem dJx4a65c_elementData_915e3_6 : decode cJx4a65c_elementData_915e3 6 = .ok (.areturn, 1) := by decide +kernel
theorem dJx4a65c_get_915e3_0 : decode cJx4a65c_get_915e3 0 = .ok (.iload_n 1, 1) := by decide +kernel
theorem dJx4a65c_get_915e3_1 : decode cJx4a65c_get_915e3 1 = .ok (.aload_n 0, 1) := by decide +kernel
theorem dJx4a65c_get_915e3_2 : decode cJx4a65c_get_915e3 2 = .ok (.getfield 48, 3) := by decide +kernel
theorem dJx4a65c_get_915e3_5 : decode cJx4a65c_get_915e3 5 = .ok (.invokestatic 118, 3) := by decide +kernel
theorem dJx4a65c_get_915e3_8 : decode cJx4a65c_get_915e3 8 = .ok (.pop, 1) := by decide +kernel
theorem dJx4a65c_get_915e3_9 : decode cJx4a65c_get_915e3 9 = .ok (.aload_n 0, 1) := by decide +kernel
theorem dJx4a65c_get_915e3_10 : decode cJx4a65c_get_915e3 10 = .ok (.iload_n 1, 1) := by decide +kernel
theorem dJx4a65c_get_915e3_11 : decode cJx4a65c_get_915e3 11 = .ok (.invokevirtual 123, 3) := by decide +kernel
theorem dJx4a65c_get_915e3_14 : decode cJx4a65c_get_915e3 14 = .ok (.areturn, 1) := by decide +kernel
theorem dJx4a65c_add_72be8_0 : decode cJx4a65c_add_72be8 0 = .ok (.iload_n 3, 1) := by decide +kernel
theorem dJx4a65c_add_72be8_1 : decode cJx4a65c_add_72be8 1 = .ok (.aload_n 2, 1) := by decide +kernel
theorem dJx4a65c_add_72be8_2 : decode cJx4a65c_add_72be8 2 = .ok (.arraylength, 1) := by decide +kernel
theorem dJx4a65c_add_72be8_3 : decode cJx4a65c_add_72be8 3 = .ok (.if_icmp .ne 8, 3) := by decide +kernel
theorem dJx4a65c_add_72be8_6 : decode cJx4a65c_add_72be8 6 = .ok (.aload_n 0, 1) := by decide +kernel
theorem dJx4a65c_add_72be8_7 : decode cJx4a65c_add_72be8 7 = .ok (.invokevirtual 129, 3) := by decide +kernel
theorem dJx4a65c_add_72be8_10 : decode cJx4a65c_add_72be8 10 = .ok (.astore_n 2, 1) := by decide +kernel
theorem dJx4a65c_add_72be8_11 : decode cJx4a65c_add_72be8 11 = .ok (.aload_n 2, 1) := by decide +kernel
theorem dJx4a65c_add_72be8_12 : decode cJx4a65c_add_72be8 12 = .ok (.iload_n 3, 1) := by decide +kernel
theorem dJx4a65c_add_72be8_13 : decode cJx4a65c_add_72be8 13 = .ok (.aload_n 1, 1) := by decide +kernel
theorem dJx4a65c_add_72be8_14 : decode cJx4a65c_add_72be8 14 = .ok (.aastore, 1) := by decide +kernel
theorem dJx4a65c_add_72be8_15 : decode cJx4a65c_add_72be8 15 = .ok (.aload_n 0, 1) := by decide +kernel
theorem dJx4a65c_add_72be8_16 : decode cJx4a65c_add_72be8 16 = .ok (.iload_n 3, 1) := by decide +kernel
theorem dJx4a65c_add_72be8_17 : decode cJx4a65c_add_72be8 17 = .ok (.iconst 1, 1) := by decide +kernel
theorem dJx4a65c_add_72be8_18 : decode cJx4a65c_add_72be8 18 = .ok (.iadd, 1) := by decide +kernel
theorem dJx4a65c_add_72be8_19 : decode cJx4a65c_add_72be8 19 = .ok (.putfield 48, 3) := by decide +kernel
theorem dJx4a65c_add_72be8_22 : decode cJx4a65c_add_72be8 22 = .ok (.return_, 1) := by decide +kernel
theorem dJx4a65c_add_9ea2d_0 : decode cJx4a65c_add_9ea2d 0 = .ok (.aload_n 0, 1) := by decide +kernel
theorem dJx4a65c_add_9ea2d_1 : decode cJx4a65c_add_9ea2d 1 = .ok (.dup, 1) := by decide +kernel
theorem dJx4a65c_add_9ea2d_2 : decode cJx4a65c_add_9ea2d 2 = .ok (.getfield 63, 3) := by decide +kernel
theorem dJx4a65c_add_9ea2d_5 : decode cJx4a65c_add_9ea2d 5 = .ok (.iconst 1, 1) := by decide +kernel
theorem dJx4a65c_add_9ea2d_6 : decode cJx4a65c_add_9ea2d 6 = .ok (.iadd, 1) := by decide +kernel
theorem dJx4a65c_add_9ea2d_7 : decode cJx4a65c_add_9ea2d 7 = .ok (.putfield 63, 3) := by decide +kernel
theorem dJx4a65c_add_9ea2d_10 : decode cJx4a65c_add_9ea2d 10 = .ok (.aload_n 0, 1) := by decide +kernel
theorem dJx4a65c_add_9ea2d_11 : decode cJx4a65c_add_9ea2d 11 = .ok (.aload_n 1, 1) := by decide +kernel
theorem dJx4a65c_add_9ea2d_12 : decode cJx4a65c_add_9ea2d 12 = .ok (.aload_n 0, 1) := by decide +kernel
theorem dJx4a65c_add_9ea2d_13 : decode cJx4a65c_add_9ea2d 13 = .ok (.getfield 9, 3) := by decide +kernel
theorem dJx4a65c_add_9ea2d_16 : decode cJx4a65c_add_9ea2d 16 = .ok (.aload_n 0, 1) := by decide +kernel
theorem dJx4a65c_add_9ea2d_17 : decode cJx4a65c_add_9ea2d 17 = .ok (.getfield 48, 3) := by decide +kernel
theorem dJx4a65c_add_9ea2d_20 : decode cJx4a65c_add_9ea2d 20 = .ok (.invokevirtual 131, 3) := by decide +kernel
theorem dJx4a65c_add_9ea2d_23 : decode cJx4a65c_add_9ea2d 23 = .ok (.iconst 1, 1) := by decide +kernel
theorem dJx4a65c_add_9ea2d_24 : decode cJx4a65c_add_9ea2d 24 = .ok (.ireturn, 1) := by decide +kernel
theorem dJx4a65c_remove_915e3_0 : decode cJx4a65c_remove_915e3 0 = .ok (.iload_n 1, 1) := by decide +kernel
theorem dJx4a65c_remove_915e3_1 : decode cJx4a65c_remove_915e3 1 = .ok (.aload_n 0, 1) := by decide +kernel
theorem dJx4a65c_remove_915e3_2 : decode cJx4a65c_remove_915e3 2 = .ok (.getfield 48, 3) := by decide +kernel
theorem dJx4a65c_remove_915e3_5 : decode cJx4a65c_remove_915e3 5 = .ok (.invokestatic 118, 3) := by decide +kernel
theorem dJx4a65c_remove_915e3_8 : decode cJx4a65c_remove_915e3 8 = .ok (.pop, 1) := by decide +kernel
theorem dJx4a65c_remove_915e3_9 : decode cJx4a65c_remove_915e3 9 = .ok (.aload_n 0, 1) := by decide +kernel
theorem dJx4a65c_remove_915e3_10 : decode cJx4a65c_remove_915e3 10 = .ok (.getfield 9, 3) := by decide +kernel
theorem dJx4a65c_remove_915e3_13 : decode cJx4a65c_remove_915e3 13 = .ok (.astore_n 2, 1) := by decide +kernel
theorem dJx4a65c_remove_915e3_14 : decode cJx4a65c_remove_915e3 14 = .ok (.aload_n 2, 1) := by decide +kernel
theorem dJx4a65c_remove_915e3_15 : decode cJx4a65c_remove_915e3 15 = .ok (.iload_n 1, 1) := by decide +kernel
theorem dJx4a65c_remove_915e3_16 : decode cJx4a65c_remove_915e3 16 = .ok (.aaload, 1) := by decide +kernel
theorem dJx4a65c_remove_915e3_17 : decode cJx4a65c_remove_915e3 17 = .ok (.astore_n 3, 1) := by decide +kernel
theorem dJx4a65c_remove_915e3_18 : decode cJx4a65c_remove_915e3 18 = .ok (.aload_n 0, 1) := by decide +kernel
theorem dJx4a65c_remove_915e3_19 : decode cJx4a65c_remove_915e3 19 = .ok (.aload_n 2, 1) := by decide +kernel
theorem dJx4a65c_remove_915e3_20 : decode cJx4a65c_remove_915e3 20 = .ok (.iload_n 1, 1) := by decide +kernel
theorem dJx4a65c_remove_915e3_21 : decode cJx4a65c_remove_915e3 21 = .ok (.invokevirtual 144, 3) := by decide +kernel
theorem dJx4a65c_remove_915e3_24 : decode cJx4a65c_remove_915e3 24 = .ok (.aload_n 3, 1) := by decide +kernel
theorem dJx4a65c_remove_915e3_25 : decode cJx4a65c_remove_915e3 25 = .ok (.areturn, 1) := by decide +kernel
theorem dJx4a65c_fastRemove_b59b0_0 : decode cJx4a65c_fastRemove_b59b0 0 = .ok (.aload_n 0, 1) := by decide +kernel
theorem dJx4a65c_fastRemove_b59b0_1 : decode cJx4a65c_fastRemove_b59b0 1 = .ok (.dup, 1) := by decide +kernel
theorem dJx4a65c_fastRemove_b59b0_2 : decode cJx4a65c_fastRemove_b59b0 2 = .ok (.getfield 63, 3) := by decide +kernel
theorem dJx4a65c_fastRemove_b59b0_5 : decode cJx4a65c_fastRemove_b59b0 5 = .ok (.iconst 1, 1) := by decide +kernel
theorem dJx4a65c_fastRemove_b59b0_6 : decode cJx4a65c_fastRemove_b59b0 6 = .ok (.iadd, 1) := by decide +kernel
theorem dJx4a65c_fastRemove_b59b0_7 : decode cJx4a65c_fastRemove_b59b0 7 = .ok (.putfield 63, 3) := by decide +kernel
theorem dJx4a65c_fastRemove_b59b0_10 : decode cJx4a65c_fastRemove_b59b0 10 = .ok (.aload_n 0, 1) := by decide +kernel
theorem dJx4a65c_fastRemove_b59b0_11 : decode cJx4a65c_fastRemove_b59b0 11 = .ok (.getfield 48, 3) := by decide +kernel
theorem dJx4a65c_fastRemove_b59b0_14 : decode cJx4a65c_fastRemove_b59b0 14 = .ok (.iconst 1, 1) := by decide +kernel
theorem dJx4a65c_fastRemove_b59b0_15 : decode cJx4a65c_fastRemove_b59b0 15 = .ok (.isub, 1) := by decide +kernel
theorem dJx4a65c_fastRemove_b59b0_16 : decode cJx4a65c_fastRemove_b59b0 16 = .ok (.dup, 1) := by decide +kernel
theorem dJx4a65c_fastRemove_b59b0_17 : decode cJx4a65c_fastRemove_b59b0 17 = .ok (.istore_n 3, 1) := by decide +kernel
theorem dJx4a65c_fastRemove_b59b0_18 : decode cJx4a65c_fastRemove_b59b0 18 = .ok (.iload_n 2, 1) := by decide +kernel
theorem dJx4a65c_fastRemove_b59b0_19 : decode cJx4a65c_fastRemove_b59b0 19 = .ok (.if_icmp .le 15, 3) := by decide +kernel
theorem dJx4a65c_fastRemove_b59b0_22 : decode cJx4a65c_fastRemove_b59b0 22 = .ok (.aload_n 1, 1) := by decide +kernel
theorem dJx4a65c_fastRemove_b59b0_23 : decode cJx4a65c_fastRemove_b59b0 23 = .ok (.iload_n 2, 1) := by decide +kernel
theorem dJx4a65c_fastRemove_b59b0_24 : decode cJx4a65c_fastRemove_b59b0 24 = .ok (.iconst 1, 1) := by decide +kernel
theorem dJx4a65c_fastRemove_b59b0_25 : decode cJx4a65c_fastRemove_b59b0 25 = .ok (.iadd, 1) := by decide +kernel
theorem dJx4a65c_fastRemove_b59b0_26 : decode cJx4a65c_fastRemove_b59b0 26 = .ok (.aload_n 1, 1) := by decide +kernel
theorem dJx4a65c_fastRemove_b59b0_27 : decode cJx4a65c_fastRemove_b59b0 27 = .ok (.iload_n 2, 1) := by decide +kernel
theorem dJx4a65c_fastRemove_b59b0_28 : decode cJx4a65c_fastRemove_b59b0 28 = .ok (.iload_n 3, 1) := by decide +kernel
theorem dJx4a65c_fastRemove_b59b0_29 : decode cJx4a65c_fastRemove_b59b0 29 = .ok (.iload_n 2, 1) := by decide +kernel
theorem dJx4a65c_fastRemove_b59b0_30 : decode cJx4a65c_fastRemove_b59b0 30 = .ok (.isub, 1) := by decide +kernel
theorem dJx4a65c_fastRemove_b59b0_31 : decode cJx4a65c_fastRemove_b59b0 31 = .ok (.invokestatic 112, 3) := by decide +kernel
theorem dJx4a65c_fastRemove_b59b0_34 : decode cJx4a65c_fastRemove_b59b0 34 = .ok (.aload_n 1, 1) := by decide +kernel
theorem dJx4a65c_fastRemove_b59b0_35 : decode cJx4a65c_fastRemove_b59b0 35 = .ok (.aload_n 0, 1) := by decide +kernel
theorem dJx4a65c_fastRemove_b59b0_36 : decode cJx4a65c_fastRemove_b59b0 36 = .ok (.iload_n 3, 1) := by decide +kernel
theorem dJx4a65c_fastRemove_b59b0_37 : decode cJx4a65c_fastRemove_b59b0 37 = .ok (.dup_x1, 1) := by decide +kernel
theorem dJx4a65c_fastRemove_b59b0_38 : decode cJx4a65c_fastRemove_b59b0 38 = .ok (.putfield 48, 3) := by decide +kernel
theorem dJx4a65c_fastRemove_b59b0_41 : decode cJx4a65c_fastRemove_b59b0 41 = .ok (.aconst_null, 1) := by decide +kernel
theorem dJx4a65c_fastRemove_b59b0_42 : decode cJx4a65c_fastRemove_b59b0 42 = .ok (.aastore, 1) := by decide +kernel
theorem dJx4a65c_fastRemove_b59b0_43 : decode cJx4a65c_fastRemove_b59b0 43 = .ok (.return_, 1) := by decide +kernel
theorem dJ7_fill_53178_0 : decode cJ7_fill_53178 0 = .ok (.iconst 0, 1) := by decide +kernel
theorem dJ7_fill_53178_1 : decode cJ7_fill_53178 1 = .ok (.istore_n 2, 1) := by decide +kernel
theorem dJ7_fill_53178_2 : decode cJ7_fill_53178 2 = .ok (.aload_n 0, 1) := by decide +kernel
theorem dJ7_fill_53178_3 : decode cJ7_fill_53178 3 = .ok (.arraylength, 1) := by decide +kernel
theorem dJ7_fill_53178_4 : decode cJ7_fill_53178 4 = .ok (.istore_n 3, 1) := by decide +kernel
theorem dJ7_fill_53178_5 : decode cJ7_fill_53178 5 = .ok (.iload_n 2, 1) := by decide +kernel
theorem dJ7_fill_53178_6 : decode cJ7_fill_53178 6 = .ok (.iload_n 3, 1) := by decide +kernel
theorem dJ7_fill_53178_7 : decode cJ7_fill_53178 7 = .ok (.if_icmp .ge 13, 3) := by decide +kernel
theorem dJ7_fill_53178_10 : decode cJ7_fill_53178 10 = .ok (.aload_n 0, 1) := by decide +kernel
theorem dJ7_fill_53178_11 : decode cJ7_fill_53178 11 = .ok (.iload_n 2, 1) := by decide +kernel
theorem dJ7_fill_53178_12 : decode cJ7_fill_53178 12 = .ok (.iload_n 1, 1) := by decide +kernel
theorem dJ7_fill_53178_13 : decode cJ7_fill_53178 13 = .ok (.iastore, 1) := by decide +kernel
theorem dJ7_fill_53178_14 : decode cJ7_fill_53178 14 = .ok (.iinc 2 1, 3) := by decide +kernel
theorem dJ7_fill_53178_17 : decode cJ7_fill_53178 17 = .ok (.goto (-12), 3) := by decide +kernel
theorem dJ7_fill_53178_20 : decode cJ7_fill_53178 20 = .ok (.return_, 1) := by decide +kernel
theorem dJ7_copyOf_1904c_0 : decode cJ7_copyOf_1904c 0 = .ok (.aload_n 0, 1) := by decide +kernel
theorem dJ7_copyOf_1904c_1 : decode cJ7_copyOf_1904c 1 = .ok (.iload_n 1, 1) := by decide +kernel
theorem dJ7_copyOf_1904c_2 : decode cJ7_copyOf_1904c 2 = .ok (.aload_n 0, 1) := by decide +kernel
theorem dJ7_copyOf_1904c_3 : decode cJ7_copyOf_1904c 3 = .ok (.invokevirtual 86, 3) := by decide +kernel
theorem dJ7_copyOf_1904c_6 : decode cJ7_copyOf_1904c 6 = .ok (.invokestatic 300, 3) := by decide +kernel
theorem dJ7_copyOf_1904c_9 : decode cJ7_copyOf_1904c 9 = .ok (.areturn, 1) := by decide +kernel
theorem dJ7_copyOf_6403c_0 : decode cJ7_copyOf_6403c 0 = .ok (.aload_n 2, 1) := by decide +kernel
theorem dJ7_copyOf_6403c_1 : decode cJ7_copyOf_6403c 1 = .ok (.ldc 110, 2) := by decide +kernel
theorem dJ7_copyOf_6403c_3 : decode cJ7_copyOf_6403c 3 = .ok (.if_acmp .ne 10, 3) := by decide +kernel
theorem dJ7_copyOf_6403c_6 : decode cJ7_copyOf_6403c 6 = .ok (.iload_n 1, 1) := by decide +kernel
theorem dJ7_copyOf_6403c_7 : decode cJ7_copyOf_6403c 7 = .ok (.anewarray 2, 3) := by decide +kernel
theorem dJ7_copyOf_6403c_10 : decode cJ7_copyOf_6403c 10 = .ok (.goto 14, 3) := by decide +kernel
theorem dJ7_copyOf_6403c_13 : decode cJ7_copyOf_6403c 13 = .ok (.aload_n 2, 1) := by decide +kernel
theorem dJ7_copyOf_6403c_14 : decode cJ7_copyOf_6403c 14 = .ok (.invokevirtual 90, 3) := by decide +kernel
theorem dJ7_copyOf_6403c_17 : decode cJ7_copyOf_6403c 17 = .ok (.iload_n 1, 1) := by decide +kernel
theorem dJ7_copyOf_6403c_18 : decode cJ7_copyOf_6403c 18 = .ok (.invokestatic 95, 3) := by decide +kernel
theorem dJ7_copyOf_6403c_21 : decode cJ7_copyOf_6403c 21 = .ok (.checkcast 110, 3) := by decide +kernel
theorem dJ7_copyOf_6403c_24 : decode cJ7_copyOf_6403c 24 = .ok (.astore_n 3, 1) := by decide +kernel
theorem dJ7_copyOf_6403c_25 : decode cJ7_copyOf_6403c 25 = .ok (.aload_n 0, 1) := by decide +kernel
theorem dJ7_copyOf_6403c_26 : decode cJ7_copyOf_6403c 26 = .ok (.iconst 0, 1) := by decide +kernel
theorem dJ7_copyOf_6403c_27 : decode cJ7_copyOf_6403c 27 = .ok (.aload_n 3, 1) := by decide +kernel
theorem dJ7_copyOf_6403c_28 : decode cJ7_copyOf_6403c 28 = .ok (.iconst 0, 1) := by decide +kernel
theorem dJ7_copyOf_6403c_29 : decode cJ7_copyOf_6403c 29 = .ok (.aload_n 0, 1) := by decide +kernel
theorem dJ7_copyOf_6403c_30 : decode cJ7_copyOf_6403c 30 = .ok (.arraylength, 1) := by decide +kernel
theorem dJ7_copyOf_6403c_31 : decode cJ7_copyOf_6403c 31 = .ok (.iload_n 1, 1) := by decide +kernel
theorem dJ7_copyOf_6403c_32 : decode cJ7_copyOf_6403c 32 = .ok (.invokestatic 304, 3) := by decide +kernel
theorem dJ7_copyOf_6403c_35 : decode cJ7_copyOf_6403c 35 = .ok (.invokestatic 150, 3) := by decide +kernel
theorem dJ7_copyOf_6403c_38 : decode cJ7_copyOf_6403c 38 = .ok (.aload_n 3, 1) := by decide +kernel
theorem dJ7_copyOf_6403c_39 : decode cJ7_copyOf_6403c 39 = .ok (.areturn, 1) := by decide +kernel
theorem dJ7_copyOf_9075b_0 : decode cJ7_copyOf_9075b 0 = .ok (.iload_n 1, 1) := by decide +kernel
theorem dJ7_copyOf_9075b_1 : decode cJ7_copyOf_9075b 1 = .ok (.aload_n 0, 1) := by decide +kernel
theorem dJ7_copyOf_9075b_2 : decode cJ7_copyOf_9075b 2 = .ok (.arraylength, 1) := by decide +kernel
theorem dJ7_copyOf_9075b_3 : decode cJ7_copyOf_9075b 3 = .ok (.if_icmp .ne 11, 3) := by decide +kernel
theorem dJ7_copyOf_9075b_6 : decode cJ7_copyOf_9075b 6 = .ok (.aload_n 0, 1) := by decide +kernel
theorem dJ7_copyOf_9075b_7 : decode cJ7_copyOf_9075b 7 = .ok (.invokevirtual 310, 3) := by decide +kernel
theorem dJ7_copyOf_9075b_10 : decode cJ7_copyOf_9075b 10 = .ok (.checkcast 311, 3) := by decide +kernel
theorem dJ7_copyOf_9075b_13 : decode cJ7_copyOf_9075b 13 = .ok (.areturn, 1) := by decide +kernel
theorem dJ7_copyOf_9075b_14 : decode cJ7_copyOf_9075b 14 = .ok (.iload_n 1, 1) := by decide +kernel
theorem dJ7_copyOf_9075b_15 : decode cJ7_copyOf_9075b 15 = .ok (.newarray .byte, 2) := by decide +kernel
theorem dJ7_copyOf_9075b_17 : decode cJ7_copyOf_9075b 17 = .ok (.astore_n 2, 1) := by decide +kernel
theorem dJ7_copyOf_9075b_18 : decode cJ7_copyOf_9075b 18 = .ok (.aload_n 0, 1) := by decide +kernel
theorem dJ7_copyOf_9075b_19 : decode cJ7_copyOf_9075b 19 = .ok (.iconst 0, 1) := by decide +kernel
theorem dJ7_copyOf_9075b_20 : decode cJ7_copyOf_9075b 20 = .ok (.aload_n 2, 1) := by decide +kernel
theorem dJ7_copyOf_9075b_21 : decode cJ7_copyOf_9075b 21 = .ok (.iconst 0, 1) := by decide +kernel
theorem dJ7_copyOf_9075b_22 : decode cJ7_copyOf_9075b 22 = .ok (.aload_n 0, 1) := by decide +kernel
theorem dJ7_copyOf_9075b_23 : decode cJ7_copyOf_9075b 23 = .ok (.arraylength, 1) := by decide +kernel
theorem dJ7_copyOf_9075b_24 : decode cJ7_copyOf_9075b 24 = .ok (.iload_n 1, 1) := by decide +kernel
theorem dJ7_copyOf_9075b_25 : decode cJ7_copyOf_9075b 25 = .ok (.invokestatic 304, 3) := by decide +kernel
theorem dJ7_copyOf_9075b_28 : decode cJ7_copyOf_9075b 28 = .ok (.invokestatic 150, 3) := by decide +kernel
theorem dJ7_copyOf_9075b_31 : decode cJ7_copyOf_9075b 31 = .ok (.aload_n 2, 1) := by decide +kernel
theorem dJ7_copyOf_9075b_32 : decode cJ7_copyOf_9075b 32 = .ok (.areturn, 1) := by decide +kernel
theorem dJ15_checkIndex_7cf53_0 : decode cJ15_checkIndex_7cf53 0 = .ok (.iload_n 0, 1) := by decide +kernel
theorem dJ15_checkIndex_7cf53_1 : decode cJ15_checkIndex_7cf53 1 = .ok (.iload_n 1, 1) := by decide +kernel
theorem dJ15_checkIndex_7cf53_2 : decode cJ15_checkIndex_7cf53 2 = .ok (.aconst_null, 1) := by decide +kernel
theorem dJ15_checkIndex_7cf53_3 : decode cJ15_checkIndex_7cf53 3 = .ok (.invokestatic 105, 3) := by decide +kernel
theorem dJ15_checkIndex_7cf53_6 : decode cJ15_checkIndex_7cf53 6 = .ok (.ireturn, 1) := by decide +kernel
theorem dJ8_newLength_cabcc_0 : decode cJ8_newLength_cabcc 0 = .ok (.iload_n 0, 1) := by decide +kernel
theorem dJ8_newLength_cabcc_1 : decode cJ8_newLength_cabcc 1 = .ok (.iload_n 1, 1) := by decide +kernel
theorem dJ8_newLength_cabcc_2 : decode cJ8_newLength_cabcc 2 = .ok (.iload_n 2, 1) := by decide +kernel
theorem dJ8_newLength_cabcc_3 : decode cJ8_newLength_cabcc 3 = .ok (.invokestatic 194, 3) := by decide +kernel
theorem dJ8_newLength_cabcc_6 : decode cJ8_newLength_cabcc 6 = .ok (.iadd, 1) := by decide +kernel
theorem dJ8_newLength_cabcc_7 : decode cJ8_newLength_cabcc 7 = .ok (.istore_n 3, 1) := by decide +kernel
theorem dJ8_newLength_cabcc_8 : decode cJ8_newLength_cabcc 8 = .ok (.iconst 0, 1) := by decide +kernel
theorem dJ8_newLength_cabcc_9 : decode cJ8_newLength_cabcc 9 = .ok (.iload_n 3, 1) := by decide +kernel
theorem dJ8_newLength_cabcc_10 : decode cJ8_newLength_cabcc 10 = .ok (.if_icmp .ge 11, 3) := by decide +kernel
theorem dJ8_newLength_cabcc_13 : decode cJ8_newLength_cabcc 13 = .ok (.iload_n 3, 1) := by decide +kernel
theorem dJ8_newLength_cabcc_14 : decode cJ8_newLength_cabcc 14 = .ok (.ldc 200, 2) := by decide +kernel
theorem dJ8_newLength_cabcc_16 : decode cJ8_newLength_cabcc 16 = .ok (.if_icmp .gt 5, 3) := by decide +kernel
theorem dJ8_newLength_cabcc_19 : decode cJ8_newLength_cabcc 19 = .ok (.iload_n 3, 1) := by decide +kernel
theorem dJ8_newLength_cabcc_20 : decode cJ8_newLength_cabcc 20 = .ok (.ireturn, 1) := by decide +kernel
theorem dJ8_newLength_cabcc_21 : decode cJ8_newLength_cabcc 21 = .ok (.iload_n 0, 1) := by decide +kernel
theorem dJ8_newLength_cabcc_22 : decode cJ8_newLength_cabcc 22 = .ok (.iload_n 1, 1) := by decide +kernel
theorem dJ8_newLength_cabcc_23 : decode cJ8_newLength_cabcc 23 = .ok (.invokestatic 201, 3) := by decide +kernel
theorem dJ8_newLength_cabcc_26 : decode cJ8_newLength_cabcc 26 = .ok (.ireturn, 1) := by decide +kernel
theorem dJ8_hugeLength_7cf53_0 : decode cJ8_hugeLength_7cf53 0 = .ok (.iload_n 0, 1) := by decide +kernel
theorem dJ8_hugeLength_7cf53_1 : decode cJ8_hugeLength_7cf53 1 = .ok (.iload_n 1, 1) := by decide +kernel
theorem dJ8_hugeLength_7cf53_2 : decode cJ8_hugeLength_7cf53 2 = .ok (.iadd, 1) := by decide +kernel
theorem dJ8_hugeLength_7cf53_3 : decode cJ8_hugeLength_7cf53 3 = .ok (.istore_n 2, 1) := by decide +kernel
theorem dJ8_hugeLength_7cf53_4 : decode cJ8_hugeLength_7cf53 4 = .ok (.iload_n 2, 1) := by decide +kernel
theorem dJ8_hugeLength_7cf53_5 : decode cJ8_hugeLength_7cf53 5 = .ok (.ifCond .ge 44, 3) := by decide +kernel
theorem dJ8_hugeLength_7cf53_8 : decode cJ8_hugeLength_7cf53 8 = .ok (.new 204, 3) := by decide +kernel
theorem dJ8_hugeLength_7cf53_11 : decode cJ8_hugeLength_7cf53 11 = .ok (.dup, 1) := by decide +kernel
theorem dJ8_hugeLength_7cf53_12 : decode cJ8_hugeLength_7cf53 12 = .ok (.new 89, 3) := by decide +kernel
theorem dJ8_hugeLength_7cf53_15 : decode cJ8_hugeLength_7cf53 15 = .ok (.dup, 1) := by decide +kernel
theorem dJ8_hugeLength_7cf53_16 : decode cJ8_hugeLength_7cf53 16 = .ok (.invokespecial 91, 3) := by decide +kernel
theorem dJ8_hugeLength_7cf53_19 : decode cJ8_hugeLength_7cf53 19 = .ok (.ldc 206, 2) := by decide +kernel
theorem dJ8_hugeLength_7cf53_21 : decode cJ8_hugeLength_7cf53 21 = .ok (.invokevirtual 94, 3) := by decide +kernel
theorem dJ8_hugeLength_7cf53_24 : decode cJ8_hugeLength_7cf53 24 = .ok (.iload_n 0, 1) := by decide +kernel
theorem dJ8_hugeLength_7cf53_25 : decode cJ8_hugeLength_7cf53 25 = .ok (.invokevirtual 98, 3) := by decide +kernel
theorem dJ8_hugeLength_7cf53_28 : decode cJ8_hugeLength_7cf53 28 = .ok (.ldc 208, 2) := by decide +kernel
theorem dJ8_hugeLength_7cf53_30 : decode cJ8_hugeLength_7cf53 30 = .ok (.invokevirtual 94, 3) := by decide +kernel
theorem dJ8_hugeLength_7cf53_33 : decode cJ8_hugeLength_7cf53 33 = .ok (.iload_n 1, 1) := by decide +kernel
theorem dJ8_hugeLength_7cf53_34 : decode cJ8_hugeLength_7cf53 34 = .ok (.invokevirtual 98, 3) := by decide +kernel
theorem dJ8_hugeLength_7cf53_37 : decode cJ8_hugeLength_7cf53 37 = .ok (.ldc 210, 2) := by decide +kernel
theorem dJ8_hugeLength_7cf53_39 : decode cJ8_hugeLength_7cf53 39 = .ok (.invokevirtual 94, 3) := by decide +kernel
theorem dJ8_hugeLength_7cf53_42 : decode cJ8_hugeLength_7cf53 42 = .ok (.invokevirtual 101, 3) := by decide +kernel
theorem dJ8_hugeLength_7cf53_45 : decode cJ8_hugeLength_7cf53 45 = .ok (.invokespecial 212, 3) := by decide +kernel
theorem dJ8_hugeLength_7cf53_48 : decode cJ8_hugeLength_7cf53 48 = .ok (.athrow, 1) := by decide +kernel
theorem dJ8_hugeLength_7cf53_49 : decode cJ8_hugeLength_7cf53 49 = .ok (.iload_n 2, 1) := by decide +kernel
theorem dJ8_hugeLength_7cf53_50 : decode cJ8_hugeLength_7cf53 50 = .ok (.ldc 200, 2) := by decide +kernel
theorem dJ8_hugeLength_7cf53_52 : decode cJ8_hugeLength_7cf53 52 = .ok (.if_icmp .gt 6, 3) := by decide +kernel
theorem dJ8_hugeLength_7cf53_55 : decode cJ8_hugeLength_7cf53 55 = .ok (.ldc 200, 2) := by decide +kernel
theorem dJ8_hugeLength_7cf53_57 : decode cJ8_hugeLength_7cf53 57 = .ok (.ireturn, 1) := by decide +kernel
theorem dJ8_hugeLength_7cf53_58 : decode cJ8_hugeLength_7cf53 58 = .ok (.iload_n 2, 1) := by decide +kernel
theorem dJ8_hugeLength_7cf53_59 : decode cJ8_hugeLength_7cf53 59 = .ok (.ireturn, 1) := by decide +kernel
theorem dJ3_checkIndex_8e157_0 : decode cJ3_checkIndex_8e157 0 = .ok (.iload_n 0, 1) := by decide +kernel
theorem dJ3_checkIndex_8e157_1 : decode cJ3_checkIndex_8e157 1 = .ok (.ifCond .lt 8, 3) := by decide +kernel
theorem dJ3_checkIndex_8e157_4 : decode cJ3_checkIndex_8e157 4 = .ok (.iload_n 0, 1) := by decide +kernel
theorem dJ3_checkIndex_8e157_5 : decode cJ3_checkIndex_8e157 5 = .ok (.iload_n 1, 1) := by decide +kernel
theorem dJ3_checkIndex_8e157_6 : decode cJ3_checkIndex_8e157 6 = .ok (.if_icmp .lt 10, 3) := by decide +kernel
theorem dJ3_checkIndex_8e157_9 : decode cJ3_checkIndex_8e157 9 = .ok (.aload_n 2, 1) := by decide +kernel
theorem dJ3_checkIndex_8e157_10 : decode cJ3_checkIndex_8e157 10 = .ok (.iload_n 0, 1) := by decide +kernel
theorem dJ3_checkIndex_8e157_11 : decode cJ3_checkIndex_8e157 11 = .ok (.iload_n 1, 1) := by decide +kernel
theorem dJ3_checkIndex_8e157_12 : decode cJ3_checkIndex_8e157 12 = .ok (.invokestatic 95, 3) := by decide +kernel
theorem dJ3_checkIndex_8e157_15 : decode cJ3_checkIndex_8e157 15 = .ok (.athrow, 1) := by decide +kernel
theorem dJ3_checkIndex_8e157_16 : decode cJ3_checkIndex_8e157 16 = .ok (.iload_n 0, 1) := by decide +kernel
theorem dJ3_checkIndex_8e157_17 : decode cJ3_checkIndex_8e157 17 = .ok (.ireturn, 1) := by decide +kernel
theorem dL_cell_0 : decode cL_cell 0 = .ok (.iload_n 1, 1) := by decide +kernel
theorem dL_cell_1 : decode cL_cell 1 = .ok (.aload_n 0, 1) := by decide +kernel
theorem dL_cell_2 : decode cL_cell 2 = .ok (.arraylength, 1) := by decide +kernel
theorem dL_cell_3 : decode cL_cell 3 = .ok (.if_icmp .ge 9, 3) := by decide +kernel
theorem dL_cell_6 : decode cL_cell 6 = .ok (.aload_n 0, 1) := by decide +kernel
theorem dL_cell_7 : decode cL_cell 7 = .ok (.iload_n 1, 1) := by decide +kernel
theorem dL_cell_8 : decode cL_cell 8 = .ok (.iaload, 1) := by decide +kernel
theorem dL_cell_9 : decode cL_cell 9 = .ok (.goto 4, 3) := by decide +kernel
theorem dL_cell_12 : decode cL_cell 12 = .ok (.iconst 0, 1) := by decide +kernel
theorem dL_cell_13 : decode cL_cell 13 = .ok (.ireturn, 1) := by decide +kernel
theorem dL_take_0 : decode cL_take 0 = .ok (.aload_n 2, 1) := by decide +kernel
theorem dL_take_1 : decode cL_take 1 = .ok (.iconst 0, 1) := by decide +kernel
theorem dL_take_2 : decode cL_take 2 = .ok (.aload_n 0, 1) := by decide +kernel
theorem dL_take_3 : decode cL_take 3 = .ok (.iload_n 1, 1) := by decide +kernel
theorem dL_take_4 : decode cL_take 4 = .ok (.invokevirtual 7, 3) := by decide +kernel
theorem dL_take_7 : decode cL_take 7 = .ok (.i2l, 1) := by decide +kernel
theorem dL_take_8 : decode cL_take 8 = .ok (.lastore, 1) := by decide +kernel
theorem dL_take_9 : decode cL_take 9 = .ok (.goto 9, 3) := by decide +kernel
theorem dL_take_12 : decode cL_take 12 = .ok (.astore_n 3, 1) := by decide +kernel
theorem dL_take_13 : decode cL_take 13 = .ok (.iconst 1, 1) := by decide +kernel
theorem dL_take_14 : decode cL_take 14 = .ok (.ireturn, 1) := by decide +kernel
theorem dL_take_15 : decode cL_take 15 = .ok (.astore_n 3, 1) := by decide +kernel
theorem dL_take_16 : decode cL_take 16 = .ok (.iconst 2, 1) := by decide +kernel
theorem dL_take_17 : decode cL_take 17 = .ok (.ireturn, 1) := by decide +kernel
theorem dL_take_18 : decode cL_take 18 = .ok (.iconst 0, 1) := by decide +kernel
theorem dL_take_19 : decode cL_take 19 = .ok (.ireturn, 1) := by decide +kernel
theorem dL_poll_0 : decode cL_poll 0 = .ok (.aload_n 1, 1) := by decide +kernel
theorem dL_poll_1 : decode cL_poll 1 = .ok (.iconst 0, 1) := by decide +kernel
theorem dL_poll_2 : decode cL_poll 2 = .ok (.aload_n 0, 1) := by decide +kernel
theorem dL_poll_3 : decode cL_poll 3 = .ok (.invokevirtual 17, 3) := by decide +kernel
theorem dL_poll_6 : decode cL_poll 6 = .ok (.i2l, 1) := by decide +kernel
theorem dL_poll_7 : decode cL_poll 7 = .ok (.lastore, 1) := by decide +kernel
theorem dL_poll_8 : decode cL_poll 8 = .ok (.goto 9, 3) := by decide +kernel
theorem dL_poll_11 : decode cL_poll 11 = .ok (.astore_n 2, 1) := by decide +kernel
theorem dL_poll_12 : decode cL_poll 12 = .ok (.iconst 1, 1) := by decide +kernel
theorem dL_poll_13 : decode cL_poll 13 = .ok (.ireturn, 1) := by decide +kernel
theorem dL_poll_14 : decode cL_poll 14 = .ok (.astore_n 2, 1) := by decide +kernel
theorem dL_poll_15 : decode cL_poll 15 = .ok (.iconst 2, 1) := by decide +kernel
theorem dL_poll_16 : decode cL_poll 16 = .ok (.ireturn, 1) := by decide +kernel
theorem dL_poll_17 : decode cL_poll 17 = .ok (.iconst 0, 1) := by decide +kernel
theorem dL_poll_18 : decode cL_poll 18 = .ok (.ireturn, 1) := by decide +kernel
theorem dL_sampled_0 : decode cL_sampled 0 = .ok (.aload_n 3, 1) := by decide +kernel
theorem dL_sampled_1 : decode cL_sampled 1 = .ok (.iconst 0, 1) := by decide +kernel
theorem dL_sampled_2 : decode cL_sampled 2 = .ok (.aload_n 0, 1) := by decide +kernel
theorem dL_sampled_3 : decode cL_sampled 3 = .ok (.iload_n 1, 1) := by decide +kernel
theorem dL_sampled_4 : decode cL_sampled 4 = .ok (.iload_n 2, 1) := by decide +kernel
theorem dL_sampled_5 : decode cL_sampled 5 = .ok (.invokevirtual 23, 3) := by decide +kernel
theorem dL_sampled_8 : decode cL_sampled 8 = .ok (.i2l, 1) := by decide +kernel
theorem dL_sampled_9 : decode cL_sampled 9 = .ok (.lastore, 1) := by decide +kernel
theorem dL_sampled_10 : decode cL_sampled 10 = .ok (.goto 7, 3) := by decide +kernel
theorem dL_sampled_13 : decode cL_sampled 13 = .ok (.astore 4, 2) := by decide +kernel
theorem dL_sampled_15 : decode cL_sampled 15 = .ok (.iconst 1, 1) := by decide +kernel
theorem dL_sampled_16 : decode cL_sampled 16 = .ok (.ireturn, 1) := by decide +kernel
theorem dL_sampled_17 : decode cL_sampled 17 = .ok (.iconst 0, 1) := by decide +kernel
theorem dL_sampled_18 : decode cL_sampled 18 = .ok (.ireturn, 1) := by decide +kernel
theorem dL_answer_0 : decode cL_answer 0 = .ok (.aload 4, 2) := by decide +kernel
theorem dL_answer_2 : decode cL_answer 2 = .ok (.iconst 0, 1) := by decide +kernel
theorem dL_answer_3 : decode cL_answer 3 = .ok (.aload_n 0, 1) := by decide +kernel
theorem dL_answer_4 : decode cL_answer 4 = .ok (.iload_n 1, 1) := by decide +kernel
theorem dL_answer_5 : decode cL_answer 5 = .ok (.iload_n 2, 1) := by decide +kernel
theorem dL_answer_6 : decode cL_answer 6 = .ok (.iload_n 3, 1) := by decide +kernel
theorem dL_answer_7 : decode cL_answer 7 = .ok (.invokevirtual 29, 3) := by decide +kernel
theorem dL_answer_10 : decode cL_answer 10 = .ok (.i2l, 1) := by decide +kernel
theorem dL_answer_11 : decode cL_answer 11 = .ok (.lastore, 1) := by decide +kernel
theorem dL_answer_12 : decode cL_answer 12 = .ok (.goto 11, 3) := by decide +kernel
theorem dL_answer_15 : decode cL_answer 15 = .ok (.astore 5, 2) := by decide +kernel
theorem dL_answer_17 : decode cL_answer 17 = .ok (.iconst 1, 1) := by decide +kernel
theorem dL_answer_18 : decode cL_answer 18 = .ok (.ireturn, 1) := by decide +kernel
theorem dL_answer_19 : decode cL_answer 19 = .ok (.astore 5, 2) := by decide +kernel
theorem dL_answer_21 : decode cL_answer 21 = .ok (.iconst 2, 1) := by decide +kernel
theorem dL_answer_22 : decode cL_answer 22 = .ok (.ireturn, 1) := by decide +kernel
theorem dL_answer_23 : decode cL_answer 23 = .ok (.iconst 0, 1) := by decide +kernel
theorem dL_answer_24 : decode cL_answer 24 = .ok (.ireturn, 1) := by decide +kernel
theorem dL_look_0 : decode cL_look 0 = .ok (.aload_n 3, 1) := by decide +kernel
theorem dL_look_1 : decode cL_look 1 = .ok (.iconst 0, 1) := by decide +kernel
theorem dL_look_2 : decode cL_look 2 = .ok (.aload_n 0, 1) := by decide +kernel
theorem dL_look_3 : decode cL_look 3 = .ok (.iload_n 1, 1) := by decide +kernel
theorem dL_look_4 : decode cL_look 4 = .ok (.iload_n 2, 1) := by decide +kernel
theorem dL_look_5 : decode cL_look 5 = .ok (.invokevirtual 33, 3) := by decide +kernel
theorem dL_look_8 : decode cL_look 8 = .ok (.i2l, 1) := by decide +kernel
theorem dL_look_9 : decode cL_look 9 = .ok (.lastore, 1) := by decide +kernel
theorem dL_look_10 : decode cL_look 10 = .ok (.goto 7, 3) := by decide +kernel
theorem dL_look_13 : decode cL_look 13 = .ok (.astore 4, 2) := by decide +kernel
theorem dL_look_15 : decode cL_look 15 = .ok (.iconst 1, 1) := by decide +kernel
theorem dL_look_16 : decode cL_look 16 = .ok (.ireturn, 1) := by decide +kernel
theorem dL_look_17 : decode cL_look 17 = .ok (.iconst 0, 1) := by decide +kernel
theorem dL_look_18 : decode cL_look 18 = .ok (.ireturn, 1) := by decide +kernel
theorem dL_set_0 : decode cL_set 0 = .ok (.aload 4, 2) := by decide +kernel
theorem dL_set_2 : decode cL_set 2 = .ok (.iconst 0, 1) := by decide +kernel
theorem dL_set_3 : decode cL_set 3 = .ok (.aload_n 0, 1) := by decide +kernel
theorem dL_set_4 : decode cL_set 4 = .ok (.iload_n 1, 1) := by decide +kernel
theorem dL_set_5 : decode cL_set 5 = .ok (.iload_n 2, 1) := by decide +kernel
theorem dL_set_6 : decode cL_set 6 = .ok (.iload_n 3, 1) := by decide +kernel
theorem dL_set_7 : decode cL_set 7 = .ok (.invokevirtual 36, 3) := by decide +kernel
theorem dL_set_10 : decode cL_set 10 = .ok (.i2l, 1) := by decide +kernel
theorem dL_set_11 : decode cL_set 11 = .ok (.lastore, 1) := by decide +kernel
theorem dL_set_12 : decode cL_set 12 = .ok (.goto 7, 3) := by decide +kernel
theorem dL_set_15 : decode cL_set 15 = .ok (.astore 5, 2) := by decide +kernel
theorem dL_set_17 : decode cL_set 17 = .ok (.iconst 1, 1) := by decide +kernel
theorem dL_set_18 : decode cL_set 18 = .ok (.ireturn, 1) := by decide +kernel
theorem dL_set_19 : decode cL_set 19 = .ok (.iconst 0, 1) := by decide +kernel
theorem dL_set_20 : decode cL_set 20 = .ok (.ireturn, 1) := by decide +kernel
theorem dL_meet_0 : decode cL_meet 0 = .ok (.aload_n 3, 1) := by decide +kernel
theorem dL_meet_1 : decode cL_meet 1 = .ok (.iconst 0, 1) := by decide +kernel
theorem dL_meet_2 : decode cL_meet 2 = .ok (.aload_n 0, 1) := by decide +kernel
theorem dL_meet_3 : decode cL_meet 3 = .ok (.iload_n 1, 1) := by decide +kernel
theorem dL_meet_4 : decode cL_meet 4 = .ok (.iload_n 2, 1) := by decide +kernel
theorem dL_meet_5 : decode cL_meet 5 = .ok (.invokevirtual 40, 3) := by decide +kernel
theorem dL_meet_8 : decode cL_meet 8 = .ok (.i2l, 1) := by decide +kernel
theorem dL_meet_9 : decode cL_meet 9 = .ok (.lastore, 1) := by decide +kernel
theorem dL_meet_10 : decode cL_meet 10 = .ok (.goto 7, 3) := by decide +kernel
theorem dL_meet_13 : decode cL_meet 13 = .ok (.astore 4, 2) := by decide +kernel
theorem dL_meet_15 : decode cL_meet 15 = .ok (.iconst 1, 1) := by decide +kernel
theorem dL_meet_16 : decode cL_meet 16 = .ok (.ireturn, 1) := by decide +kernel
theorem dL_meet_17 : decode cL_meet 17 = .ok (.iconst 0, 1) := by decide +kernel
theorem dL_meet_18 : decode cL_meet 18 = .ok (.ireturn, 1) := by decide +kernel
theorem dL_votes_0 : decode cL_votes 0 = .ok (.aload_n 0, 1) := by decide +kernel
theorem dL_votes_1 : decode cL_votes 1 = .ok (.iload_n 1, 1) := by decide +kernel
theorem dL_votes_2 : decode cL_votes 2 = .ok (.iload_n 2, 1) := by decide +kernel
theorem dL_votes_3 : decode cL_votes 3 = .ok (.iload_n 3, 1) := by decide +kernel
theorem dL_votes_4 : decode cL_votes 4 = .ok (.invokevirtual 43, 3) := by decide +kernel
theorem dL_votes_7 : decode cL_votes 7 = .ok (.goto 11, 3) := by decide +kernel
theorem dL_votes_10 : decode cL_votes 10 = .ok (.astore 4, 2) := by decide +kernel
theorem dL_votes_12 : decode cL_votes 12 = .ok (.iconst 1, 1) := by decide +kernel
theorem dL_votes_13 : decode cL_votes 13 = .ok (.ireturn, 1) := by decide +kernel
theorem dL_votes_14 : decode cL_votes 14 = .ok (.astore 4, 2) := by decide +kernel
theorem dL_votes_16 : decode cL_votes 16 = .ok (.iconst 2, 1) := by decide +kernel
theorem dL_votes_17 : decode cL_votes 17 = .ok (.ireturn, 1) := by decide +kernel
theorem dL_votes_18 : decode cL_votes 18 = .ok (.iconst 0, 1) := by decide +kernel
theorem dL_votes_19 : decode cL_votes 19 = .ok (.ireturn, 1) := by decide +kernel
theorem dL_round_0 : decode cL_round 0 = .ok (.aload_n 2, 1) := by decide +kernel
theorem dL_round_1 : decode cL_round 1 = .ok (.iconst 0, 1) := by decide +kernel
theorem dL_round_2 : decode cL_round 2 = .ok (.aload_n 0, 1) := by decide +kernel
theorem dL_round_3 : decode cL_round 3 = .ok (.iload_n 1, 1) := by decide +kernel
theorem dL_round_4 : decode cL_round 4 = .ok (.invokevirtual 47, 3) := by decide +kernel
theorem dL_round_7 : decode cL_round 7 = .ok (.ifCond .eq 7, 3) := by decide +kernel
theorem dL_round_10 : decode cL_round 10 = .ok (.lconst 1, 1) := by decide +kernel
theorem dL_round_11 : decode cL_round 11 = .ok (.goto 4, 3) := by decide +kernel
theorem dL_round_14 : decode cL_round 14 = .ok (.lconst 0, 1) := by decide +kernel
theorem dL_round_15 : decode cL_round 15 = .ok (.lastore, 1) := by decide +kernel
theorem dL_round_16 : decode cL_round 16 = .ok (.goto 6, 3) := by decide +kernel
theorem dL_round_19 : decode cL_round 19 = .ok (.astore_n 3, 1) := by decide +kernel
theorem dL_round_20 : decode cL_round 20 = .ok (.iconst 1, 1) := by decide +kernel
theorem dL_round_21 : decode cL_round 21 = .ok (.ireturn, 1) := by decide +kernel
theorem dL_round_22 : decode cL_round 22 = .ok (.iconst 0, 1) := by decide +kernel
theorem dL_round_23 : decode cL_round 23 = .ok (.ireturn, 1) := by decide +kernel
theorem dL_law_0 : decode cL_law 0 = .ok (.new 8, 3) := by decide +kernel
theorem dL_law_3 : decode cL_law 3 = .ok (.dup, 1) := by decide +kernel
theorem dL_law_4 : decode cL_law 4 = .ok (.aload_n 0, 1) := by decide +kernel
theorem dL_law_5 : decode cL_law 5 = .ok (.iconst 0, 1) := by decide +kernel
theorem dL_law_6 : decode cL_law 6 = .ok (.invokestatic 51, 3) := by decide +kernel
theorem dL_law_9 : decode cL_law 9 = .ok (.aload_n 0, 1) := by decide +kernel
theorem dL_law_10 : decode cL_law 10 = .ok (.iconst 1, 1) := by decide +kernel
theorem dL_law_11 : decode cL_law 11 = .ok (.invokestatic 51, 3) := by decide +kernel
theorem dL_law_14 : decode cL_law 14 = .ok (.aload_n 0, 1) := by decide +kernel
theorem dL_law_15 : decode cL_law 15 = .ok (.iconst 2, 1) := by decide +kernel
theorem dL_law_16 : decode cL_law 16 = .ok (.invokestatic 51, 3) := by decide +kernel
theorem dL_law_19 : decode cL_law 19 = .ok (.aload_n 0, 1) := by decide +kernel
theorem dL_law_20 : decode cL_law 20 = .ok (.iconst 3, 1) := by decide +kernel
theorem dL_law_21 : decode cL_law 21 = .ok (.invokestatic 51, 3) := by decide +kernel
theorem dL_law_24 : decode cL_law 24 = .ok (.aload_n 0, 1) := by decide +kernel
theorem dL_law_25 : decode cL_law 25 = .ok (.iconst 4, 1) := by decide +kernel
theorem dL_law_26 : decode cL_law 26 = .ok (.invokestatic 51, 3) := by decide +kernel
theorem dL_law_29 : decode cL_law 29 = .ok (.invokespecial 57, 3) := by decide +kernel
theorem dL_law_32 : decode cL_law 32 = .ok (.astore_n 1, 1) := by decide +kernel
theorem dL_law_33 : decode cL_law 33 = .ok (.new 60, 3) := by decide +kernel
theorem dL_law_36 : decode cL_law 36 = .ok (.dup, 1) := by decide +kernel
theorem dL_law_37 : decode cL_law 37 = .ok (.aload_n 0, 1) := by decide +kernel
theorem dL_law_38 : decode cL_law 38 = .ok (.iconst 0, 1) := by decide +kernel
theorem dL_law_39 : decode cL_law 39 = .ok (.invokestatic 51, 3) := by decide +kernel
theorem dL_law_42 : decode cL_law 42 = .ok (.aload_n 0, 1) := by decide +kernel
theorem dL_law_43 : decode cL_law 43 = .ok (.iconst 1, 1) := by decide +kernel
theorem dL_law_44 : decode cL_law 44 = .ok (.invokestatic 51, 3) := by decide +kernel
theorem dL_law_47 : decode cL_law 47 = .ok (.aload_n 0, 1) := by decide +kernel
theorem dL_law_48 : decode cL_law 48 = .ok (.iconst 2, 1) := by decide +kernel
theorem dL_law_49 : decode cL_law 49 = .ok (.invokestatic 51, 3) := by decide +kernel
theorem dL_law_52 : decode cL_law 52 = .ok (.aload_n 0, 1) := by decide +kernel
theorem dL_law_53 : decode cL_law 53 = .ok (.iconst 3, 1) := by decide +kernel
theorem dL_law_54 : decode cL_law 54 = .ok (.invokestatic 51, 3) := by decide +kernel
theorem dL_law_57 : decode cL_law 57 = .ok (.aload_n 0, 1) := by decide +kernel
theorem dL_law_58 : decode cL_law 58 = .ok (.iconst 4, 1) := by decide +kernel
theorem dL_law_59 : decode cL_law 59 = .ok (.invokestatic 51, 3) := by decide +kernel
theorem dL_law_62 : decode cL_law 62 = .ok (.invokespecial 62, 3) := by decide +kernel
theorem dL_law_65 : decode cL_law 65 = .ok (.astore_n 2, 1) := by decide +kernel
theorem dL_law_66 : decode cL_law 66 = .ok (.iconst 1, 1) := by decide +kernel
theorem dL_law_67 : decode cL_law 67 = .ok (.newarray .long, 2) := by decide +kernel
theorem dL_law_69 : decode cL_law 69 = .ok (.astore_n 3, 1) := by decide +kernel
theorem dL_law_70 : decode cL_law 70 = .ok (.iconst 5, 1) := by decide +kernel
theorem dL_law_71 : decode cL_law 71 = .ok (.istore 4, 2) := by decide +kernel
theorem dL_law_73 : decode cL_law 73 = .ok (.iload 4, 2) := by decide +kernel
theorem dL_law_75 : decode cL_law 75 = .ok (.aload_n 0, 1) := by decide +kernel
theorem dL_law_76 : decode cL_law 76 = .ok (.arraylength, 1) := by decide +kernel
theorem dL_law_77 : decode cL_law 77 = .ok (.iconst 4, 1) := by decide +kernel
theorem dL_law_78 : decode cL_law 78 = .ok (.isub, 1) := by decide +kernel
theorem dL_law_79 : decode cL_law 79 = .ok (.if_icmp .gt 1044, 3) := by decide +kernel
theorem dL_law_82 : decode cL_law 82 = .ok (.aload_n 0, 1) := by decide +kernel
theorem dL_law_83 : decode cL_law 83 = .ok (.iload 4, 2) := by decide +kernel
theorem dL_law_85 : decode cL_law 85 = .ok (.iaload, 1) := by decide +kernel
theorem dL_law_86 : decode cL_law 86 = .ok (.bipush 31, 2) := by decide +kernel
theorem dL_law_88 : decode cL_law 88 = .ok (.iand, 1) := by decide +kernel
theorem dL_law_89 : decode cL_law 89 = .ok (.tableswitch 1028 0 18 #[91, 128, 153, 209, 234, 278, 346, 442, 467, 535, 615, 652, 689, 726, 775, 843, 903, 966, 1003], 91) := by decide +kernel
theorem dL_law_180 : decode cL_law 180 = .ok (.aload_n 1, 1) := by decide +kernel
theorem dL_law_181 : decode cL_law 181 = .ok (.aload_n 0, 1) := by decide +kernel
theorem dL_law_182 : decode cL_law 182 = .ok (.iload 4, 2) := by decide +kernel
theorem dL_law_184 : decode cL_law 184 = .ok (.iconst 1, 1) := by decide +kernel
theorem dL_law_185 : decode cL_law 185 = .ok (.iadd, 1) := by decide +kernel
theorem dL_law_186 : decode cL_law 186 = .ok (.iaload, 1) := by decide +kernel
theorem dL_law_187 : decode cL_law 187 = .ok (.aload_n 0, 1) := by decide +kernel
theorem dL_law_188 : decode cL_law 188 = .ok (.iload 4, 2) := by decide +kernel
theorem dL_law_190 : decode cL_law 190 = .ok (.iconst 2, 1) := by decide +kernel
theorem dL_law_191 : decode cL_law 191 = .ok (.iadd, 1) := by decide +kernel
theorem dL_law_192 : decode cL_law 192 = .ok (.iaload, 1) := by decide +kernel
theorem dL_law_193 : decode cL_law 193 = .ok (.invokevirtual 63, 3) := by decide +kernel
theorem dL_law_196 : decode cL_law 196 = .ok (.aload_n 2, 1) := by decide +kernel
theorem dL_law_197 : decode cL_law 197 = .ok (.aload_n 0, 1) := by decide +kernel
theorem dL_law_198 : decode cL_law 198 = .ok (.iload 4, 2) := by decide +kernel
theorem dL_law_200 : decode cL_law 200 = .ok (.iconst 1, 1) := by decide +kernel
theorem dL_law_201 : decode cL_law 201 = .ok (.iadd, 1) := by decide +kernel
theorem dL_law_202 : decode cL_law 202 = .ok (.iaload, 1) := by decide +kernel
theorem dL_law_203 : decode cL_law 203 = .ok (.aload_n 0, 1) := by decide +kernel
theorem dL_law_204 : decode cL_law 204 = .ok (.iload 4, 2) := by decide +kernel
theorem dL_law_206 : decode cL_law 206 = .ok (.iconst 2, 1) := by decide +kernel
theorem dL_law_207 : decode cL_law 207 = .ok (.iadd, 1) := by decide +kernel
theorem dL_law_208 : decode cL_law 208 = .ok (.iaload, 1) := by decide +kernel
theorem dL_law_209 : decode cL_law 209 = .ok (.invokevirtual 67, 3) := by decide +kernel
theorem dL_law_212 : decode cL_law 212 = .ok (.if_icmp .eq 905, 3) := by decide +kernel
theorem dL_law_215 : decode cL_law 215 = .ok (.iconst 0, 1) := by decide +kernel
theorem dL_law_216 : decode cL_law 216 = .ok (.ireturn, 1) := by decide +kernel
theorem dL_law_217 : decode cL_law 217 = .ok (.aload_n 1, 1) := by decide +kernel
theorem dL_law_218 : decode cL_law 218 = .ok (.aload_n 0, 1) := by decide +kernel
theorem dL_law_219 : decode cL_law 219 = .ok (.iload 4, 2) := by decide +kernel
theorem dL_law_221 : decode cL_law 221 = .ok (.iconst 1, 1) := by decide +kernel
theorem dL_law_222 : decode cL_law 222 = .ok (.iadd, 1) := by decide +kernel
theorem dL_law_223 : decode cL_law 223 = .ok (.iaload, 1) := by decide +kernel
theorem dL_law_224 : decode cL_law 224 = .ok (.invokevirtual 68, 3) := by decide +kernel
theorem dL_law_227 : decode cL_law 227 = .ok (.aload_n 2, 1) := by decide +kernel
theorem dL_law_228 : decode cL_law 228 = .ok (.aload_n 0, 1) := by decide +kernel
theorem dL_law_229 : decode cL_law 229 = .ok (.iload 4, 2) := by decide +kernel
theorem dL_law_231 : decode cL_law 231 = .ok (.iconst 1, 1) := by decide +kernel
theorem dL_law_232 : decode cL_law 232 = .ok (.iadd, 1) := by decide +kernel
theorem dL_law_233 : decode cL_law 233 = .ok (.iaload, 1) := by decide +kernel
theorem dL_law_234 : decode cL_law 234 = .ok (.invokevirtual 71, 3) := by decide +kernel
theorem dL_law_237 : decode cL_law 237 = .ok (.if_icmp .eq 880, 3) := by decide +kernel
theorem dL_law_240 : decode cL_law 240 = .ok (.iconst 0, 1) := by decide +kernel
theorem dL_law_241 : decode cL_law 241 = .ok (.ireturn, 1) := by decide +kernel
theorem dL_law_242 : decode cL_law 242 = .ok (.aload_n 1, 1) := by decide +kernel
theorem dL_law_243 : decode cL_law 243 = .ok (.aload_n 0, 1) := by decide +kernel
theorem dL_law_244 : decode cL_law 244 = .ok (.iload 4, 2) := by decide +kernel
theorem dL_law_246 : decode cL_law 246 = .ok (.iconst 1, 1) := by decide +kernel
theorem dL_law_247 : decode cL_law 247 = .ok (.iadd, 1) := by decide +kernel
theorem dL_law_248 : decode cL_law 248 = .ok (.iaload, 1) := by decide +kernel
theorem dL_law_249 : decode cL_law 249 = .ok (.aload_n 3, 1) := by decide +kernel
theorem dL_law_250 : decode cL_law 250 = .ok (.invokestatic 72, 3) := by decide +kernel
theorem dL_law_253 : decode cL_law 253 = .ok (.istore 5, 2) := by decide +kernel
theorem dL_law_255 : decode cL_law 255 = .ok (.aload_n 2, 1) := by decide +kernel
theorem dL_law_256 : decode cL_law 256 = .ok (.aload_n 0, 1) := by decide +kernel
theorem dL_law_257 : decode cL_law 257 = .ok (.iload 4, 2) := by decide +kernel
theorem dL_law_259 : decode cL_law 259 = .ok (.iconst 1, 1) := by decide +kernel
theorem dL_law_260 : decode cL_law 260 = .ok (.iadd, 1) := by decide +kernel
theorem dL_law_261 : decode cL_law 261 = .ok (.iaload, 1) := by decide +kernel
theorem dL_law_262 : decode cL_law 262 = .ok (.invokevirtual 75, 3) := by decide +kernel
theorem dL_law_265 : decode cL_law 265 = .ok (.istore 6, 2) := by decide +kernel
theorem dL_law_267 : decode cL_law 267 = .ok (.aload_n 2, 1) := by decide +kernel
theorem dL_law_268 : decode cL_law 268 = .ok (.invokevirtual 76, 3) := by decide +kernel
theorem dL_law_271 : decode cL_law 271 = .ok (.iload 5, 2) := by decide +kernel
theorem dL_law_273 : decode cL_law 273 = .ok (.if_icmp .eq 5, 3) := by decide +kernel
theorem dL_law_276 : decode cL_law 276 = .ok (.iconst 0, 1) := by decide +kernel
theorem dL_law_277 : decode cL_law 277 = .ok (.ireturn, 1) := by decide +kernel
theorem dL_law_278 : decode cL_law 278 = .ok (.iload 5, 2) := by decide +kernel
theorem dL_law_280 : decode cL_law 280 = .ok (.ifCond .ne 15, 3) := by decide +kernel
theorem dL_law_283 : decode cL_law 283 = .ok (.aload_n 3, 1) := by decide +kernel
theorem dL_law_284 : decode cL_law 284 = .ok (.iconst 0, 1) := by decide +kernel
theorem dL_law_285 : decode cL_law 285 = .ok (.laload, 1) := by decide +kernel
theorem dL_law_286 : decode cL_law 286 = .ok (.iload 6, 2) := by decide +kernel
theorem dL_law_288 : decode cL_law 288 = .ok (.i2l, 1) := by decide +kernel
theorem dL_law_289 : decode cL_law 289 = .ok (.lcmp, 1) := by decide +kernel
theorem dL_law_290 : decode cL_law 290 = .ok (.ifCond .eq 5, 3) := by decide +kernel
theorem dL_law_293 : decode cL_law 293 = .ok (.iconst 0, 1) := by decide +kernel
theorem dL_law_294 : decode cL_law 294 = .ok (.ireturn, 1) := by decide +kernel
theorem dL_law_295 : decode cL_law 295 = .ok (.goto 822, 3) := by decide +kernel
theorem dL_law_298 : decode cL_law 298 = .ok (.aload_n 1, 1) := by decide +kernel
theorem dL_law_299 : decode cL_law 299 = .ok (.aload_n 0, 1) := by decide +kernel
theorem dL_law_300 : decode cL_law 300 = .ok (.iload 4, 2) := by decide +kernel
theorem dL_law_302 : decode cL_law 302 = .ok (.iconst 1, 1) := by decide +kernel
theorem dL_law_303 : decode cL_law 303 = .ok (.iadd, 1) := by decide +kernel
theorem dL_law_304 : decode cL_law 304 = .ok (.iaload, 1) := by decide +kernel
theorem dL_law_305 : decode cL_law 305 = .ok (.invokevirtual 79, 3) := by decide +kernel
theorem dL_law_308 : decode cL_law 308 = .ok (.aload_n 2, 1) := by decide +kernel
theorem dL_law_309 : decode cL_law 309 = .ok (.aload_n 0, 1) := by decide +kernel
theorem dL_law_310 : decode cL_law 310 = .ok (.iload 4, 2) := by decide +kernel
theorem dL_law_312 : decode cL_law 312 = .ok (.iconst 1, 1) := by decide +kernel
theorem dL_law_313 : decode cL_law 313 = .ok (.iadd, 1) := by decide +kernel
theorem dL_law_314 : decode cL_law 314 = .ok (.iaload, 1) := by decide +kernel
theorem dL_law_315 : decode cL_law 315 = .ok (.invokevirtual 82, 3) := by decide +kernel
theorem dL_law_318 : decode cL_law 318 = .ok (.if_icmp .eq 799, 3) := by decide +kernel
theorem dL_law_321 : decode cL_law 321 = .ok (.iconst 0, 1) := by decide +kernel
theorem dL_law_322 : decode cL_law 322 = .ok (.ireturn, 1) := by decide +kernel
theorem dL_law_323 : decode cL_law 323 = .ok (.aload_n 1, 1) := by decide +kernel
theorem dL_law_324 : decode cL_law 324 = .ok (.aload_n 3, 1) := by decide +kernel
theorem dL_law_325 : decode cL_law 325 = .ok (.invokestatic 83, 3) := by decide +kernel
theorem dL_law_328 : decode cL_law 328 = .ok (.istore 5, 2) := by decide +kernel
theorem dL_law_330 : decode cL_law 330 = .ok (.aload_n 2, 1) := by decide +kernel
theorem dL_law_331 : decode cL_law 331 = .ok (.invokevirtual 86, 3) := by decide +kernel
theorem dL_law_334 : decode cL_law 334 = .ok (.istore 6, 2) := by decide +kernel
theorem dL_law_336 : decode cL_law 336 = .ok (.aload_n 2, 1) := by decide +kernel
theorem dL_law_337 : decode cL_law 337 = .ok (.invokevirtual 76, 3) := by decide +kernel
theorem dL_law_340 : decode cL_law 340 = .ok (.iload 5, 2) := by decide +kernel
theorem dL_law_342 : decode cL_law 342 = .ok (.if_icmp .eq 5, 3) := by decide +kernel
theorem dL_law_345 : decode cL_law 345 = .ok (.iconst 0, 1) := by decide +kernel
theorem dL_law_346 : decode cL_law 346 = .ok (.ireturn, 1) := by decide +kernel
theorem dL_law_347 : decode cL_law 347 = .ok (.iload 5, 2) := by decide +kernel
theorem dL_law_349 : decode cL_law 349 = .ok (.ifCond .ne 15, 3) := by decide +kernel
theorem dL_law_352 : decode cL_law 352 = .ok (.aload_n 3, 1) := by decide +kernel
theorem dL_law_353 : decode cL_law 353 = .ok (.iconst 0, 1) := by decide +kernel
theorem dL_law_354 : decode cL_law 354 = .ok (.laload, 1) := by decide +kernel
theorem dL_law_355 : decode cL_law 355 = .ok (.iload 6, 2) := by decide +kernel
theorem dL_law_357 : decode cL_law 357 = .ok (.i2l, 1) := by decide +kernel
theorem dL_law_358 : decode cL_law 358 = .ok (.lcmp, 1) := by decide +kernel
theorem dL_law_359 : decode cL_law 359 = .ok (.ifCond .eq 5, 3) := by decide +kernel
theorem dL_law_362 : decode cL_law 362 = .ok (.iconst 0, 1) := by decide +kernel
theorem dL_law_363 : decode cL_law 363 = .ok (.ireturn, 1) := by decide +kernel
theorem dL_law_364 : decode cL_law 364 = .ok (.goto 753, 3) := by decide +kernel
theorem dL_law_367 : decode cL_law 367 = .ok (.aload_n 1, 1) := by decide +kernel
theorem dL_law_368 : decode cL_law 368 = .ok (.aload_n 0, 1) := by decide +kernel
theorem dL_law_369 : decode cL_law 369 = .ok (.iload 4, 2) := by decide +kernel
theorem dL_law_371 : decode cL_law 371 = .ok (.iconst 1, 1) := by decide +kernel
theorem dL_law_372 : decode cL_law 372 = .ok (.iadd, 1) := by decide +kernel
theorem dL_law_373 : decode cL_law 373 = .ok (.iaload, 1) := by decide +kernel
theorem dL_law_374 : decode cL_law 374 = .ok (.aload_n 0, 1) := by decide +kernel
theorem dL_law_375 : decode cL_law 375 = .ok (.iload 4, 2) := by decide +kernel
theorem dL_law_377 : decode cL_law 377 = .ok (.iconst 2, 1) := by decide +kernel
theorem dL_law_378 : decode cL_law 378 = .ok (.iadd, 1) := by decide +kernel
theorem dL_law_379 : decode cL_law 379 = .ok (.iaload, 1) := by decide +kernel
theorem dL_law_380 : decode cL_law 380 = .ok (.aload_n 3, 1) := by decide +kernel
theorem dL_law_381 : decode cL_law 381 = .ok (.invokestatic 87, 3) := by decide +kernel
theorem dL_law_384 : decode cL_law 384 = .ok (.istore 5, 2) := by decide +kernel
theorem dL_law_386 : decode cL_law 386 = .ok (.aload_n 2, 1) := by decide +kernel
theorem dL_law_387 : decode cL_law 387 = .ok (.aload_n 0, 1) := by decide +kernel
theorem dL_law_388 : decode cL_law 388 = .ok (.iload 4, 2) := by decide +kernel
theorem dL_law_390 : decode cL_law 390 = .ok (.iconst 1, 1) := by decide +kernel
theorem dL_law_391 : decode cL_law 391 = .ok (.iadd, 1) := by decide +kernel
theorem dL_law_392 : decode cL_law 392 = .ok (.iaload, 1) := by decide +kernel
theorem dL_law_393 : decode cL_law 393 = .ok (.aload_n 0, 1) := by decide +kernel
theorem dL_law_394 : decode cL_law 394 = .ok (.iload 4, 2) := by decide +kernel
theorem dL_law_396 : decode cL_law 396 = .ok (.iconst 2, 1) := by decide +kernel
theorem dL_law_397 : decode cL_law 397 = .ok (.iadd, 1) := by decide +kernel
theorem dL_law_398 : decode cL_law 398 = .ok (.iaload, 1) := by decide +kernel
theorem dL_law_399 : decode cL_law 399 = .ok (.invokevirtual 90, 3) := by decide +kernel
theorem dL_law_402 : decode cL_law 402 = .ok (.istore 6, 2) := by decide +kernel
theorem dL_law_404 : decode cL_law 404 = .ok (.aload_n 2, 1) := by decide +kernel
theorem dL_law_405 : decode cL_law 405 = .ok (.invokevirtual 76, 3) := by decide +kernel
theorem dL_law_408 : decode cL_law 408 = .ok (.iload 5, 2) := by decide +kernel
theorem dL_law_410 : decode cL_law 410 = .ok (.if_icmp .eq 5, 3) := by decide +kernel
theorem dL_law_413 : decode cL_law 413 = .ok (.iconst 0, 1) := by decide +kernel
theorem dL_law_414 : decode cL_law 414 = .ok (.ireturn, 1) := by decide +kernel
theorem dL_law_415 : decode cL_law 415 = .ok (.iload 5, 2) := by decide +kernel
theorem dL_law_417 : decode cL_law 417 = .ok (.ifCond .ne 15, 3) := by decide +kernel
theorem dL_law_420 : decode cL_law 420 = .ok (.aload_n 3, 1) := by decide +kernel
theorem dL_law_421 : decode cL_law 421 = .ok (.iconst 0, 1) := by decide +kernel
theorem dL_law_422 : decode cL_law 422 = .ok (.laload, 1) := by decide +kernel
theorem dL_law_423 : decode cL_law 423 = .ok (.iload 6, 2) := by decide +kernel
theorem dL_law_425 : decode cL_law 425 = .ok (.i2l, 1) := by decide +kernel
theorem dL_law_426 : decode cL_law 426 = .ok (.lcmp, 1) := by decide +kernel
theorem dL_law_427 : decode cL_law 427 = .ok (.ifCond .eq 5, 3) := by decide +kernel
theorem dL_law_430 : decode cL_law 430 = .ok (.iconst 0, 1) := by decide +kernel
theorem dL_law_431 : decode cL_law 431 = .ok (.ireturn, 1) := by decide +kernel
theorem dL_law_432 : decode cL_law 432 = .ok (.goto 685, 3) := by decide +kernel
theorem dL_law_435 : decode cL_law 435 = .ok (.aload_n 1, 1) := by decide +kernel
theorem dL_law_436 : decode cL_law 436 = .ok (.aload_n 0, 1) := by decide +kernel
theorem dL_law_437 : decode cL_law 437 = .ok (.iload 4, 2) := by decide +kernel
theorem dL_law_439 : decode cL_law 439 = .ok (.iconst 1, 1) := by decide +kernel
theorem dL_law_440 : decode cL_law 440 = .ok (.iadd, 1) := by decide +kernel
theorem dL_law_441 : decode cL_law 441 = .ok (.iaload, 1) := by decide +kernel
theorem dL_law_442 : decode cL_law 442 = .ok (.aload_n 0, 1) := by decide +kernel
theorem dL_law_443 : decode cL_law 443 = .ok (.iload 4, 2) := by decide +kernel
theorem dL_law_445 : decode cL_law 445 = .ok (.iconst 2, 1) := by decide +kernel
theorem dL_law_446 : decode cL_law 446 = .ok (.iadd, 1) := by decide +kernel
theorem dL_law_447 : decode cL_law 447 = .ok (.iaload, 1) := by decide +kernel
theorem dL_law_448 : decode cL_law 448 = .ok (.aload_n 0, 1) := by decide +kernel
theorem dL_law_449 : decode cL_law 449 = .ok (.iload 4, 2) := by decide +kernel
theorem dL_law_451 : decode cL_law 451 = .ok (.iconst 3, 1) := by decide +kernel
theorem dL_law_452 : decode cL_law 452 = .ok (.iadd, 1) := by decide +kernel
theorem dL_law_453 : decode cL_law 453 = .ok (.iaload, 1) := by decide +kernel
theorem dL_law_454 : decode cL_law 454 = .ok (.ifCond .eq 7, 3) := by decide +kernel
theorem dL_law_457 : decode cL_law 457 = .ok (.iconst 1, 1) := by decide +kernel
theorem dL_law_458 : decode cL_law 458 = .ok (.goto 4, 3) := by decide +kernel
theorem dL_law_461 : decode cL_law 461 = .ok (.iconst 0, 1) := by decide +kernel
theorem dL_law_462 : decode cL_law 462 = .ok (.aload_n 3, 1) := by decide +kernel
theorem dL_law_463 : decode cL_law 463 = .ok (.invokestatic 91, 3) := by decide +kernel
theorem dL_law_466 : decode cL_law 466 = .ok (.istore 5, 2) := by decide +kernel
theorem dL_law_468 : decode cL_law 468 = .ok (.aload_n 2, 1) := by decide +kernel
theorem dL_law_469 : decode cL_law 469 = .ok (.aload_n 0, 1) := by decide +kernel
theorem dL_law_470 : decode cL_law 470 = .ok (.iload 4, 2) := by decide +kernel
theorem dL_law_472 : decode cL_law 472 = .ok (.iconst 1, 1) := by decide +kernel
theorem dL_law_473 : decode cL_law 473 = .ok (.iadd, 1) := by decide +kernel
theorem dL_law_474 : decode cL_law 474 = .ok (.iaload, 1) := by decide +kernel
theorem dL_law_475 : decode cL_law 475 = .ok (.aload_n 0, 1) := by decide +kernel
theorem dL_law_476 : decode cL_law 476 = .ok (.iload 4, 2) := by decide +kernel
theorem dL_law_478 : decode cL_law 478 = .ok (.iconst 2, 1) := by decide +kernel
theorem dL_law_479 : decode cL_law 479 = .ok (.iadd, 1) := by decide +kernel
theorem dL_law_480 : decode cL_law 480 = .ok (.iaload, 1) := by decide +kernel
theorem dL_law_481 : decode cL_law 481 = .ok (.aload_n 0, 1) := by decide +kernel
theorem dL_law_482 : decode cL_law 482 = .ok (.iload 4, 2) := by decide +kernel
theorem dL_law_484 : decode cL_law 484 = .ok (.iconst 3, 1) := by decide +kernel
theorem dL_law_485 : decode cL_law 485 = .ok (.iadd, 1) := by decide +kernel
theorem dL_law_486 : decode cL_law 486 = .ok (.iaload, 1) := by decide +kernel
theorem dL_law_487 : decode cL_law 487 = .ok (.ifCond .eq 7, 3) := by decide +kernel
theorem dL_law_490 : decode cL_law 490 = .ok (.iconst 1, 1) := by decide +kernel
theorem dL_law_491 : decode cL_law 491 = .ok (.goto 4, 3) := by decide +kernel
theorem dL_law_494 : decode cL_law 494 = .ok (.iconst 0, 1) := by decide +kernel
theorem dL_law_495 : decode cL_law 495 = .ok (.invokevirtual 94, 3) := by decide +kernel
theorem dL_law_498 : decode cL_law 498 = .ok (.istore 6, 2) := by decide +kernel
theorem dL_law_500 : decode cL_law 500 = .ok (.aload_n 2, 1) := by decide +kernel
theorem dL_law_501 : decode cL_law 501 = .ok (.invokevirtual 76, 3) := by decide +kernel
theorem dL_law_504 : decode cL_law 504 = .ok (.iload 5, 2) := by decide +kernel
theorem dL_law_506 : decode cL_law 506 = .ok (.if_icmp .eq 5, 3) := by decide +kernel
theorem dL_law_509 : decode cL_law 509 = .ok (.iconst 0, 1) := by decide +kernel
theorem dL_law_510 : decode cL_law 510 = .ok (.ireturn, 1) := by decide +kernel
theorem dL_law_511 : decode cL_law 511 = .ok (.iload 5, 2) := by decide +kernel
theorem dL_law_513 : decode cL_law 513 = .ok (.ifCond .ne 15, 3) := by decide +kernel
theorem dL_law_516 : decode cL_law 516 = .ok (.aload_n 3, 1) := by decide +kernel
theorem dL_law_517 : decode cL_law 517 = .ok (.iconst 0, 1) := by decide +kernel
theorem dL_law_518 : decode cL_law 518 = .ok (.laload, 1) := by decide +kernel
theorem dL_law_519 : decode cL_law 519 = .ok (.iload 6, 2) := by decide +kernel
theorem dL_law_521 : decode cL_law 521 = .ok (.i2l, 1) := by decide +kernel
theorem dL_law_522 : decode cL_law 522 = .ok (.lcmp, 1) := by decide +kernel
theorem dL_law_523 : decode cL_law 523 = .ok (.ifCond .eq 5, 3) := by decide +kernel
theorem dL_law_526 : decode cL_law 526 = .ok (.iconst 0, 1) := by decide +kernel
theorem dL_law_527 : decode cL_law 527 = .ok (.ireturn, 1) := by decide +kernel
theorem dL_law_528 : decode cL_law 528 = .ok (.goto 589, 3) := by decide +kernel
theorem dL_law_531 : decode cL_law 531 = .ok (.aload_n 1, 1) := by decide +kernel
theorem dL_law_532 : decode cL_law 532 = .ok (.aload_n 0, 1) := by decide +kernel
theorem dL_law_533 : decode cL_law 533 = .ok (.iload 4, 2) := by decide +kernel
theorem dL_law_535 : decode cL_law 535 = .ok (.iconst 1, 1) := by decide +kernel
theorem dL_law_536 : decode cL_law 536 = .ok (.iadd, 1) := by decide +kernel
theorem dL_law_537 : decode cL_law 537 = .ok (.iaload, 1) := by decide +kernel
theorem dL_law_538 : decode cL_law 538 = .ok (.invokevirtual 95, 3) := by decide +kernel
theorem dL_law_541 : decode cL_law 541 = .ok (.aload_n 2, 1) := by decide +kernel
theorem dL_law_542 : decode cL_law 542 = .ok (.aload_n 0, 1) := by decide +kernel
theorem dL_law_543 : decode cL_law 543 = .ok (.iload 4, 2) := by decide +kernel
theorem dL_law_545 : decode cL_law 545 = .ok (.iconst 1, 1) := by decide +kernel
theorem dL_law_546 : decode cL_law 546 = .ok (.iadd, 1) := by decide +kernel
theorem dL_law_547 : decode cL_law 547 = .ok (.iaload, 1) := by decide +kernel
theorem dL_law_548 : decode cL_law 548 = .ok (.invokevirtual 98, 3) := by decide +kernel
theorem dL_law_551 : decode cL_law 551 = .ok (.if_icmp .eq 566, 3) := by decide +kernel
theorem dL_law_554 : decode cL_law 554 = .ok (.iconst 0, 1) := by decide +kernel
theorem dL_law_555 : decode cL_law 555 = .ok (.ireturn, 1) := by decide +kernel
theorem dL_law_556 : decode cL_law 556 = .ok (.aload_n 1, 1) := by decide +kernel
theorem dL_law_557 : decode cL_law 557 = .ok (.aload_n 0, 1) := by decide +kernel
theorem dL_law_558 : decode cL_law 558 = .ok (.iload 4, 2) := by decide +kernel
theorem dL_law_560 : decode cL_law 560 = .ok (.iconst 1, 1) := by decide +kernel
theorem dL_law_561 : decode cL_law 561 = .ok (.iadd, 1) := by decide +kernel
theorem dL_law_562 : decode cL_law 562 = .ok (.iaload, 1) := by decide +kernel
theorem dL_law_563 : decode cL_law 563 = .ok (.aload_n 0, 1) := by decide +kernel
theorem dL_law_564 : decode cL_law 564 = .ok (.iload 4, 2) := by decide +kernel
theorem dL_law_566 : decode cL_law 566 = .ok (.iconst 2, 1) := by decide +kernel
theorem dL_law_567 : decode cL_law 567 = .ok (.iadd, 1) := by decide +kernel
theorem dL_law_568 : decode cL_law 568 = .ok (.iaload, 1) := by decide +kernel
theorem dL_law_569 : decode cL_law 569 = .ok (.aload_n 3, 1) := by decide +kernel
theorem dL_law_570 : decode cL_law 570 = .ok (.invokestatic 99, 3) := by decide +kernel
theorem dL_law_573 : decode cL_law 573 = .ok (.istore 5, 2) := by decide +kernel
theorem dL_law_575 : decode cL_law 575 = .ok (.aload_n 2, 1) := by decide +kernel
theorem dL_law_576 : decode cL_law 576 = .ok (.aload_n 0, 1) := by decide +kernel
theorem dL_law_577 : decode cL_law 577 = .ok (.iload 4, 2) := by decide +kernel
theorem dL_law_579 : decode cL_law 579 = .ok (.iconst 1, 1) := by decide +kernel
theorem dL_law_580 : decode cL_law 580 = .ok (.iadd, 1) := by decide +kernel
theorem dL_law_581 : decode cL_law 581 = .ok (.iaload, 1) := by decide +kernel
theorem dL_law_582 : decode cL_law 582 = .ok (.aload_n 0, 1) := by decide +kernel
theorem dL_law_583 : decode cL_law 583 = .ok (.iload 4, 2) := by decide +kernel
theorem dL_law_585 : decode cL_law 585 = .ok (.iconst 2, 1) := by decide +kernel
theorem dL_law_586 : decode cL_law 586 = .ok (.iadd, 1) := by decide +kernel
theorem dL_law_587 : decode cL_law 587 = .ok (.iaload, 1) := by decide +kernel
theorem dL_law_588 : decode cL_law 588 = .ok (.invokevirtual 101, 3) := by decide +kernel
theorem dL_law_591 : decode cL_law 591 = .ok (.istore 6, 2) := by decide +kernel
theorem dL_law_593 : decode cL_law 593 = .ok (.aload_n 2, 1) := by decide +kernel
theorem dL_law_594 : decode cL_law 594 = .ok (.invokevirtual 76, 3) := by decide +kernel
theorem dL_law_597 : decode cL_law 597 = .ok (.iload 5, 2) := by decide +kernel
theorem dL_law_599 : decode cL_law 599 = .ok (.if_icmp .eq 5, 3) := by decide +kernel
theorem dL_law_602 : decode cL_law 602 = .ok (.iconst 0, 1) := by decide +kernel
theorem dL_law_603 : decode cL_law 603 = .ok (.ireturn, 1) := by decide +kernel
theorem dL_law_604 : decode cL_law 604 = .ok (.iload 5, 2) := by decide +kernel
theorem dL_law_606 : decode cL_law 606 = .ok (.ifCond .ne 15, 3) := by decide +kernel
theorem dL_law_609 : decode cL_law 609 = .ok (.aload_n 3, 1) := by decide +kernel
theorem dL_law_610 : decode cL_law 610 = .ok (.iconst 0, 1) := by decide +kernel
theorem dL_law_611 : decode cL_law 611 = .ok (.laload, 1) := by decide +kernel
theorem dL_law_612 : decode cL_law 612 = .ok (.iload 6, 2) := by decide +kernel
theorem dL_law_614 : decode cL_law 614 = .ok (.i2l, 1) := by decide +kernel
theorem dL_law_615 : decode cL_law 615 = .ok (.lcmp, 1) := by decide +kernel
theorem dL_law_616 : decode cL_law 616 = .ok (.ifCond .eq 5, 3) := by decide +kernel
theorem dL_law_619 : decode cL_law 619 = .ok (.iconst 0, 1) := by decide +kernel
theorem dL_law_620 : decode cL_law 620 = .ok (.ireturn, 1) := by decide +kernel
theorem dL_law_621 : decode cL_law 621 = .ok (.goto 496, 3) := by decide +kernel
theorem dL_law_624 : decode cL_law 624 = .ok (.aload_n 1, 1) := by decide +kernel
theorem dL_law_625 : decode cL_law 625 = .ok (.aload_n 0, 1) := by decide +kernel
theorem dL_law_626 : decode cL_law 626 = .ok (.iload 4, 2) := by decide +kernel
theorem dL_law_628 : decode cL_law 628 = .ok (.iconst 1, 1) := by decide +kernel
theorem dL_law_629 : decode cL_law 629 = .ok (.iadd, 1) := by decide +kernel
theorem dL_law_630 : decode cL_law 630 = .ok (.iaload, 1) := by decide +kernel
theorem dL_law_631 : decode cL_law 631 = .ok (.aload_n 0, 1) := by decide +kernel
theorem dL_law_632 : decode cL_law 632 = .ok (.iload 4, 2) := by decide +kernel
theorem dL_law_634 : decode cL_law 634 = .ok (.iconst 2, 1) := by decide +kernel
theorem dL_law_635 : decode cL_law 635 = .ok (.iadd, 1) := by decide +kernel
theorem dL_law_636 : decode cL_law 636 = .ok (.iaload, 1) := by decide +kernel
theorem dL_law_637 : decode cL_law 637 = .ok (.aload_n 0, 1) := by decide +kernel
theorem dL_law_638 : decode cL_law 638 = .ok (.iload 4, 2) := by decide +kernel
theorem dL_law_640 : decode cL_law 640 = .ok (.iconst 3, 1) := by decide +kernel
theorem dL_law_641 : decode cL_law 641 = .ok (.iadd, 1) := by decide +kernel
theorem dL_law_642 : decode cL_law 642 = .ok (.iaload, 1) := by decide +kernel
theorem dL_law_643 : decode cL_law 643 = .ok (.aload_n 3, 1) := by decide +kernel
theorem dL_law_644 : decode cL_law 644 = .ok (.invokestatic 102, 3) := by decide +kernel
theorem dL_law_647 : decode cL_law 647 = .ok (.istore 5, 2) := by decide +kernel
theorem dL_law_649 : decode cL_law 649 = .ok (.aload_n 2, 1) := by decide +kernel
theorem dL_law_650 : decode cL_law 650 = .ok (.aload_n 0, 1) := by decide +kernel
theorem dL_law_651 : decode cL_law 651 = .ok (.iload 4, 2) := by decide +kernel
theorem dL_law_653 : decode cL_law 653 = .ok (.iconst 1, 1) := by decide +kernel
theorem dL_law_654 : decode cL_law 654 = .ok (.iadd, 1) := by decide +kernel
theorem dL_law_655 : decode cL_law 655 = .ok (.iaload, 1) := by decide +kernel
theorem dL_law_656 : decode cL_law 656 = .ok (.aload_n 0, 1) := by decide +kernel
theorem dL_law_657 : decode cL_law 657 = .ok (.iload 4, 2) := by decide +kernel
theorem dL_law_659 : decode cL_law 659 = .ok (.iconst 2, 1) := by decide +kernel
theorem dL_law_660 : decode cL_law 660 = .ok (.iadd, 1) := by decide +kernel
theorem dL_law_661 : decode cL_law 661 = .ok (.iaload, 1) := by decide +kernel
theorem dL_law_662 : decode cL_law 662 = .ok (.aload_n 0, 1) := by decide +kernel
theorem dL_law_663 : decode cL_law 663 = .ok (.iload 4, 2) := by decide +kernel
theorem dL_law_665 : decode cL_law 665 = .ok (.iconst 3, 1) := by decide +kernel
theorem dL_law_666 : decode cL_law 666 = .ok (.iadd, 1) := by decide +kernel
theorem dL_law_667 : decode cL_law 667 = .ok (.iaload, 1) := by decide +kernel
theorem dL_law_668 : decode cL_law 668 = .ok (.invokevirtual 105, 3) := by decide +kernel
theorem dL_law_671 : decode cL_law 671 = .ok (.istore 6, 2) := by decide +kernel
theorem dL_law_673 : decode cL_law 673 = .ok (.aload_n 2, 1) := by decide +kernel
theorem dL_law_674 : decode cL_law 674 = .ok (.invokevirtual 76, 3) := by decide +kernel
theorem dL_law_677 : decode cL_law 677 = .ok (.iload 5, 2) := by decide +kernel
theorem dL_law_679 : decode cL_law 679 = .ok (.if_icmp .eq 5, 3) := by decide +kernel
theorem dL_law_682 : decode cL_law 682 = .ok (.iconst 0, 1) := by decide +kernel
theorem dL_law_683 : decode cL_law 683 = .ok (.ireturn, 1) := by decide +kernel
theorem dL_law_684 : decode cL_law 684 = .ok (.iload 5, 2) := by decide +kernel
theorem dL_law_686 : decode cL_law 686 = .ok (.ifCond .ne 15, 3) := by decide +kernel
theorem dL_law_689 : decode cL_law 689 = .ok (.aload_n 3, 1) := by decide +kernel
theorem dL_law_690 : decode cL_law 690 = .ok (.iconst 0, 1) := by decide +kernel
theorem dL_law_691 : decode cL_law 691 = .ok (.laload, 1) := by decide +kernel
theorem dL_law_692 : decode cL_law 692 = .ok (.iload 6, 2) := by decide +kernel
theorem dL_law_694 : decode cL_law 694 = .ok (.i2l, 1) := by decide +kernel
theorem dL_law_695 : decode cL_law 695 = .ok (.lcmp, 1) := by decide +kernel
theorem dL_law_696 : decode cL_law 696 = .ok (.ifCond .eq 5, 3) := by decide +kernel
theorem dL_law_699 : decode cL_law 699 = .ok (.iconst 0, 1) := by decide +kernel
theorem dL_law_700 : decode cL_law 700 = .ok (.ireturn, 1) := by decide +kernel
theorem dL_law_701 : decode cL_law 701 = .ok (.goto 416, 3) := by decide +kernel
theorem dL_law_704 : decode cL_law 704 = .ok (.aload_n 1, 1) := by decide +kernel
theorem dL_law_705 : decode cL_law 705 = .ok (.aload_n 0, 1) := by decide +kernel
theorem dL_law_706 : decode cL_law 706 = .ok (.iload 4, 2) := by decide +kernel
theorem dL_law_708 : decode cL_law 708 = .ok (.iconst 1, 1) := by decide +kernel
theorem dL_law_709 : decode cL_law 709 = .ok (.iadd, 1) := by decide +kernel
theorem dL_law_710 : decode cL_law 710 = .ok (.iaload, 1) := by decide +kernel
theorem dL_law_711 : decode cL_law 711 = .ok (.aload_n 0, 1) := by decide +kernel
theorem dL_law_712 : decode cL_law 712 = .ok (.iload 4, 2) := by decide +kernel
theorem dL_law_714 : decode cL_law 714 = .ok (.iconst 2, 1) := by decide +kernel
theorem dL_law_715 : decode cL_law 715 = .ok (.iadd, 1) := by decide +kernel
theorem dL_law_716 : decode cL_law 716 = .ok (.iaload, 1) := by decide +kernel
theorem dL_law_717 : decode cL_law 717 = .ok (.invokevirtual 106, 3) := by decide +kernel
theorem dL_law_720 : decode cL_law 720 = .ok (.aload_n 2, 1) := by decide +kernel
theorem dL_law_721 : decode cL_law 721 = .ok (.aload_n 0, 1) := by decide +kernel
theorem dL_law_722 : decode cL_law 722 = .ok (.iload 4, 2) := by decide +kernel
theorem dL_law_724 : decode cL_law 724 = .ok (.iconst 1, 1) := by decide +kernel
theorem dL_law_725 : decode cL_law 725 = .ok (.iadd, 1) := by decide +kernel
theorem dL_law_726 : decode cL_law 726 = .ok (.iaload, 1) := by decide +kernel
theorem dL_law_727 : decode cL_law 727 = .ok (.aload_n 0, 1) := by decide +kernel
theorem dL_law_728 : decode cL_law 728 = .ok (.iload 4, 2) := by decide +kernel
theorem dL_law_730 : decode cL_law 730 = .ok (.iconst 2, 1) := by decide +kernel
theorem dL_law_731 : decode cL_law 731 = .ok (.iadd, 1) := by decide +kernel
theorem dL_law_732 : decode cL_law 732 = .ok (.iaload, 1) := by decide +kernel
theorem dL_law_733 : decode cL_law 733 = .ok (.invokevirtual 109, 3) := by decide +kernel
theorem dL_law_736 : decode cL_law 736 = .ok (.if_icmp .eq 381, 3) := by decide +kernel
theorem dL_law_739 : decode cL_law 739 = .ok (.iconst 0, 1) := by decide +kernel
theorem dL_law_740 : decode cL_law 740 = .ok (.ireturn, 1) := by decide +kernel
theorem dL_law_741 : decode cL_law 741 = .ok (.aload_n 1, 1) := by decide +kernel
theorem dL_law_742 : decode cL_law 742 = .ok (.aload_n 0, 1) := by decide +kernel
theorem dL_law_743 : decode cL_law 743 = .ok (.iload 4, 2) := by decide +kernel
theorem dL_law_745 : decode cL_law 745 = .ok (.iconst 1, 1) := by decide +kernel
theorem dL_law_746 : decode cL_law 746 = .ok (.iadd, 1) := by decide +kernel
theorem dL_law_747 : decode cL_law 747 = .ok (.iaload, 1) := by decide +kernel
theorem dL_law_748 : decode cL_law 748 = .ok (.aload_n 0, 1) := by decide +kernel
theorem dL_law_749 : decode cL_law 749 = .ok (.iload 4, 2) := by decide +kernel
theorem dL_law_751 : decode cL_law 751 = .ok (.iconst 2, 1) := by decide +kernel
theorem dL_law_752 : decode cL_law 752 = .ok (.iadd, 1) := by decide +kernel
theorem dL_law_753 : decode cL_law 753 = .ok (.iaload, 1) := by decide +kernel
theorem dL_law_754 : decode cL_law 754 = .ok (.invokevirtual 110, 3) := by decide +kernel
theorem dL_law_757 : decode cL_law 757 = .ok (.aload_n 2, 1) := by decide +kernel
theorem dL_law_758 : decode cL_law 758 = .ok (.aload_n 0, 1) := by decide +kernel
theorem dL_law_759 : decode cL_law 759 = .ok (.iload 4, 2) := by decide +kernel
theorem dL_law_761 : decode cL_law 761 = .ok (.iconst 1, 1) := by decide +kernel
theorem dL_law_762 : decode cL_law 762 = .ok (.iadd, 1) := by decide +kernel
theorem dL_law_763 : decode cL_law 763 = .ok (.iaload, 1) := by decide +kernel
theorem dL_law_764 : decode cL_law 764 = .ok (.aload_n 0, 1) := by decide +kernel
theorem dL_law_765 : decode cL_law 765 = .ok (.iload 4, 2) := by decide +kernel
theorem dL_law_767 : decode cL_law 767 = .ok (.iconst 2, 1) := by decide +kernel
theorem dL_law_768 : decode cL_law 768 = .ok (.iadd, 1) := by decide +kernel
theorem dL_law_769 : decode cL_law 769 = .ok (.iaload, 1) := by decide +kernel
theorem dL_law_770 : decode cL_law 770 = .ok (.invokevirtual 113, 3) := by decide +kernel
theorem dL_law_773 : decode cL_law 773 = .ok (.if_icmp .eq 344, 3) := by decide +kernel
theorem dL_law_776 : decode cL_law 776 = .ok (.iconst 0, 1) := by decide +kernel
theorem dL_law_777 : decode cL_law 777 = .ok (.ireturn, 1) := by decide +kernel
theorem dL_law_778 : decode cL_law 778 = .ok (.aload_n 1, 1) := by decide +kernel
theorem dL_law_779 : decode cL_law 779 = .ok (.aload_n 0, 1) := by decide +kernel
theorem dL_law_780 : decode cL_law 780 = .ok (.iload 4, 2) := by decide +kernel
theorem dL_law_782 : decode cL_law 782 = .ok (.iconst 1, 1) := by decide +kernel
theorem dL_law_783 : decode cL_law 783 = .ok (.iadd, 1) := by decide +kernel
theorem dL_law_784 : decode cL_law 784 = .ok (.iaload, 1) := by decide +kernel
theorem dL_law_785 : decode cL_law 785 = .ok (.aload_n 0, 1) := by decide +kernel
theorem dL_law_786 : decode cL_law 786 = .ok (.iload 4, 2) := by decide +kernel
theorem dL_law_788 : decode cL_law 788 = .ok (.iconst 2, 1) := by decide +kernel
theorem dL_law_789 : decode cL_law 789 = .ok (.iadd, 1) := by decide +kernel
theorem dL_law_790 : decode cL_law 790 = .ok (.iaload, 1) := by decide +kernel
theorem dL_law_791 : decode cL_law 791 = .ok (.invokevirtual 114, 3) := by decide +kernel
theorem dL_law_794 : decode cL_law 794 = .ok (.aload_n 2, 1) := by decide +kernel
theorem dL_law_795 : decode cL_law 795 = .ok (.aload_n 0, 1) := by decide +kernel
theorem dL_law_796 : decode cL_law 796 = .ok (.iload 4, 2) := by decide +kernel
theorem dL_law_798 : decode cL_law 798 = .ok (.iconst 1, 1) := by decide +kernel
theorem dL_law_799 : decode cL_law 799 = .ok (.iadd, 1) := by decide +kernel
theorem dL_law_800 : decode cL_law 800 = .ok (.iaload, 1) := by decide +kernel
theorem dL_law_801 : decode cL_law 801 = .ok (.aload_n 0, 1) := by decide +kernel
theorem dL_law_802 : decode cL_law 802 = .ok (.iload 4, 2) := by decide +kernel
theorem dL_law_804 : decode cL_law 804 = .ok (.iconst 2, 1) := by decide +kernel
theorem dL_law_805 : decode cL_law 805 = .ok (.iadd, 1) := by decide +kernel
theorem dL_law_806 : decode cL_law 806 = .ok (.iaload, 1) := by decide +kernel
theorem dL_law_807 : decode cL_law 807 = .ok (.invokevirtual 117, 3) := by decide +kernel
theorem dL_law_810 : decode cL_law 810 = .ok (.if_icmp .eq 307, 3) := by decide +kernel
theorem dL_law_813 : decode cL_law 813 = .ok (.iconst 0, 1) := by decide +kernel
theorem dL_law_814 : decode cL_law 814 = .ok (.ireturn, 1) := by decide +kernel
theorem dL_law_815 : decode cL_law 815 = .ok (.aload_n 1, 1) := by decide +kernel
theorem dL_law_816 : decode cL_law 816 = .ok (.aload_n 0, 1) := by decide +kernel
theorem dL_law_817 : decode cL_law 817 = .ok (.iload 4, 2) := by decide +kernel
theorem dL_law_819 : decode cL_law 819 = .ok (.iconst 1, 1) := by decide +kernel
theorem dL_law_820 : decode cL_law 820 = .ok (.iadd, 1) := by decide +kernel
theorem dL_law_821 : decode cL_law 821 = .ok (.iaload, 1) := by decide +kernel
theorem dL_law_822 : decode cL_law 822 = .ok (.aload_n 0, 1) := by decide +kernel
theorem dL_law_823 : decode cL_law 823 = .ok (.iload 4, 2) := by decide +kernel
theorem dL_law_825 : decode cL_law 825 = .ok (.iconst 2, 1) := by decide +kernel
theorem dL_law_826 : decode cL_law 826 = .ok (.iadd, 1) := by decide +kernel
theorem dL_law_827 : decode cL_law 827 = .ok (.iaload, 1) := by decide +kernel
theorem dL_law_828 : decode cL_law 828 = .ok (.aload_n 0, 1) := by decide +kernel
theorem dL_law_829 : decode cL_law 829 = .ok (.iload 4, 2) := by decide +kernel
theorem dL_law_831 : decode cL_law 831 = .ok (.iconst 3, 1) := by decide +kernel
theorem dL_law_832 : decode cL_law 832 = .ok (.iadd, 1) := by decide +kernel
theorem dL_law_833 : decode cL_law 833 = .ok (.iaload, 1) := by decide +kernel
theorem dL_law_834 : decode cL_law 834 = .ok (.invokevirtual 118, 3) := by decide +kernel
theorem dL_law_837 : decode cL_law 837 = .ok (.aload_n 2, 1) := by decide +kernel
theorem dL_law_838 : decode cL_law 838 = .ok (.aload_n 0, 1) := by decide +kernel
theorem dL_law_839 : decode cL_law 839 = .ok (.iload 4, 2) := by decide +kernel
theorem dL_law_841 : decode cL_law 841 = .ok (.iconst 1, 1) := by decide +kernel
theorem dL_law_842 : decode cL_law 842 = .ok (.iadd, 1) := by decide +kernel
theorem dL_law_843 : decode cL_law 843 = .ok (.iaload, 1) := by decide +kernel
theorem dL_law_844 : decode cL_law 844 = .ok (.aload_n 0, 1) := by decide +kernel
theorem dL_law_845 : decode cL_law 845 = .ok (.iload 4, 2) := by decide +kernel
theorem dL_law_847 : decode cL_law 847 = .ok (.iconst 2, 1) := by decide +kernel
theorem dL_law_848 : decode cL_law 848 = .ok (.iadd, 1) := by decide +kernel
theorem dL_law_849 : decode cL_law 849 = .ok (.iaload, 1) := by decide +kernel
theorem dL_law_850 : decode cL_law 850 = .ok (.aload_n 0, 1) := by decide +kernel
theorem dL_law_851 : decode cL_law 851 = .ok (.iload 4, 2) := by decide +kernel
theorem dL_law_853 : decode cL_law 853 = .ok (.iconst 3, 1) := by decide +kernel
theorem dL_law_854 : decode cL_law 854 = .ok (.iadd, 1) := by decide +kernel
theorem dL_law_855 : decode cL_law 855 = .ok (.iaload, 1) := by decide +kernel
theorem dL_law_856 : decode cL_law 856 = .ok (.invokevirtual 122, 3) := by decide +kernel
theorem dL_law_859 : decode cL_law 859 = .ok (.if_icmp .eq 258, 3) := by decide +kernel
theorem dL_law_862 : decode cL_law 862 = .ok (.iconst 0, 1) := by decide +kernel
theorem dL_law_863 : decode cL_law 863 = .ok (.ireturn, 1) := by decide +kernel
theorem dL_law_864 : decode cL_law 864 = .ok (.aload_n 1, 1) := by decide +kernel
theorem dL_law_865 : decode cL_law 865 = .ok (.aload_n 0, 1) := by decide +kernel
theorem dL_law_866 : decode cL_law 866 = .ok (.iload 4, 2) := by decide +kernel
theorem dL_law_868 : decode cL_law 868 = .ok (.iconst 1, 1) := by decide +kernel
theorem dL_law_869 : decode cL_law 869 = .ok (.iadd, 1) := by decide +kernel
theorem dL_law_870 : decode cL_law 870 = .ok (.iaload, 1) := by decide +kernel
theorem dL_law_871 : decode cL_law 871 = .ok (.aload_n 0, 1) := by decide +kernel
theorem dL_law_872 : decode cL_law 872 = .ok (.iload 4, 2) := by decide +kernel
theorem dL_law_874 : decode cL_law 874 = .ok (.iconst 2, 1) := by decide +kernel
theorem dL_law_875 : decode cL_law 875 = .ok (.iadd, 1) := by decide +kernel
theorem dL_law_876 : decode cL_law 876 = .ok (.iaload, 1) := by decide +kernel
theorem dL_law_877 : decode cL_law 877 = .ok (.aload_n 3, 1) := by decide +kernel
theorem dL_law_878 : decode cL_law 878 = .ok (.invokestatic 123, 3) := by decide +kernel
theorem dL_law_881 : decode cL_law 881 = .ok (.istore 5, 2) := by decide +kernel
theorem dL_law_883 : decode cL_law 883 = .ok (.aload_n 2, 1) := by decide +kernel
theorem dL_law_884 : decode cL_law 884 = .ok (.aload_n 0, 1) := by decide +kernel
theorem dL_law_885 : decode cL_law 885 = .ok (.iload 4, 2) := by decide +kernel
theorem dL_law_887 : decode cL_law 887 = .ok (.iconst 1, 1) := by decide +kernel
theorem dL_law_888 : decode cL_law 888 = .ok (.iadd, 1) := by decide +kernel
theorem dL_law_889 : decode cL_law 889 = .ok (.iaload, 1) := by decide +kernel
theorem dL_law_890 : decode cL_law 890 = .ok (.aload_n 0, 1) := by decide +kernel
theorem dL_law_891 : decode cL_law 891 = .ok (.iload 4, 2) := by decide +kernel
theorem dL_law_893 : decode cL_law 893 = .ok (.iconst 2, 1) := by decide +kernel
theorem dL_law_894 : decode cL_law 894 = .ok (.iadd, 1) := by decide +kernel
theorem dL_law_895 : decode cL_law 895 = .ok (.iaload, 1) := by decide +kernel
theorem dL_law_896 : decode cL_law 896 = .ok (.invokevirtual 125, 3) := by decide +kernel
theorem dL_law_899 : decode cL_law 899 = .ok (.istore 6, 2) := by decide +kernel
theorem dL_law_901 : decode cL_law 901 = .ok (.aload_n 2, 1) := by decide +kernel
theorem dL_law_902 : decode cL_law 902 = .ok (.invokevirtual 76, 3) := by decide +kernel
theorem dL_law_905 : decode cL_law 905 = .ok (.iload 5, 2) := by decide +kernel
theorem dL_law_907 : decode cL_law 907 = .ok (.if_icmp .eq 5, 3) := by decide +kernel
theorem dL_law_910 : decode cL_law 910 = .ok (.iconst 0, 1) := by decide +kernel
theorem dL_law_911 : decode cL_law 911 = .ok (.ireturn, 1) := by decide +kernel
theorem dL_law_912 : decode cL_law 912 = .ok (.iload 5, 2) := by decide +kernel
theorem dL_law_914 : decode cL_law 914 = .ok (.ifCond .ne 15, 3) := by decide +kernel
theorem dL_law_917 : decode cL_law 917 = .ok (.aload_n 3, 1) := by decide +kernel
theorem dL_law_918 : decode cL_law 918 = .ok (.iconst 0, 1) := by decide +kernel
theorem dL_law_919 : decode cL_law 919 = .ok (.laload, 1) := by decide +kernel
theorem dL_law_920 : decode cL_law 920 = .ok (.iload 6, 2) := by decide +kernel
theorem dL_law_922 : decode cL_law 922 = .ok (.i2l, 1) := by decide +kernel
theorem dL_law_923 : decode cL_law 923 = .ok (.lcmp, 1) := by decide +kernel
theorem dL_law_924 : decode cL_law 924 = .ok (.ifCond .eq 5, 3) := by decide +kernel
theorem dL_law_927 : decode cL_law 927 = .ok (.iconst 0, 1) := by decide +kernel
theorem dL_law_928 : decode cL_law 928 = .ok (.ireturn, 1) := by decide +kernel
theorem dL_law_929 : decode cL_law 929 = .ok (.goto 188, 3) := by decide +kernel
theorem dL_law_932 : decode cL_law 932 = .ok (.aload_n 1, 1) := by decide +kernel
theorem dL_law_933 : decode cL_law 933 = .ok (.aload_n 0, 1) := by decide +kernel
theorem dL_law_934 : decode cL_law 934 = .ok (.iload 4, 2) := by decide +kernel
theorem dL_law_936 : decode cL_law 936 = .ok (.iconst 1, 1) := by decide +kernel
theorem dL_law_937 : decode cL_law 937 = .ok (.iadd, 1) := by decide +kernel
theorem dL_law_938 : decode cL_law 938 = .ok (.iaload, 1) := by decide +kernel
theorem dL_law_939 : decode cL_law 939 = .ok (.aload_n 0, 1) := by decide +kernel
theorem dL_law_940 : decode cL_law 940 = .ok (.iload 4, 2) := by decide +kernel
theorem dL_law_942 : decode cL_law 942 = .ok (.iconst 2, 1) := by decide +kernel
theorem dL_law_943 : decode cL_law 943 = .ok (.iadd, 1) := by decide +kernel
theorem dL_law_944 : decode cL_law 944 = .ok (.iaload, 1) := by decide +kernel
theorem dL_law_945 : decode cL_law 945 = .ok (.aload_n 0, 1) := by decide +kernel
theorem dL_law_946 : decode cL_law 946 = .ok (.iload 4, 2) := by decide +kernel
theorem dL_law_948 : decode cL_law 948 = .ok (.iconst 3, 1) := by decide +kernel
theorem dL_law_949 : decode cL_law 949 = .ok (.iadd, 1) := by decide +kernel
theorem dL_law_950 : decode cL_law 950 = .ok (.iaload, 1) := by decide +kernel
theorem dL_law_951 : decode cL_law 951 = .ok (.invokestatic 126, 3) := by decide +kernel
theorem dL_law_954 : decode cL_law 954 = .ok (.istore 5, 2) := by decide +kernel
theorem dL_law_956 : decode cL_law 956 = .ok (.aload_n 2, 1) := by decide +kernel
theorem dL_law_957 : decode cL_law 957 = .ok (.aload_n 0, 1) := by decide +kernel
theorem dL_law_958 : decode cL_law 958 = .ok (.iload 4, 2) := by decide +kernel
theorem dL_law_960 : decode cL_law 960 = .ok (.iconst 1, 1) := by decide +kernel
theorem dL_law_961 : decode cL_law 961 = .ok (.iadd, 1) := by decide +kernel
theorem dL_law_962 : decode cL_law 962 = .ok (.iaload, 1) := by decide +kernel
theorem dL_law_963 : decode cL_law 963 = .ok (.aload_n 0, 1) := by decide +kernel
theorem dL_law_964 : decode cL_law 964 = .ok (.iload 4, 2) := by decide +kernel
theorem dL_law_966 : decode cL_law 966 = .ok (.iconst 2, 1) := by decide +kernel
theorem dL_law_967 : decode cL_law 967 = .ok (.iadd, 1) := by decide +kernel
theorem dL_law_968 : decode cL_law 968 = .ok (.iaload, 1) := by decide +kernel
theorem dL_law_969 : decode cL_law 969 = .ok (.aload_n 0, 1) := by decide +kernel
theorem dL_law_970 : decode cL_law 970 = .ok (.iload 4, 2) := by decide +kernel
theorem dL_law_972 : decode cL_law 972 = .ok (.iconst 3, 1) := by decide +kernel
theorem dL_law_973 : decode cL_law 973 = .ok (.iadd, 1) := by decide +kernel
theorem dL_law_974 : decode cL_law 974 = .ok (.iaload, 1) := by decide +kernel
theorem dL_law_975 : decode cL_law 975 = .ok (.invokevirtual 129, 3) := by decide +kernel
theorem dL_law_978 : decode cL_law 978 = .ok (.aload_n 2, 1) := by decide +kernel
theorem dL_law_979 : decode cL_law 979 = .ok (.invokevirtual 76, 3) := by decide +kernel
theorem dL_law_982 : decode cL_law 982 = .ok (.iload 5, 2) := by decide +kernel
theorem dL_law_984 : decode cL_law 984 = .ok (.if_icmp .eq 5, 3) := by decide +kernel
theorem dL_law_987 : decode cL_law 987 = .ok (.iconst 0, 1) := by decide +kernel
theorem dL_law_988 : decode cL_law 988 = .ok (.ireturn, 1) := by decide +kernel
theorem dL_law_989 : decode cL_law 989 = .ok (.goto 128, 3) := by decide +kernel
theorem dL_law_992 : decode cL_law 992 = .ok (.aload_n 1, 1) := by decide +kernel
theorem dL_law_993 : decode cL_law 993 = .ok (.aload_n 0, 1) := by decide +kernel
theorem dL_law_994 : decode cL_law 994 = .ok (.iload 4, 2) := by decide +kernel
theorem dL_law_996 : decode cL_law 996 = .ok (.iconst 1, 1) := by decide +kernel
theorem dL_law_997 : decode cL_law 997 = .ok (.iadd, 1) := by decide +kernel
theorem dL_law_998 : decode cL_law 998 = .ok (.iaload, 1) := by decide +kernel
theorem dL_law_999 : decode cL_law 999 = .ok (.aload_n 3, 1) := by decide +kernel
theorem dL_law_1000 : decode cL_law 1000 = .ok (.invokestatic 130, 3) := by decide +kernel
theorem dL_law_1003 : decode cL_law 1003 = .ok (.istore 5, 2) := by decide +kernel
theorem dL_law_1005 : decode cL_law 1005 = .ok (.aload_n 2, 1) := by decide +kernel
theorem dL_law_1006 : decode cL_law 1006 = .ok (.aload_n 0, 1) := by decide +kernel
theorem dL_law_1007 : decode cL_law 1007 = .ok (.iload 4, 2) := by decide +kernel
theorem dL_law_1009 : decode cL_law 1009 = .ok (.iconst 1, 1) := by decide +kernel
theorem dL_law_1010 : decode cL_law 1010 = .ok (.iadd, 1) := by decide +kernel
theorem dL_law_1011 : decode cL_law 1011 = .ok (.iaload, 1) := by decide +kernel
theorem dL_law_1012 : decode cL_law 1012 = .ok (.invokevirtual 132, 3) := by decide +kernel
theorem dL_law_1015 : decode cL_law 1015 = .ok (.istore 6, 2) := by decide +kernel
theorem dL_law_1017 : decode cL_law 1017 = .ok (.aload_n 2, 1) := by decide +kernel
theorem dL_law_1018 : decode cL_law 1018 = .ok (.invokevirtual 76, 3) := by decide +kernel
theorem dL_law_1021 : decode cL_law 1021 = .ok (.iload 5, 2) := by decide +kernel
theorem dL_law_1023 : decode cL_law 1023 = .ok (.if_icmp .eq 5, 3) := by decide +kernel
theorem dL_law_1026 : decode cL_law 1026 = .ok (.iconst 0, 1) := by decide +kernel
theorem dL_law_1027 : decode cL_law 1027 = .ok (.ireturn, 1) := by decide +kernel
theorem dL_law_1028 : decode cL_law 1028 = .ok (.iload 5, 2) := by decide +kernel
theorem dL_law_1030 : decode cL_law 1030 = .ok (.ifCond .ne 22, 3) := by decide +kernel
theorem dL_law_1033 : decode cL_law 1033 = .ok (.aload_n 3, 1) := by decide +kernel
theorem dL_law_1034 : decode cL_law 1034 = .ok (.iconst 0, 1) := by decide +kernel
theorem dL_law_1035 : decode cL_law 1035 = .ok (.laload, 1) := by decide +kernel
theorem dL_law_1036 : decode cL_law 1036 = .ok (.iload 6, 2) := by decide +kernel
theorem dL_law_1038 : decode cL_law 1038 = .ok (.ifCond .eq 7, 3) := by decide +kernel
theorem dL_law_1041 : decode cL_law 1041 = .ok (.lconst 1, 1) := by decide +kernel
theorem dL_law_1042 : decode cL_law 1042 = .ok (.goto 4, 3) := by decide +kernel
theorem dL_law_1045 : decode cL_law 1045 = .ok (.lconst 0, 1) := by decide +kernel
theorem dL_law_1046 : decode cL_law 1046 = .ok (.lcmp, 1) := by decide +kernel
theorem dL_law_1047 : decode cL_law 1047 = .ok (.ifCond .eq 5, 3) := by decide +kernel
theorem dL_law_1050 : decode cL_law 1050 = .ok (.iconst 0, 1) := by decide +kernel
theorem dL_law_1051 : decode cL_law 1051 = .ok (.ireturn, 1) := by decide +kernel
theorem dL_law_1052 : decode cL_law 1052 = .ok (.goto 65, 3) := by decide +kernel
theorem dL_law_1055 : decode cL_law 1055 = .ok (.aload_n 1, 1) := by decide +kernel
theorem dL_law_1056 : decode cL_law 1056 = .ok (.aload_n 0, 1) := by decide +kernel
theorem dL_law_1057 : decode cL_law 1057 = .ok (.iload 4, 2) := by decide +kernel
theorem dL_law_1059 : decode cL_law 1059 = .ok (.iconst 1, 1) := by decide +kernel
theorem dL_law_1060 : decode cL_law 1060 = .ok (.iadd, 1) := by decide +kernel
theorem dL_law_1061 : decode cL_law 1061 = .ok (.iaload, 1) := by decide +kernel
theorem dL_law_1062 : decode cL_law 1062 = .ok (.aload_n 0, 1) := by decide +kernel
theorem dL_law_1063 : decode cL_law 1063 = .ok (.iload 4, 2) := by decide +kernel
theorem dL_law_1065 : decode cL_law 1065 = .ok (.iconst 2, 1) := by decide +kernel
theorem dL_law_1066 : decode cL_law 1066 = .ok (.iadd, 1) := by decide +kernel
theorem dL_law_1067 : decode cL_law 1067 = .ok (.iaload, 1) := by decide +kernel
theorem dL_law_1068 : decode cL_law 1068 = .ok (.invokevirtual 133, 3) := by decide +kernel
theorem dL_law_1071 : decode cL_law 1071 = .ok (.aload_n 2, 1) := by decide +kernel
theorem dL_law_1072 : decode cL_law 1072 = .ok (.aload_n 0, 1) := by decide +kernel
theorem dL_law_1073 : decode cL_law 1073 = .ok (.iload 4, 2) := by decide +kernel
theorem dL_law_1075 : decode cL_law 1075 = .ok (.iconst 1, 1) := by decide +kernel
theorem dL_law_1076 : decode cL_law 1076 = .ok (.iadd, 1) := by decide +kernel
theorem dL_law_1077 : decode cL_law 1077 = .ok (.iaload, 1) := by decide +kernel
theorem dL_law_1078 : decode cL_law 1078 = .ok (.aload_n 0, 1) := by decide +kernel
theorem dL_law_1079 : decode cL_law 1079 = .ok (.iload 4, 2) := by decide +kernel
theorem dL_law_1081 : decode cL_law 1081 = .ok (.iconst 2, 1) := by decide +kernel
theorem dL_law_1082 : decode cL_law 1082 = .ok (.iadd, 1) := by decide +kernel
theorem dL_law_1083 : decode cL_law 1083 = .ok (.iaload, 1) := by decide +kernel
theorem dL_law_1084 : decode cL_law 1084 = .ok (.invokevirtual 136, 3) := by decide +kernel
theorem dL_law_1087 : decode cL_law 1087 = .ok (.if_icmp .eq 30, 3) := by decide +kernel
theorem dL_law_1090 : decode cL_law 1090 = .ok (.iconst 0, 1) := by decide +kernel
theorem dL_law_1091 : decode cL_law 1091 = .ok (.ireturn, 1) := by decide +kernel
theorem dL_law_1092 : decode cL_law 1092 = .ok (.aload_n 1, 1) := by decide +kernel
theorem dL_law_1093 : decode cL_law 1093 = .ok (.aload_n 0, 1) := by decide +kernel
theorem dL_law_1094 : decode cL_law 1094 = .ok (.iload 4, 2) := by decide +kernel
theorem dL_law_1096 : decode cL_law 1096 = .ok (.iconst 1, 1) := by decide +kernel
theorem dL_law_1097 : decode cL_law 1097 = .ok (.iadd, 1) := by decide +kernel
theorem dL_law_1098 : decode cL_law 1098 = .ok (.iaload, 1) := by decide +kernel
theorem dL_law_1099 : decode cL_law 1099 = .ok (.invokevirtual 137, 3) := by decide +kernel
theorem dL_law_1102 : decode cL_law 1102 = .ok (.aload_n 2, 1) := by decide +kernel
theorem dL_law_1103 : decode cL_law 1103 = .ok (.aload_n 0, 1) := by decide +kernel
theorem dL_law_1104 : decode cL_law 1104 = .ok (.iload 4, 2) := by decide +kernel
theorem dL_law_1106 : decode cL_law 1106 = .ok (.iconst 1, 1) := by decide +kernel
theorem dL_law_1107 : decode cL_law 1107 = .ok (.iadd, 1) := by decide +kernel
theorem dL_law_1108 : decode cL_law 1108 = .ok (.iaload, 1) := by decide +kernel
theorem dL_law_1109 : decode cL_law 1109 = .ok (.invokevirtual 140, 3) := by decide +kernel
theorem dL_law_1112 : decode cL_law 1112 = .ok (.if_icmp .eq 5, 3) := by decide +kernel
theorem dL_law_1115 : decode cL_law 1115 = .ok (.iconst 0, 1) := by decide +kernel
theorem dL_law_1116 : decode cL_law 1116 = .ok (.ireturn, 1) := by decide +kernel
theorem dL_law_1117 : decode cL_law 1117 = .ok (.iinc 4 4, 3) := by decide +kernel
theorem dL_law_1120 : decode cL_law 1120 = .ok (.goto (-1047), 3) := by decide +kernel
theorem dL_law_1123 : decode cL_law 1123 = .ok (.iconst 1, 1) := by decide +kernel
theorem dL_law_1124 : decode cL_law 1124 = .ok (.ireturn, 1) := by decide +kernel
