theorem dX8_hasTwins_7 : decode cX8_hasTwins 7 = .ok (.arraylength, 1) := by decide +kernel
theorem dX8_hasTwins_8 : decode cX8_hasTwins 8 = .ok (.if_icmp .ge 39, 3) := by decide +kernel
theorem dX8_hasTwins_11 : decode cX8_hasTwins 11 = .ok (.iconst 0, 1) := by decide +kernel
theorem dX8_hasTwins_12 : decode cX8_hasTwins 12 = .ok (.istore_n 2, 1) := by decide +kernel
theorem dX8_hasTwins_13 : decode cX8_hasTwins 13 = .ok (.iload_n 2, 1) := by decide +kernel
theorem dX8_hasTwins_14 : decode cX8_hasTwins 14 = .ok (.iload_n 1, 1) := by decide +kernel
theorem dX8_hasTwins_15 : decode cX8_hasTwins 15 = .ok (.if_icmp .ge 26, 3) := by decide +kernel
theorem dX8_hasTwins_18 : decode cX8_hasTwins 18 = .ok (.aload_n 0, 1) := by decide +kernel
theorem dX8_hasTwins_19 : decode cX8_hasTwins 19 = .ok (.getfield 21, 3) := by decide +kernel
theorem dX8_hasTwins_22 : decode cX8_hasTwins 22 = .ok (.iload_n 1, 1) := by decide +kernel
theorem dX8_hasTwins_23 : decode cX8_hasTwins 23 = .ok (.iaload, 1) := by decide +kernel
theorem dX8_hasTwins_24 : decode cX8_hasTwins 24 = .ok (.aload_n 0, 1) := by decide +kernel
theorem dX8_hasTwins_25 : decode cX8_hasTwins 25 = .ok (.getfield 21, 3) := by decide +kernel
theorem dX8_hasTwins_28 : decode cX8_hasTwins 28 = .ok (.iload_n 2, 1) := by decide +kernel
theorem dX8_hasTwins_29 : decode cX8_hasTwins 29 = .ok (.iaload, 1) := by decide +kernel
theorem dX8_hasTwins_30 : decode cX8_hasTwins 30 = .ok (.if_icmp .ne 5, 3) := by decide +kernel
theorem dX8_hasTwins_33 : decode cX8_hasTwins 33 = .ok (.iconst 1, 1) := by decide +kernel
theorem dX8_hasTwins_34 : decode cX8_hasTwins 34 = .ok (.ireturn, 1) := by decide +kernel
theorem dX8_hasTwins_35 : decode cX8_hasTwins 35 = .ok (.iinc 2 1, 3) := by decide +kernel
theorem dX8_hasTwins_38 : decode cX8_hasTwins 38 = .ok (.goto (-25), 3) := by decide +kernel
theorem dX8_hasTwins_41 : decode cX8_hasTwins 41 = .ok (.iinc 1 1, 3) := by decide +kernel
theorem dX8_hasTwins_44 : decode cX8_hasTwins 44 = .ok (.goto (-42), 3) := by decide +kernel
theorem dX8_hasTwins_47 : decode cX8_hasTwins 47 = .ok (.iconst 0, 1) := by decide +kernel
theorem dX8_hasTwins_48 : decode cX8_hasTwins 48 = .ok (.istore_n 1, 1) := by decide +kernel
theorem dX8_hasTwins_49 : decode cX8_hasTwins 49 = .ok (.iload_n 1, 1) := by decide +kernel
theorem dX8_hasTwins_50 : decode cX8_hasTwins 50 = .ok (.aload_n 0, 1) := by decide +kernel
theorem dX8_hasTwins_51 : decode cX8_hasTwins 51 = .ok (.getfield 25, 3) := by decide +kernel
theorem dX8_hasTwins_54 : decode cX8_hasTwins 54 = .ok (.arraylength, 1) := by decide +kernel
theorem dX8_hasTwins_55 : decode cX8_hasTwins 55 = .ok (.if_icmp .ge 54, 3) := by decide +kernel
theorem dX8_hasTwins_58 : decode cX8_hasTwins 58 = .ok (.iconst 0, 1) := by decide +kernel
theorem dX8_hasTwins_59 : decode cX8_hasTwins 59 = .ok (.istore_n 2, 1) := by decide +kernel
theorem dX8_hasTwins_60 : decode cX8_hasTwins 60 = .ok (.iload_n 2, 1) := by decide +kernel
theorem dX8_hasTwins_61 : decode cX8_hasTwins 61 = .ok (.iload_n 1, 1) := by decide +kernel
theorem dX8_hasTwins_62 : decode cX8_hasTwins 62 = .ok (.if_icmp .ge 41, 3) := by decide +kernel
theorem dX8_hasTwins_65 : decode cX8_hasTwins 65 = .ok (.aload_n 0, 1) := by decide +kernel
theorem dX8_hasTwins_66 : decode cX8_hasTwins 66 = .ok (.getfield 25, 3) := by decide +kernel
theorem dX8_hasTwins_69 : decode cX8_hasTwins 69 = .ok (.iload_n 1, 1) := by decide +kernel
theorem dX8_hasTwins_70 : decode cX8_hasTwins 70 = .ok (.iaload, 1) := by decide +kernel
theorem dX8_hasTwins_71 : decode cX8_hasTwins 71 = .ok (.aload_n 0, 1) := by decide +kernel
theorem dX8_hasTwins_72 : decode cX8_hasTwins 72 = .ok (.getfield 25, 3) := by decide +kernel
theorem dX8_hasTwins_75 : decode cX8_hasTwins 75 = .ok (.iload_n 2, 1) := by decide +kernel
theorem dX8_hasTwins_76 : decode cX8_hasTwins 76 = .ok (.iaload, 1) := by decide +kernel
theorem dX8_hasTwins_77 : decode cX8_hasTwins 77 = .ok (.if_icmp .ne 20, 3) := by decide +kernel
theorem dX8_hasTwins_80 : decode cX8_hasTwins 80 = .ok (.aload_n 0, 1) := by decide +kernel
theorem dX8_hasTwins_81 : decode cX8_hasTwins 81 = .ok (.getfield 28, 3) := by decide +kernel
theorem dX8_hasTwins_84 : decode cX8_hasTwins 84 = .ok (.iload_n 1, 1) := by decide +kernel
theorem dX8_hasTwins_85 : decode cX8_hasTwins 85 = .ok (.iaload, 1) := by decide +kernel
theorem dX8_hasTwins_86 : decode cX8_hasTwins 86 = .ok (.aload_n 0, 1) := by decide +kernel
theorem dX8_hasTwins_87 : decode cX8_hasTwins 87 = .ok (.getfield 28, 3) := by decide +kernel
theorem dX8_hasTwins_90 : decode cX8_hasTwins 90 = .ok (.iload_n 2, 1) := by decide +kernel
theorem dX8_hasTwins_91 : decode cX8_hasTwins 91 = .ok (.iaload, 1) := by decide +kernel
theorem dX8_hasTwins_92 : decode cX8_hasTwins 92 = .ok (.if_icmp .ne 5, 3) := by decide +kernel
theorem dX8_hasTwins_95 : decode cX8_hasTwins 95 = .ok (.iconst 1, 1) := by decide +kernel
theorem dX8_hasTwins_96 : decode cX8_hasTwins 96 = .ok (.ireturn, 1) := by decide +kernel
theorem dX8_hasTwins_97 : decode cX8_hasTwins 97 = .ok (.iinc 2 1, 3) := by decide +kernel
theorem dX8_hasTwins_100 : decode cX8_hasTwins 100 = .ok (.goto (-40), 3) := by decide +kernel
theorem dX8_hasTwins_103 : decode cX8_hasTwins 103 = .ok (.iinc 1 1, 3) := by decide +kernel
theorem dX8_hasTwins_106 : decode cX8_hasTwins 106 = .ok (.goto (-57), 3) := by decide +kernel
theorem dX8_hasTwins_109 : decode cX8_hasTwins 109 = .ok (.iconst 0, 1) := by decide +kernel
theorem dX8_hasTwins_110 : decode cX8_hasTwins 110 = .ok (.ireturn, 1) := by decide +kernel
theorem dX8_isBalanced_0 : decode cX8_isBalanced 0 = .ok (.lconst 0, 1) := by decide +kernel
theorem dX8_isBalanced_1 : decode cX8_isBalanced 1 = .ok (.lstore_n 1, 1) := by decide +kernel
theorem dX8_isBalanced_2 : decode cX8_isBalanced 2 = .ok (.iconst 0, 1) := by decide +kernel
theorem dX8_isBalanced_3 : decode cX8_isBalanced 3 = .ok (.istore_n 3, 1) := by decide +kernel
theorem dX8_isBalanced_4 : decode cX8_isBalanced 4 = .ok (.iload_n 3, 1) := by decide +kernel
theorem dX8_isBalanced_5 : decode cX8_isBalanced 5 = .ok (.aload_n 0, 1) := by decide +kernel
theorem dX8_isBalanced_6 : decode cX8_isBalanced 6 = .ok (.getfield 41, 3) := by decide +kernel
theorem dX8_isBalanced_9 : decode cX8_isBalanced 9 = .ok (.arraylength, 1) := by decide +kernel
theorem dX8_isBalanced_10 : decode cX8_isBalanced 10 = .ok (.if_icmp .ge 22, 3) := by decide +kernel
theorem dX8_isBalanced_13 : decode cX8_isBalanced 13 = .ok (.lload_n 1, 1) := by decide +kernel
theorem dX8_isBalanced_14 : decode cX8_isBalanced 14 = .ok (.aload_n 0, 1) := by decide +kernel
theorem dX8_isBalanced_15 : decode cX8_isBalanced 15 = .ok (.getfield 41, 3) := by decide +kernel
theorem dX8_isBalanced_18 : decode cX8_isBalanced 18 = .ok (.iload_n 3, 1) := by decide +kernel
theorem dX8_isBalanced_19 : decode cX8_isBalanced 19 = .ok (.aaload, 1) := by decide +kernel
theorem dX8_isBalanced_20 : decode cX8_isBalanced 20 = .ok (.getfield 80, 3) := by decide +kernel
theorem dX8_isBalanced_23 : decode cX8_isBalanced 23 = .ok (.i2l, 1) := by decide +kernel
theorem dX8_isBalanced_24 : decode cX8_isBalanced 24 = .ok (.ladd, 1) := by decide +kernel
theorem dX8_isBalanced_25 : decode cX8_isBalanced 25 = .ok (.lstore_n 1, 1) := by decide +kernel
theorem dX8_isBalanced_26 : decode cX8_isBalanced 26 = .ok (.iinc 3 1, 3) := by decide +kernel
theorem dX8_isBalanced_29 : decode cX8_isBalanced 29 = .ok (.goto (-25), 3) := by decide +kernel
theorem dX8_isBalanced_32 : decode cX8_isBalanced 32 = .ok (.iconst 0, 1) := by decide +kernel
theorem dX8_isBalanced_33 : decode cX8_isBalanced 33 = .ok (.istore_n 3, 1) := by decide +kernel
theorem dX8_isBalanced_34 : decode cX8_isBalanced 34 = .ok (.iload_n 3, 1) := by decide +kernel
theorem dX8_isBalanced_35 : decode cX8_isBalanced 35 = .ok (.aload_n 0, 1) := by decide +kernel
theorem dX8_isBalanced_36 : decode cX8_isBalanced 36 = .ok (.getfield 31, 3) := by decide +kernel
theorem dX8_isBalanced_39 : decode cX8_isBalanced 39 = .ok (.arraylength, 1) := by decide +kernel
theorem dX8_isBalanced_40 : decode cX8_isBalanced 40 = .ok (.if_icmp .ge 22, 3) := by decide +kernel
theorem dX8_isBalanced_43 : decode cX8_isBalanced 43 = .ok (.lload_n 1, 1) := by decide +kernel
theorem dX8_isBalanced_44 : decode cX8_isBalanced 44 = .ok (.aload_n 0, 1) := by decide +kernel
theorem dX8_isBalanced_45 : decode cX8_isBalanced 45 = .ok (.getfield 31, 3) := by decide +kernel
theorem dX8_isBalanced_48 : decode cX8_isBalanced 48 = .ok (.iload_n 3, 1) := by decide +kernel
theorem dX8_isBalanced_49 : decode cX8_isBalanced 49 = .ok (.aaload, 1) := by decide +kernel
theorem dX8_isBalanced_50 : decode cX8_isBalanced 50 = .ok (.getfield 80, 3) := by decide +kernel
theorem dX8_isBalanced_53 : decode cX8_isBalanced 53 = .ok (.i2l, 1) := by decide +kernel
theorem dX8_isBalanced_54 : decode cX8_isBalanced 54 = .ok (.lsub, 1) := by decide +kernel
theorem dX8_isBalanced_55 : decode cX8_isBalanced 55 = .ok (.lstore_n 1, 1) := by decide +kernel
theorem dX8_isBalanced_56 : decode cX8_isBalanced 56 = .ok (.iinc 3 1, 3) := by decide +kernel
theorem dX8_isBalanced_59 : decode cX8_isBalanced 59 = .ok (.goto (-25), 3) := by decide +kernel
theorem dX8_isBalanced_62 : decode cX8_isBalanced 62 = .ok (.lload_n 1, 1) := by decide +kernel
theorem dX8_isBalanced_63 : decode cX8_isBalanced 63 = .ok (.lconst 0, 1) := by decide +kernel
theorem dX8_isBalanced_64 : decode cX8_isBalanced 64 = .ok (.lcmp, 1) := by decide +kernel
theorem dX8_isBalanced_65 : decode cX8_isBalanced 65 = .ok (.ifCond .ne 7, 3) := by decide +kernel
theorem dX8_isBalanced_68 : decode cX8_isBalanced 68 = .ok (.iconst 1, 1) := by decide +kernel
theorem dX8_isBalanced_69 : decode cX8_isBalanced 69 = .ok (.goto 4, 3) := by decide +kernel
theorem dX8_isBalanced_72 : decode cX8_isBalanced 72 = .ok (.iconst 0, 1) := by decide +kernel
theorem dX8_isBalanced_73 : decode cX8_isBalanced 73 = .ok (.ireturn, 1) := by decide +kernel
theorem dX8_hasAcceptedParents_0 : decode cX8_hasAcceptedParents 0 = .ok (.iconst 0, 1) := by decide +kernel
theorem dX8_hasAcceptedParents_1 : decode cX8_hasAcceptedParents 1 = .ok (.istore_n 1, 1) := by decide +kernel
theorem dX8_hasAcceptedParents_2 : decode cX8_hasAcceptedParents 2 = .ok (.iload_n 1, 1) := by decide +kernel
theorem dX8_hasAcceptedParents_3 : decode cX8_hasAcceptedParents 3 = .ok (.aload_n 0, 1) := by decide +kernel
theorem dX8_hasAcceptedParents_4 : decode cX8_hasAcceptedParents 4 = .ok (.getfield 35, 3) := by decide +kernel
theorem dX8_hasAcceptedParents_7 : decode cX8_hasAcceptedParents 7 = .ok (.arraylength, 1) := by decide +kernel
theorem dX8_hasAcceptedParents_8 : decode cX8_hasAcceptedParents 8 = .ok (.if_icmp .ge 24, 3) := by decide +kernel
theorem dX8_hasAcceptedParents_11 : decode cX8_hasAcceptedParents 11 = .ok (.aload_n 0, 1) := by decide +kernel
theorem dX8_hasAcceptedParents_12 : decode cX8_hasAcceptedParents 12 = .ok (.getfield 35, 3) := by decide +kernel
theorem dX8_hasAcceptedParents_15 : decode cX8_hasAcceptedParents 15 = .ok (.iload_n 1, 1) := by decide +kernel
theorem dX8_hasAcceptedParents_16 : decode cX8_hasAcceptedParents 16 = .ok (.aaload, 1) := by decide +kernel
theorem dX8_hasAcceptedParents_17 : decode cX8_hasAcceptedParents 17 = .ok (.getfield 51, 3) := by decide +kernel
theorem dX8_hasAcceptedParents_20 : decode cX8_hasAcceptedParents 20 = .ok (.iconst 3, 1) := by decide +kernel
theorem dX8_hasAcceptedParents_21 : decode cX8_hasAcceptedParents 21 = .ok (.if_icmp .eq 5, 3) := by decide +kernel
theorem dX8_hasAcceptedParents_24 : decode cX8_hasAcceptedParents 24 = .ok (.iconst 0, 1) := by decide +kernel
theorem dX8_hasAcceptedParents_25 : decode cX8_hasAcceptedParents 25 = .ok (.ireturn, 1) := by decide +kernel
theorem dX8_hasAcceptedParents_26 : decode cX8_hasAcceptedParents 26 = .ok (.iinc 1 1, 3) := by decide +kernel
theorem dX8_hasAcceptedParents_29 : decode cX8_hasAcceptedParents 29 = .ok (.goto (-27), 3) := by decide +kernel
theorem dX8_hasAcceptedParents_32 : decode cX8_hasAcceptedParents 32 = .ok (.iconst 1, 1) := by decide +kernel
theorem dX8_hasAcceptedParents_33 : decode cX8_hasAcceptedParents 33 = .ok (.ireturn, 1) := by decide +kernel
theorem dX8_hasRejectedParent_0 : decode cX8_hasRejectedParent 0 = .ok (.iconst 0, 1) := by decide +kernel
theorem dX8_hasRejectedParent_1 : decode cX8_hasRejectedParent 1 = .ok (.istore_n 1, 1) := by decide +kernel
theorem dX8_hasRejectedParent_2 : decode cX8_hasRejectedParent 2 = .ok (.iload_n 1, 1) := by decide +kernel
theorem dX8_hasRejectedParent_3 : decode cX8_hasRejectedParent 3 = .ok (.aload_n 0, 1) := by decide +kernel
theorem dX8_hasRejectedParent_4 : decode cX8_hasRejectedParent 4 = .ok (.getfield 35, 3) := by decide +kernel
theorem dX8_hasRejectedParent_7 : decode cX8_hasRejectedParent 7 = .ok (.arraylength, 1) := by decide +kernel
theorem dX8_hasRejectedParent_8 : decode cX8_hasRejectedParent 8 = .ok (.if_icmp .ge 24, 3) := by decide +kernel
theorem dX8_hasRejectedParent_11 : decode cX8_hasRejectedParent 11 = .ok (.aload_n 0, 1) := by decide +kernel
theorem dX8_hasRejectedParent_12 : decode cX8_hasRejectedParent 12 = .ok (.getfield 35, 3) := by decide +kernel
theorem dX8_hasRejectedParent_15 : decode cX8_hasRejectedParent 15 = .ok (.iload_n 1, 1) := by decide +kernel
theorem dX8_hasRejectedParent_16 : decode cX8_hasRejectedParent 16 = .ok (.aaload, 1) := by decide +kernel
theorem dX8_hasRejectedParent_17 : decode cX8_hasRejectedParent 17 = .ok (.getfield 51, 3) := by decide +kernel
theorem dX8_hasRejectedParent_20 : decode cX8_hasRejectedParent 20 = .ok (.iconst 4, 1) := by decide +kernel
theorem dX8_hasRejectedParent_21 : decode cX8_hasRejectedParent 21 = .ok (.if_icmp .ne 5, 3) := by decide +kernel
theorem dX8_hasRejectedParent_24 : decode cX8_hasRejectedParent 24 = .ok (.iconst 1, 1) := by decide +kernel
theorem dX8_hasRejectedParent_25 : decode cX8_hasRejectedParent 25 = .ok (.ireturn, 1) := by decide +kernel
theorem dX8_hasRejectedParent_26 : decode cX8_hasRejectedParent 26 = .ok (.iinc 1 1, 3) := by decide +kernel
theorem dX8_hasRejectedParent_29 : decode cX8_hasRejectedParent 29 = .ok (.goto (-27), 3) := by decide +kernel
theorem dX8_hasRejectedParent_32 : decode cX8_hasRejectedParent 32 = .ok (.iconst 0, 1) := by decide +kernel
theorem dX8_hasRejectedParent_33 : decode cX8_hasRejectedParent 33 = .ok (.ireturn, 1) := by decide +kernel
theorem dX8_hasAcceptedRival_0 : decode cX8_hasAcceptedRival 0 = .ok (.iconst 0, 1) := by decide +kernel
theorem dX8_hasAcceptedRival_1 : decode cX8_hasAcceptedRival 1 = .ok (.istore_n 1, 1) := by decide +kernel
theorem dX8_hasAcceptedRival_2 : decode cX8_hasAcceptedRival 2 = .ok (.iload_n 1, 1) := by decide +kernel
theorem dX8_hasAcceptedRival_3 : decode cX8_hasAcceptedRival 3 = .ok (.aload_n 0, 1) := by decide +kernel
theorem dX8_hasAcceptedRival_4 : decode cX8_hasAcceptedRival 4 = .ok (.getfield 41, 3) := by decide +kernel
theorem dX8_hasAcceptedRival_7 : decode cX8_hasAcceptedRival 7 = .ok (.arraylength, 1) := by decide +kernel
theorem dX8_hasAcceptedRival_8 : decode cX8_hasAcceptedRival 8 = .ok (.if_icmp .ge 23, 3) := by decide +kernel
theorem dX8_hasAcceptedRival_11 : decode cX8_hasAcceptedRival 11 = .ok (.aload_n 0, 1) := by decide +kernel
theorem dX8_hasAcceptedRival_12 : decode cX8_hasAcceptedRival 12 = .ok (.getfield 41, 3) := by decide +kernel
theorem dX8_hasAcceptedRival_15 : decode cX8_hasAcceptedRival 15 = .ok (.iload_n 1, 1) := by decide +kernel
theorem dX8_hasAcceptedRival_16 : decode cX8_hasAcceptedRival 16 = .ok (.aaload, 1) := by decide +kernel
theorem dX8_hasAcceptedRival_17 : decode cX8_hasAcceptedRival 17 = .ok (.getfield 83, 3) := by decide +kernel
theorem dX8_hasAcceptedRival_20 : decode cX8_hasAcceptedRival 20 = .ok (.ifnull 5, 3) := by decide +kernel
theorem dX8_hasAcceptedRival_23 : decode cX8_hasAcceptedRival 23 = .ok (.iconst 1, 1) := by decide +kernel
theorem dX8_hasAcceptedRival_24 : decode cX8_hasAcceptedRival 24 = .ok (.ireturn, 1) := by decide +kernel
theorem dX8_hasAcceptedRival_25 : decode cX8_hasAcceptedRival 25 = .ok (.iinc 1 1, 3) := by decide +kernel
theorem dX8_hasAcceptedRival_28 : decode cX8_hasAcceptedRival 28 = .ok (.goto (-26), 3) := by decide +kernel
theorem dX8_hasAcceptedRival_31 : decode cX8_hasAcceptedRival 31 = .ok (.iconst 0, 1) := by decide +kernel
theorem dX8_hasAcceptedRival_32 : decode cX8_hasAcceptedRival 32 = .ok (.ireturn, 1) := by decide +kernel
theorem dX8_hasStrongParents_0 : decode cX8_hasStrongParents 0 = .ok (.iconst 0, 1) := by decide +kernel
theorem dX8_hasStrongParents_1 : decode cX8_hasStrongParents 1 = .ok (.istore_n 1, 1) := by decide +kernel
theorem dX8_hasStrongParents_2 : decode cX8_hasStrongParents 2 = .ok (.iload_n 1, 1) := by decide +kernel
theorem dX8_hasStrongParents_3 : decode cX8_hasStrongParents 3 = .ok (.aload_n 0, 1) := by decide +kernel
theorem dX8_hasStrongParents_4 : decode cX8_hasStrongParents 4 = .ok (.getfield 35, 3) := by decide +kernel
theorem dX8_hasStrongParents_7 : decode cX8_hasStrongParents 7 = .ok (.arraylength, 1) := by decide +kernel
theorem dX8_hasStrongParents_8 : decode cX8_hasStrongParents 8 = .ok (.if_icmp .ge 23, 3) := by decide +kernel
theorem dX8_hasStrongParents_11 : decode cX8_hasStrongParents 11 = .ok (.aload_n 0, 1) := by decide +kernel
theorem dX8_hasStrongParents_12 : decode cX8_hasStrongParents 12 = .ok (.getfield 35, 3) := by decide +kernel
theorem dX8_hasStrongParents_15 : decode cX8_hasStrongParents 15 = .ok (.iload_n 1, 1) := by decide +kernel
theorem dX8_hasStrongParents_16 : decode cX8_hasStrongParents 16 = .ok (.aaload, 1) := by decide +kernel
theorem dX8_hasStrongParents_17 : decode cX8_hasStrongParents 17 = .ok (.getfield 64, 3) := by decide +kernel
theorem dX8_hasStrongParents_20 : decode cX8_hasStrongParents 20 = .ok (.ifCond .ne 5, 3) := by decide +kernel
theorem dX8_hasStrongParents_23 : decode cX8_hasStrongParents 23 = .ok (.iconst 0, 1) := by decide +kernel
theorem dX8_hasStrongParents_24 : decode cX8_hasStrongParents 24 = .ok (.ireturn, 1) := by decide +kernel
theorem dX8_hasStrongParents_25 : decode cX8_hasStrongParents 25 = .ok (.iinc 1 1, 3) := by decide +kernel
theorem dX8_hasStrongParents_28 : decode cX8_hasStrongParents 28 = .ok (.goto (-26), 3) := by decide +kernel
theorem dX8_hasStrongParents_31 : decode cX8_hasStrongParents 31 = .ok (.iconst 1, 1) := by decide +kernel
theorem dX8_hasStrongParents_32 : decode cX8_hasStrongParents 32 = .ok (.ireturn, 1) := by decide +kernel
theorem dX8_isLiked_0 : decode cX8_isLiked 0 = .ok (.aload_n 0, 1) := by decide +kernel
theorem dX8_isLiked_1 : decode cX8_isLiked 1 = .ok (.invokevirtual 70, 3) := by decide +kernel
theorem dX8_isLiked_4 : decode cX8_isLiked 4 = .ok (.ifCond .ne 5, 3) := by decide +kernel
theorem dX8_isLiked_7 : decode cX8_isLiked 7 = .ok (.iconst 0, 1) := by decide +kernel
theorem dX8_isLiked_8 : decode cX8_isLiked 8 = .ok (.ireturn, 1) := by decide +kernel
theorem dX8_isLiked_9 : decode cX8_isLiked 9 = .ok (.iconst 0, 1) := by decide +kernel
theorem dX8_isLiked_10 : decode cX8_isLiked 10 = .ok (.istore_n 1, 1) := by decide +kernel
theorem dX8_isLiked_11 : decode cX8_isLiked 11 = .ok (.iload_n 1, 1) := by decide +kernel
theorem dX8_isLiked_12 : decode cX8_isLiked 12 = .ok (.aload_n 0, 1) := by decide +kernel
theorem dX8_isLiked_13 : decode cX8_isLiked 13 = .ok (.getfield 41, 3) := by decide +kernel
theorem dX8_isLiked_16 : decode cX8_isLiked 16 = .ok (.arraylength, 1) := by decide +kernel
theorem dX8_isLiked_17 : decode cX8_isLiked 17 = .ok (.if_icmp .ge 24, 3) := by decide +kernel
theorem dX8_isLiked_20 : decode cX8_isLiked 20 = .ok (.aload_n 0, 1) := by decide +kernel
theorem dX8_isLiked_21 : decode cX8_isLiked 21 = .ok (.getfield 41, 3) := by decide +kernel
theorem dX8_isLiked_24 : decode cX8_isLiked 24 = .ok (.iload_n 1, 1) := by decide +kernel
theorem dX8_isLiked_25 : decode cX8_isLiked 25 = .ok (.aaload, 1) := by decide +kernel
theorem dX8_isLiked_26 : decode cX8_isLiked 26 = .ok (.getfield 87, 3) := by decide +kernel
theorem dX8_isLiked_29 : decode cX8_isLiked 29 = .ok (.aload_n 0, 1) := by decide +kernel
theorem dX8_isLiked_30 : decode cX8_isLiked 30 = .ok (.if_acmp .eq 5, 3) := by decide +kernel
theorem dX8_isLiked_33 : decode cX8_isLiked 33 = .ok (.iconst 0, 1) := by decide +kernel
theorem dX8_isLiked_34 : decode cX8_isLiked 34 = .ok (.ireturn, 1) := by decide +kernel
theorem dX8_isLiked_35 : decode cX8_isLiked 35 = .ok (.iinc 1 1, 3) := by decide +kernel
theorem dX8_isLiked_38 : decode cX8_isLiked 38 = .ok (.goto (-27), 3) := by decide +kernel
theorem dX8_isLiked_41 : decode cX8_isLiked 41 = .ok (.iconst 1, 1) := by decide +kernel
theorem dX8_isLiked_42 : decode cX8_isLiked 42 = .ok (.ireturn, 1) := by decide +kernel
theorem dX8_sharesSetWith_0 : decode cX8_sharesSetWith 0 = .ok (.iconst 0, 1) := by decide +kernel
theorem dX8_sharesSetWith_1 : decode cX8_sharesSetWith 1 = .ok (.istore_n 2, 1) := by decide +kernel
theorem dX8_sharesSetWith_2 : decode cX8_sharesSetWith 2 = .ok (.iload_n 2, 1) := by decide +kernel
theorem dX8_sharesSetWith_3 : decode cX8_sharesSetWith 3 = .ok (.aload_n 0, 1) := by decide +kernel
theorem dX8_sharesSetWith_4 : decode cX8_sharesSetWith 4 = .ok (.getfield 41, 3) := by decide +kernel
theorem dX8_sharesSetWith_7 : decode cX8_sharesSetWith 7 = .ok (.arraylength, 1) := by decide +kernel
theorem dX8_sharesSetWith_8 : decode cX8_sharesSetWith 8 = .ok (.if_icmp .ge 43, 3) := by decide +kernel
theorem dX8_sharesSetWith_11 : decode cX8_sharesSetWith 11 = .ok (.iconst 0, 1) := by decide +kernel
theorem dX8_sharesSetWith_12 : decode cX8_sharesSetWith 12 = .ok (.istore_n 3, 1) := by decide +kernel
theorem dX8_sharesSetWith_13 : decode cX8_sharesSetWith 13 = .ok (.iload_n 3, 1) := by decide +kernel
theorem dX8_sharesSetWith_14 : decode cX8_sharesSetWith 14 = .ok (.aload_n 1, 1) := by decide +kernel
theorem dX8_sharesSetWith_15 : decode cX8_sharesSetWith 15 = .ok (.getfield 41, 3) := by decide +kernel
theorem dX8_sharesSetWith_18 : decode cX8_sharesSetWith 18 = .ok (.arraylength, 1) := by decide +kernel
theorem dX8_sharesSetWith_19 : decode cX8_sharesSetWith 19 = .ok (.if_icmp .ge 26, 3) := by decide +kernel
theorem dX8_sharesSetWith_22 : decode cX8_sharesSetWith 22 = .ok (.aload_n 0, 1) := by decide +kernel
theorem dX8_sharesSetWith_23 : decode cX8_sharesSetWith 23 = .ok (.getfield 41, 3) := by decide +kernel
theorem dX8_sharesSetWith_26 : decode cX8_sharesSetWith 26 = .ok (.iload_n 2, 1) := by decide +kernel
theorem dX8_sharesSetWith_27 : decode cX8_sharesSetWith 27 = .ok (.aaload, 1) := by decide +kernel
theorem dX8_sharesSetWith_28 : decode cX8_sharesSetWith 28 = .ok (.aload_n 1, 1) := by decide +kernel
theorem dX8_sharesSetWith_29 : decode cX8_sharesSetWith 29 = .ok (.getfield 41, 3) := by decide +kernel
theorem dX8_sharesSetWith_32 : decode cX8_sharesSetWith 32 = .ok (.iload_n 3, 1) := by decide +kernel
theorem dX8_sharesSetWith_33 : decode cX8_sharesSetWith 33 = .ok (.aaload, 1) := by decide +kernel
theorem dX8_sharesSetWith_34 : decode cX8_sharesSetWith 34 = .ok (.if_acmp .ne 5, 3) := by decide +kernel
theorem dX8_sharesSetWith_37 : decode cX8_sharesSetWith 37 = .ok (.iconst 1, 1) := by decide +kernel
theorem dX8_sharesSetWith_38 : decode cX8_sharesSetWith 38 = .ok (.ireturn, 1) := by decide +kernel
theorem dX8_sharesSetWith_39 : decode cX8_sharesSetWith 39 = .ok (.iinc 3 1, 3) := by decide +kernel
theorem dX8_sharesSetWith_42 : decode cX8_sharesSetWith 42 = .ok (.goto (-29), 3) := by decide +kernel
theorem dX8_sharesSetWith_45 : decode cX8_sharesSetWith 45 = .ok (.iinc 2 1, 3) := by decide +kernel
theorem dX8_sharesSetWith_48 : decode cX8_sharesSetWith 48 = .ok (.goto (-46), 3) := by decide +kernel
theorem dX8_sharesSetWith_51 : decode cX8_sharesSetWith 51 = .ok (.iconst 0, 1) := by decide +kernel
theorem dX8_sharesSetWith_52 : decode cX8_sharesSetWith 52 = .ok (.ireturn, 1) := by decide +kernel
theorem dX8_outputAt_0 : decode cX8_outputAt 0 = .ok (.iload_n 1, 1) := by decide +kernel
theorem dX8_outputAt_1 : decode cX8_outputAt 1 = .ok (.ifCond .lt 12, 3) := by decide +kernel
theorem dX8_outputAt_4 : decode cX8_outputAt 4 = .ok (.iload_n 1, 1) := by decide +kernel
theorem dX8_outputAt_5 : decode cX8_outputAt 5 = .ok (.aload_n 0, 1) := by decide +kernel
theorem dX8_outputAt_6 : decode cX8_outputAt 6 = .ok (.getfield 31, 3) := by decide +kernel
theorem dX8_outputAt_9 : decode cX8_outputAt 9 = .ok (.arraylength, 1) := by decide +kernel
theorem dX8_outputAt_10 : decode cX8_outputAt 10 = .ok (.if_icmp .lt 7, 3) := by decide +kernel
theorem dX8_outputAt_13 : decode cX8_outputAt 13 = .ok (.aconst_null, 1) := by decide +kernel
theorem dX8_outputAt_14 : decode cX8_outputAt 14 = .ok (.goto 9, 3) := by decide +kernel
theorem dX8_outputAt_17 : decode cX8_outputAt 17 = .ok (.aload_n 0, 1) := by decide +kernel
theorem dX8_outputAt_18 : decode cX8_outputAt 18 = .ok (.getfield 31, 3) := by decide +kernel
theorem dX8_outputAt_21 : decode cX8_outputAt 21 = .ok (.iload_n 1, 1) := by decide +kernel
theorem dX8_outputAt_22 : decode cX8_outputAt 22 = .ok (.aaload, 1) := by decide +kernel
theorem dX8_outputAt_23 : decode cX8_outputAt 23 = .ok (.areturn, 1) := by decide +kernel
theorem dX8_unspentAt_0 : decode cX8_unspentAt 0 = .ok (.aload_n 0, 1) := by decide +kernel
theorem dX8_unspentAt_1 : decode cX8_unspentAt 1 = .ok (.iload_n 1, 1) := by decide +kernel
theorem dX8_unspentAt_2 : decode cX8_unspentAt 2 = .ok (.invokevirtual 90, 3) := by decide +kernel
theorem dX8_unspentAt_5 : decode cX8_unspentAt 5 = .ok (.astore_n 2, 1) := by decide +kernel
theorem dX8_unspentAt_6 : decode cX8_unspentAt 6 = .ok (.aload_n 0, 1) := by decide +kernel
theorem dX8_unspentAt_7 : decode cX8_unspentAt 7 = .ok (.getfield 51, 3) := by decide +kernel
theorem dX8_unspentAt_10 : decode cX8_unspentAt 10 = .ok (.iconst 3, 1) := by decide +kernel
theorem dX8_unspentAt_11 : decode cX8_unspentAt 11 = .ok (.if_icmp .ne 18, 3) := by decide +kernel
theorem dX8_unspentAt_14 : decode cX8_unspentAt 14 = .ok (.aload_n 2, 1) := by decide +kernel
theorem dX8_unspentAt_15 : decode cX8_unspentAt 15 = .ok (.ifnull 14, 3) := by decide +kernel
theorem dX8_unspentAt_18 : decode cX8_unspentAt 18 = .ok (.aload_n 2, 1) := by decide +kernel
theorem dX8_unspentAt_19 : decode cX8_unspentAt 19 = .ok (.getfield 83, 3) := by decide +kernel
theorem dX8_unspentAt_22 : decode cX8_unspentAt 22 = .ok (.ifnonnull 7, 3) := by decide +kernel
theorem dX8_unspentAt_25 : decode cX8_unspentAt 25 = .ok (.iconst 1, 1) := by decide +kernel
theorem dX8_unspentAt_26 : decode cX8_unspentAt 26 = .ok (.goto 4, 3) := by decide +kernel
theorem dX8_unspentAt_29 : decode cX8_unspentAt 29 = .ok (.iconst 0, 1) := by decide +kernel
theorem dX8_unspentAt_30 : decode cX8_unspentAt 30 = .ok (.istore_n 3, 1) := by decide +kernel
theorem dX8_unspentAt_31 : decode cX8_unspentAt 31 = .ok (.iload_n 3, 1) := by decide +kernel
theorem dX8_unspentAt_32 : decode cX8_unspentAt 32 = .ok (.ifCond .eq 10, 3) := by decide +kernel
theorem dX8_unspentAt_35 : decode cX8_unspentAt 35 = .ok (.aload_n 2, 1) := by decide +kernel
theorem dX8_unspentAt_36 : decode cX8_unspentAt 36 = .ok (.getfield 80, 3) := by decide +kernel
theorem dX8_unspentAt_39 : decode cX8_unspentAt 39 = .ok (.goto 4, 3) := by decide +kernel
theorem dX8_unspentAt_42 : decode cX8_unspentAt 42 = .ok (.iconst 0, 1) := by decide +kernel
theorem dX8_unspentAt_43 : decode cX8_unspentAt 43 = .ok (.ireturn, 1) := by decide +kernel
theorem dX9_init_0 : decode cX9_init 0 = .ok (.aload_n 0, 1) := by decide +kernel
theorem dX9_init_1 : decode cX9_init 1 = .ok (.invokespecial 1, 3) := by decide +kernel
theorem dX9_init_4 : decode cX9_init 4 = .ok (.aload_n 0, 1) := by decide +kernel
theorem dX9_init_5 : decode cX9_init 5 = .ok (.iload_n 2, 1) := by decide +kernel
theorem dX9_init_6 : decode cX9_init 6 = .ok (.iconst 1, 1) := by decide +kernel
theorem dX9_init_7 : decode cX9_init 7 = .ok (.if_icmp .lt 13, 3) := by decide +kernel
theorem dX9_init_10 : decode cX9_init 10 = .ok (.iload_n 2, 1) := by decide +kernel
theorem dX9_init_11 : decode cX9_init 11 = .ok (.bipush 10, 2) := by decide +kernel
theorem dX9_init_13 : decode cX9_init 13 = .ok (.if_icmp .gt 7, 3) := by decide +kernel
theorem dX9_init_16 : decode cX9_init 16 = .ok (.iload_n 2, 1) := by decide +kernel
theorem dX9_init_17 : decode cX9_init 17 = .ok (.goto 4, 3) := by decide +kernel
theorem dX9_init_20 : decode cX9_init 20 = .ok (.iconst 4, 1) := by decide +kernel
theorem dX9_init_21 : decode cX9_init 21 = .ok (.putfield 7, 3) := by decide +kernel
theorem dX9_init_24 : decode cX9_init 24 = .ok (.aload_n 0, 1) := by decide +kernel
theorem dX9_init_25 : decode cX9_init 25 = .ok (.getfield 7, 3) := by decide +kernel
theorem dX9_init_28 : decode cX9_init 28 = .ok (.iconst 2, 1) := by decide +kernel
theorem dX9_init_29 : decode cX9_init 29 = .ok (.idiv, 1) := by decide +kernel
theorem dX9_init_30 : decode cX9_init 30 = .ok (.istore 6, 2) := by decide +kernel
theorem dX9_init_32 : decode cX9_init 32 = .ok (.aload_n 0, 1) := by decide +kernel
theorem dX9_init_33 : decode cX9_init 33 = .ok (.iload_n 3, 1) := by decide +kernel
theorem dX9_init_34 : decode cX9_init 34 = .ok (.iload 6, 2) := by decide +kernel
theorem dX9_init_36 : decode cX9_init 36 = .ok (.if_icmp .le 15, 3) := by decide +kernel
theorem dX9_init_39 : decode cX9_init 39 = .ok (.iload_n 3, 1) := by decide +kernel
theorem dX9_init_40 : decode cX9_init 40 = .ok (.aload_n 0, 1) := by decide +kernel
theorem dX9_init_41 : decode cX9_init 41 = .ok (.getfield 7, 3) := by decide +kernel
theorem dX9_init_44 : decode cX9_init 44 = .ok (.if_icmp .gt 7, 3) := by decide +kernel
theorem dX9_init_47 : decode cX9_init 47 = .ok (.iload_n 3, 1) := by decide +kernel
theorem dX9_init_48 : decode cX9_init 48 = .ok (.goto 7, 3) := by decide +kernel
theorem dX9_init_51 : decode cX9_init 51 = .ok (.iload 6, 2) := by decide +kernel
theorem dX9_init_53 : decode cX9_init 53 = .ok (.iconst 1, 1) := by decide +kernel
theorem dX9_init_54 : decode cX9_init 54 = .ok (.iadd, 1) := by decide +kernel
theorem dX9_init_55 : decode cX9_init 55 = .ok (.putfield 13, 3) := by decide +kernel
theorem dX9_init_58 : decode cX9_init 58 = .ok (.aload_n 0, 1) := by decide +kernel
theorem dX9_init_59 : decode cX9_init 59 = .ok (.iload 4, 2) := by decide +kernel
theorem dX9_init_61 : decode cX9_init 61 = .ok (.iconst 1, 1) := by decide +kernel
theorem dX9_init_62 : decode cX9_init 62 = .ok (.if_icmp .lt 15, 3) := by decide +kernel
theorem dX9_init_65 : decode cX9_init 65 = .ok (.iload 4, 2) := by decide +kernel
theorem dX9_init_67 : decode cX9_init 67 = .ok (.bipush 20, 2) := by decide +kernel
theorem dX9_init_69 : decode cX9_init 69 = .ok (.if_icmp .gt 8, 3) := by decide +kernel
theorem dX9_init_72 : decode cX9_init 72 = .ok (.iload 4, 2) := by decide +kernel
theorem dX9_init_74 : decode cX9_init 74 = .ok (.goto 4, 3) := by decide +kernel
theorem dX9_init_77 : decode cX9_init 77 = .ok (.iconst 3, 1) := by decide +kernel
theorem dX9_init_78 : decode cX9_init 78 = .ok (.putfield 16, 3) := by decide +kernel
theorem dX9_init_81 : decode cX9_init 81 = .ok (.aload_n 0, 1) := by decide +kernel
theorem dX9_init_82 : decode cX9_init 82 = .ok (.iload 5, 2) := by decide +kernel
theorem dX9_init_84 : decode cX9_init 84 = .ok (.aload_n 0, 1) := by decide +kernel
theorem dX9_init_85 : decode cX9_init 85 = .ok (.getfield 16, 3) := by decide +kernel
theorem dX9_init_88 : decode cX9_init 88 = .ok (.if_icmp .lt 15, 3) := by decide +kernel
theorem dX9_init_91 : decode cX9_init 91 = .ok (.iload 5, 2) := by decide +kernel
theorem dX9_init_93 : decode cX9_init 93 = .ok (.bipush 40, 2) := by decide +kernel
theorem dX9_init_95 : decode cX9_init 95 = .ok (.if_icmp .gt 8, 3) := by decide +kernel
theorem dX9_init_98 : decode cX9_init 98 = .ok (.iload 5, 2) := by decide +kernel
theorem dX9_init_100 : decode cX9_init 100 = .ok (.goto 9, 3) := by decide +kernel
theorem dX9_init_103 : decode cX9_init 103 = .ok (.aload_n 0, 1) := by decide +kernel
theorem dX9_init_104 : decode cX9_init 104 = .ok (.getfield 16, 3) := by decide +kernel
theorem dX9_init_107 : decode cX9_init 107 = .ok (.iconst 4, 1) := by decide +kernel
theorem dX9_init_108 : decode cX9_init 108 = .ok (.iadd, 1) := by decide +kernel
theorem dX9_init_109 : decode cX9_init 109 = .ok (.putfield 19, 3) := by decide +kernel
theorem dX9_init_112 : decode cX9_init 112 = .ok (.aload_n 0, 1) := by decide +kernel
theorem dX9_init_113 : decode cX9_init 113 = .ok (.new 22, 3) := by decide +kernel
theorem dX9_init_116 : decode cX9_init 116 = .ok (.dup, 1) := by decide +kernel
theorem dX9_init_117 : decode cX9_init 117 = .ok (.iload_n 1, 1) := by decide +kernel
theorem dX9_init_118 : decode cX9_init 118 = .ok (.invokespecial 24, 3) := by decide +kernel
theorem dX9_init_121 : decode cX9_init 121 = .ok (.putfield 27, 3) := by decide +kernel
theorem dX9_init_124 : decode cX9_init 124 = .ok (.aload_n 0, 1) := by decide +kernel
theorem dX9_init_125 : decode cX9_init 125 = .ok (.new 31, 3) := by decide +kernel
theorem dX9_init_128 : decode cX9_init 128 = .ok (.dup, 1) := by decide +kernel
theorem dX9_init_129 : decode cX9_init 129 = .ok (.invokespecial 33, 3) := by decide +kernel
theorem dX9_init_132 : decode cX9_init 132 = .ok (.putfield 34, 3) := by decide +kernel
theorem dX9_init_135 : decode cX9_init 135 = .ok (.aload_n 0, 1) := by decide +kernel
theorem dX9_init_136 : decode cX9_init 136 = .ok (.new 38, 3) := by decide +kernel
theorem dX9_init_139 : decode cX9_init 139 = .ok (.dup, 1) := by decide +kernel
theorem dX9_init_140 : decode cX9_init 140 = .ok (.invokespecial 40, 3) := by decide +kernel
theorem dX9_init_143 : decode cX9_init 143 = .ok (.putfield 41, 3) := by decide +kernel
theorem dX9_init_146 : decode cX9_init 146 = .ok (.aload_n 0, 1) := by decide +kernel
theorem dX9_init_147 : decode cX9_init 147 = .ok (.new 45, 3) := by decide +kernel
theorem dX9_init_150 : decode cX9_init 150 = .ok (.dup, 1) := by decide +kernel
theorem dX9_init_151 : decode cX9_init 151 = .ok (.aload_n 0, 1) := by decide +kernel
theorem dX9_init_152 : decode cX9_init 152 = .ok (.getfield 16, 3) := by decide +kernel
theorem dX9_init_155 : decode cX9_init 155 = .ok (.aload_n 0, 1) := by decide +kernel
theorem dX9_init_156 : decode cX9_init 156 = .ok (.getfield 19, 3) := by decide +kernel
theorem dX9_init_159 : decode cX9_init 159 = .ok (.invokespecial 47, 3) := by decide +kernel
theorem dX9_init_162 : decode cX9_init 162 = .ok (.putfield 50, 3) := by decide +kernel
theorem dX9_init_165 : decode cX9_init 165 = .ok (.aload_n 0, 1) := by decide +kernel
theorem dX9_init_166 : decode cX9_init 166 = .ok (.new 54, 3) := by decide +kernel
theorem dX9_init_169 : decode cX9_init 169 = .ok (.dup, 1) := by decide +kernel
theorem dX9_init_170 : decode cX9_init 170 = .ok (.invokespecial 56, 3) := by decide +kernel
theorem dX9_init_173 : decode cX9_init 173 = .ok (.putfield 57, 3) := by decide +kernel
theorem dX9_init_176 : decode cX9_init 176 = .ok (.aload_n 0, 1) := by decide +kernel
theorem dX9_init_177 : decode cX9_init 177 = .ok (.bipush 8, 2) := by decide +kernel
theorem dX9_init_179 : decode cX9_init 179 = .ok (.anewarray 61, 3) := by decide +kernel
theorem dX9_init_182 : decode cX9_init 182 = .ok (.putfield 63, 3) := by decide +kernel
theorem dX9_init_185 : decode cX9_init 185 = .ok (.aload_n 0, 1) := by decide +kernel
theorem dX9_init_186 : decode cX9_init 186 = .ok (.iconst 0, 1) := by decide +kernel
theorem dX9_init_187 : decode cX9_init 187 = .ok (.putfield 67, 3) := by decide +kernel
theorem dX9_init_190 : decode cX9_init 190 = .ok (.aload_n 0, 1) := by decide +kernel
theorem dX9_init_191 : decode cX9_init 191 = .ok (.iconst 0, 1) := by decide +kernel
theorem dX9_init_192 : decode cX9_init 192 = .ok (.putfield 70, 3) := by decide +kernel
theorem dX9_init_195 : decode cX9_init 195 = .ok (.return_, 1) := by decide +kernel
theorem dX9_weigh_0 : decode cX9_weigh 0 = .ok (.aload_n 0, 1) := by decide +kernel
theorem dX9_weigh_1 : decode cX9_weigh 1 = .ok (.getfield 27, 3) := by decide +kernel
theorem dX9_weigh_4 : decode cX9_weigh 4 = .ok (.iload_n 1, 1) := by decide +kernel
theorem dX9_weigh_5 : decode cX9_weigh 5 = .ok (.iload_n 2, 1) := by decide +kernel
theorem dX9_weigh_6 : decode cX9_weigh 6 = .ok (.invokevirtual 73, 3) := by decide +kernel
theorem dX9_weigh_9 : decode cX9_weigh 9 = .ok (.ireturn, 1) := by decide +kernel
theorem dX9_feed_0 : decode cX9_feed 0 = .ok (.aload_n 0, 1) := by decide +kernel
theorem dX9_feed_1 : decode cX9_feed 1 = .ok (.getfield 34, 3) := by decide +kernel
theorem dX9_feed_4 : decode cX9_feed 4 = .ok (.iload_n 1, 1) := by decide +kernel
theorem dX9_feed_5 : decode cX9_feed 5 = .ok (.invokevirtual 77, 3) := by decide +kernel
theorem dX9_feed_8 : decode cX9_feed 8 = .ok (.ireturn, 1) := by decide +kernel
theorem dX9_take_0 : decode cX9_take 0 = .ok (.aload_n 0, 1) := by decide +kernel
theorem dX9_take_1 : decode cX9_take 1 = .ok (.getfield 34, 3) := by decide +kernel
theorem dX9_take_4 : decode cX9_take 4 = .ok (.getfield 81, 3) := by decide +kernel
theorem dX9_take_7 : decode cX9_take 7 = .ok (.istore_n 2, 1) := by decide +kernel
theorem dX9_take_8 : decode cX9_take 8 = .ok (.aload_n 0, 1) := by decide +kernel
theorem dX9_take_9 : decode cX9_take 9 = .ok (.getfield 34, 3) := by decide +kernel
theorem dX9_take_12 : decode cX9_take 12 = .ok (.iconst 0, 1) := by decide +kernel
theorem dX9_take_13 : decode cX9_take 13 = .ok (.putfield 81, 3) := by decide +kernel
theorem dX9_take_16 : decode cX9_take 16 = .ok (.iload_n 1, 1) := by decide +kernel
theorem dX9_take_17 : decode cX9_take 17 = .ok (.iconst 1, 1) := by decide +kernel
theorem dX9_take_18 : decode cX9_take 18 = .ok (.if_icmp .lt 8, 3) := by decide +kernel
theorem dX9_take_21 : decode cX9_take 21 = .ok (.iload_n 1, 1) := by decide +kernel
theorem dX9_take_22 : decode cX9_take 22 = .ok (.iload_n 2, 1) := by decide +kernel
theorem dX9_take_23 : decode cX9_take 23 = .ok (.if_icmp .le 13, 3) := by decide +kernel
theorem dX9_take_26 : decode cX9_take 26 = .ok (.new 84, 3) := by decide +kernel
theorem dX9_take_29 : decode cX9_take 29 = .ok (.dup, 1) := by decide +kernel
theorem dX9_take_30 : decode cX9_take 30 = .ok (.ldc 86, 2) := by decide +kernel
theorem dX9_take_32 : decode cX9_take 32 = .ok (.invokespecial 88, 3) := by decide +kernel
theorem dX9_take_35 : decode cX9_take 35 = .ok (.athrow, 1) := by decide +kernel
theorem dX9_take_36 : decode cX9_take 36 = .ok (.aload_n 0, 1) := by decide +kernel
theorem dX9_take_37 : decode cX9_take 37 = .ok (.getfield 34, 3) := by decide +kernel
theorem dX9_take_40 : decode cX9_take 40 = .ok (.getfield 91, 3) := by decide +kernel
theorem dX9_take_43 : decode cX9_take 43 = .ok (.iload_n 1, 1) := by decide +kernel
theorem dX9_take_44 : decode cX9_take 44 = .ok (.invokestatic 95, 3) := by decide +kernel
theorem dX9_take_47 : decode cX9_take 47 = .ok (.aload_n 0, 1) := by decide +kernel
theorem dX9_take_48 : decode cX9_take 48 = .ok (.getfield 41, 3) := by decide +kernel
theorem dX9_take_51 : decode cX9_take 51 = .ok (.invokestatic 101, 3) := by decide +kernel
theorem dX9_take_54 : decode cX9_take 54 = .ok (.astore_n 3, 1) := by decide +kernel
theorem dX9_take_55 : decode cX9_take 55 = .ok (.aload_n 3, 1) := by decide +kernel
theorem dX9_take_56 : decode cX9_take 56 = .ok (.ifnonnull 13, 3) := by decide +kernel
theorem dX9_take_59 : decode cX9_take 59 = .ok (.new 84, 3) := by decide +kernel
theorem dX9_take_62 : decode cX9_take 62 = .ok (.dup, 1) := by decide +kernel
theorem dX9_take_63 : decode cX9_take 63 = .ok (.ldc 107, 2) := by decide +kernel
theorem dX9_take_65 : decode cX9_take 65 = .ok (.invokespecial 88, 3) := by decide +kernel
theorem dX9_take_68 : decode cX9_take 68 = .ok (.athrow, 1) := by decide +kernel
theorem dX9_take_69 : decode cX9_take 69 = .ok (.aload_n 0, 1) := by decide +kernel
theorem dX9_take_70 : decode cX9_take 70 = .ok (.getfield 50, 3) := by decide +kernel
theorem dX9_take_73 : decode cX9_take 73 = .ok (.aload_n 3, 1) := by decide +kernel
theorem dX9_take_74 : decode cX9_take 74 = .ok (.getfield 109, 3) := by decide +kernel
theorem dX9_take_77 : decode cX9_take 77 = .ok (.invokevirtual 114, 3) := by decide +kernel
theorem dX9_take_80 : decode cX9_take 80 = .ok (.ifnull 13, 3) := by decide +kernel
theorem dX9_take_83 : decode cX9_take 83 = .ok (.new 118, 3) := by decide +kernel
theorem dX9_take_86 : decode cX9_take 86 = .ok (.dup, 1) := by decide +kernel
theorem dX9_take_87 : decode cX9_take 87 = .ok (.ldc 120, 2) := by decide +kernel
theorem dX9_take_89 : decode cX9_take 89 = .ok (.invokespecial 122, 3) := by decide +kernel
theorem dX9_take_92 : decode cX9_take 92 = .ok (.athrow, 1) := by decide +kernel
theorem dX9_take_93 : decode cX9_take 93 = .ok (.aload_n 0, 1) := by decide +kernel
theorem dX9_take_94 : decode cX9_take 94 = .ok (.getfield 50, 3) := by decide +kernel
theorem dX9_take_97 : decode cX9_take 97 = .ok (.invokevirtual 123, 3) := by decide +kernel
theorem dX9_take_100 : decode cX9_take 100 = .ok (.ifCond .eq 13, 3) := by decide +kernel
theorem dX9_take_103 : decode cX9_take 103 = .ok (.new 118, 3) := by decide +kernel
theorem dX9_take_106 : decode cX9_take 106 = .ok (.dup, 1) := by decide +kernel
theorem dX9_take_107 : decode cX9_take 107 = .ok (.ldc 127, 2) := by decide +kernel
theorem dX9_take_109 : decode cX9_take 109 = .ok (.invokespecial 122, 3) := by decide +kernel
theorem dX9_take_112 : decode cX9_take 112 = .ok (.athrow, 1) := by decide +kernel
theorem dX9_take_113 : decode cX9_take 113 = .ok (.aload_n 0, 1) := by decide +kernel
theorem dX9_take_114 : decode cX9_take 114 = .ok (.getfield 50, 3) := by decide +kernel
theorem dX9_take_117 : decode cX9_take 117 = .ok (.aload_n 3, 1) := by decide +kernel
theorem dX9_take_118 : decode cX9_take 118 = .ok (.invokevirtual 129, 3) := by decide +kernel
theorem dX9_take_121 : decode cX9_take 121 = .ok (.aload_n 3, 1) := by decide +kernel
theorem dX9_take_122 : decode cX9_take 122 = .ok (.getfield 109, 3) := by decide +kernel
theorem dX9_take_125 : decode cX9_take 125 = .ok (.ireturn, 1) := by decide +kernel
theorem dX9_query_0 : decode cX9_query 0 = .ok (.aload_n 0, 1) := by decide +kernel
theorem dX9_query_1 : decode cX9_query 1 = .ok (.getfield 50, 3) := by decide +kernel
theorem dX9_query_4 : decode cX9_query 4 = .ok (.iload_n 1, 1) := by decide +kernel
theorem dX9_query_5 : decode cX9_query 5 = .ok (.invokevirtual 114, 3) := by decide +kernel
theorem dX9_query_8 : decode cX9_query 8 = .ok (.astore_n 2, 1) := by decide +kernel
theorem dX9_query_9 : decode cX9_query 9 = .ok (.aload_n 2, 1) := by decide +kernel
theorem dX9_query_10 : decode cX9_query 10 = .ok (.ifnull 10, 3) := by decide +kernel
theorem dX9_query_13 : decode cX9_query 13 = .ok (.aload_n 2, 1) := by decide +kernel
theorem dX9_query_14 : decode cX9_query 14 = .ok (.invokevirtual 133, 3) := by decide +kernel
theorem dX9_query_17 : decode cX9_query 17 = .ok (.ifCond .ne 5, 3) := by decide +kernel
theorem dX9_query_20 : decode cX9_query 20 = .ok (.iconst (-1), 1) := by decide +kernel
theorem dX9_query_21 : decode cX9_query 21 = .ok (.ireturn, 1) := by decide +kernel
theorem dX9_query_22 : decode cX9_query 22 = .ok (.aload_n 0, 1) := by decide +kernel
theorem dX9_query_23 : decode cX9_query 23 = .ok (.getfield 50, 3) := by decide +kernel
theorem dX9_query_26 : decode cX9_query 26 = .ok (.invokevirtual 136, 3) := by decide +kernel
theorem dX9_query_29 : decode cX9_query 29 = .ok (.aload_n 2, 1) := by decide +kernel
theorem dX9_query_30 : decode cX9_query 30 = .ok (.getfield 139, 3) := by decide +kernel
theorem dX9_query_33 : decode cX9_query 33 = .ok (.ifCond .eq 7, 3) := by decide +kernel
theorem dX9_query_36 : decode cX9_query 36 = .ok (.iconst 1, 1) := by decide +kernel
theorem dX9_query_37 : decode cX9_query 37 = .ok (.goto 4, 3) := by decide +kernel
theorem dX9_query_40 : decode cX9_query 40 = .ok (.iconst 0, 1) := by decide +kernel
theorem dX9_query_41 : decode cX9_query 41 = .ok (.ireturn, 1) := by decide +kernel
theorem dX9_poll_0 : decode cX9_poll 0 = .ok (.aload_n 0, 1) := by decide +kernel
theorem dX9_poll_1 : decode cX9_poll 1 = .ok (.getfield 50, 3) := by decide +kernel
theorem dX9_poll_4 : decode cX9_poll 4 = .ok (.invokevirtual 143, 3) := by decide +kernel
theorem dX9_poll_7 : decode cX9_poll 7 = .ok (.astore_n 1, 1) := by decide +kernel
theorem dX9_poll_8 : decode cX9_poll 8 = .ok (.aload_n 1, 1) := by decide +kernel
theorem dX9_poll_9 : decode cX9_poll 9 = .ok (.ifnonnull 13, 3) := by decide +kernel
theorem dX9_poll_12 : decode cX9_poll 12 = .ok (.new 147, 3) := by decide +kernel
theorem dX9_poll_15 : decode cX9_poll 15 = .ok (.dup, 1) := by decide +kernel
theorem dX9_poll_16 : decode cX9_poll 16 = .ok (.ldc 149, 2) := by decide +kernel
theorem dX9_poll_18 : decode cX9_poll 18 = .ok (.invokespecial 151, 3) := by decide +kernel
theorem dX9_poll_21 : decode cX9_poll 21 = .ok (.athrow, 1) := by decide +kernel
theorem dX9_poll_22 : decode cX9_poll 22 = .ok (.aload_n 0, 1) := by decide +kernel
theorem dX9_poll_23 : decode cX9_poll 23 = .ok (.getfield 57, 3) := by decide +kernel
theorem dX9_poll_26 : decode cX9_poll 26 = .ok (.invokevirtual 152, 3) := by decide +kernel
theorem dX9_poll_29 : decode cX9_poll 29 = .ok (.bipush 6, 2) := by decide +kernel
theorem dX9_poll_31 : decode cX9_poll 31 = .ok (.if_icmp .lt 13, 3) := by decide +kernel
theorem dX9_poll_34 : decode cX9_poll 34 = .ok (.new 118, 3) := by decide +kernel
theorem dX9_poll_37 : decode cX9_poll 37 = .ok (.dup, 1) := by decide +kernel
theorem dX9_poll_38 : decode cX9_poll 38 = .ok (.ldc 156, 2) := by decide +kernel
theorem dX9_poll_40 : decode cX9_poll 40 = .ok (.invokespecial 122, 3) := by decide +kernel
theorem dX9_poll_43 : decode cX9_poll 43 = .ok (.athrow, 1) := by decide +kernel
theorem dX9_poll_44 : decode cX9_poll 44 = .ok (.aload_n 0, 1) := by decide +kernel
theorem dX9_poll_45 : decode cX9_poll 45 = .ok (.getfield 27, 3) := by decide +kernel
theorem dX9_poll_48 : decode cX9_poll 48 = .ok (.invokevirtual 158, 3) := by decide +kernel
theorem dX9_poll_51 : decode cX9_poll 51 = .ok (.aload_n 0, 1) := by decide +kernel
theorem dX9_poll_52 : decode cX9_poll 52 = .ok (.getfield 7, 3) := by decide +kernel
theorem dX9_poll_55 : decode cX9_poll 55 = .ok (.if_icmp .ge 13, 3) := by decide +kernel
theorem dX9_poll_58 : decode cX9_poll 58 = .ok (.new 118, 3) := by decide +kernel
theorem dX9_poll_61 : decode cX9_poll 61 = .ok (.dup, 1) := by decide +kernel
theorem dX9_poll_62 : decode cX9_poll 62 = .ok (.ldc 161, 2) := by decide +kernel
theorem dX9_poll_64 : decode cX9_poll 64 = .ok (.invokespecial 122, 3) := by decide +kernel
theorem dX9_poll_67 : decode cX9_poll 67 = .ok (.athrow, 1) := by decide +kernel
theorem dX9_poll_68 : decode cX9_poll 68 = .ok (.aload_n 1, 1) := by decide +kernel
theorem dX9_poll_69 : decode cX9_poll 69 = .ok (.iconst 1, 1) := by decide +kernel
theorem dX9_poll_70 : decode cX9_poll 70 = .ok (.putfield 163, 3) := by decide +kernel
theorem dX9_poll_73 : decode cX9_poll 73 = .ok (.aload_n 0, 1) := by decide +kernel
theorem dX9_poll_74 : decode cX9_poll 74 = .ok (.getfield 67, 3) := by decide +kernel
theorem dX9_poll_77 : decode cX9_poll 77 = .ok (.istore_n 2, 1) := by decide +kernel
theorem dX9_poll_78 : decode cX9_poll 78 = .ok (.aload_n 0, 1) := by decide +kernel
theorem dX9_poll_79 : decode cX9_poll 79 = .ok (.dup, 1) := by decide +kernel
theorem dX9_poll_80 : decode cX9_poll 80 = .ok (.getfield 67, 3) := by decide +kernel
theorem dX9_poll_83 : decode cX9_poll 83 = .ok (.iconst 1, 1) := by decide +kernel
theorem dX9_poll_84 : decode cX9_poll 84 = .ok (.iadd, 1) := by decide +kernel
theorem dX9_poll_85 : decode cX9_poll 85 = .ok (.putfield 67, 3) := by decide +kernel
theorem dX9_poll_88 : decode cX9_poll 88 = .ok (.aload_n 0, 1) := by decide +kernel
theorem dX9_poll_89 : decode cX9_poll 89 = .ok (.getfield 57, 3) := by decide +kernel
theorem dX9_poll_92 : decode cX9_poll 92 = .ok (.new 166, 3) := by decide +kernel
theorem dX9_poll_95 : decode cX9_poll 95 = .ok (.dup, 1) := by decide +kernel
theorem dX9_poll_96 : decode cX9_poll 96 = .ok (.iload_n 2, 1) := by decide +kernel
theorem dX9_poll_97 : decode cX9_poll 97 = .ok (.aload_n 1, 1) := by decide +kernel
theorem dX9_poll_98 : decode cX9_poll 98 = .ok (.aload_n 0, 1) := by decide +kernel
theorem dX9_poll_99 : decode cX9_poll 99 = .ok (.getfield 27, 3) := by decide +kernel
theorem dX9_poll_102 : decode cX9_poll 102 = .ok (.aload_n 0, 1) := by decide +kernel
theorem dX9_poll_103 : decode cX9_poll 103 = .ok (.getfield 7, 3) := by decide +kernel
theorem dX9_poll_106 : decode cX9_poll 106 = .ok (.invokevirtual 168, 3) := by decide +kernel
theorem dX9_poll_109 : decode cX9_poll 109 = .ok (.invokespecial 172, 3) := by decide +kernel
theorem dX9_poll_112 : decode cX9_poll 112 = .ok (.invokevirtual 175, 3) := by decide +kernel
theorem dX9_poll_115 : decode cX9_poll 115 = .ok (.pop, 1) := by decide +kernel
theorem dX9_poll_116 : decode cX9_poll 116 = .ok (.iload_n 2, 1) := by decide +kernel
theorem dX9_poll_117 : decode cX9_poll 117 = .ok (.ireturn, 1) := by decide +kernel
theorem dX9_sampled_0 : decode cX9_sampled 0 = .ok (.aload_n 0, 1) := by decide +kernel
theorem dX9_sampled_1 : decode cX9_sampled 1 = .ok (.iload_n 1, 1) := by decide +kernel
theorem dX9_sampled_2 : decode cX9_sampled 2 = .ok (.invokevirtual 179, 3) := by decide +kernel
theorem dX9_sampled_5 : decode cX9_sampled 5 = .ok (.astore_n 3, 1) := by decide +kernel
theorem dX9_sampled_6 : decode cX9_sampled 6 = .ok (.aload_n 3, 1) := by decide +kernel
theorem dX9_sampled_7 : decode cX9_sampled 7 = .ok (.ifnonnull 13, 3) := by decide +kernel
theorem dX9_sampled_10 : decode cX9_sampled 10 = .ok (.new 183, 3) := by decide +kernel
theorem dX9_sampled_13 : decode cX9_sampled 13 = .ok (.dup, 1) := by decide +kernel
theorem dX9_sampled_14 : decode cX9_sampled 14 = .ok (.ldc 185, 2) := by decide +kernel
theorem dX9_sampled_16 : decode cX9_sampled 16 = .ok (.invokespecial 187, 3) := by decide +kernel
theorem dX9_sampled_19 : decode cX9_sampled 19 = .ok (.athrow, 1) := by decide +kernel
theorem dX9_sampled_20 : decode cX9_sampled 20 = .ok (.iload_n 2, 1) := by decide +kernel
theorem dX9_sampled_21 : decode cX9_sampled 21 = .ok (.iconst (-1), 1) := by decide +kernel
theorem dX9_sampled_22 : decode cX9_sampled 22 = .ok (.if_icmp .ne 11, 3) := by decide +kernel
theorem dX9_sampled_25 : decode cX9_sampled 25 = .ok (.aload_n 3, 1) := by decide +kernel
theorem dX9_sampled_26 : decode cX9_sampled 26 = .ok (.getfield 188, 3) := by decide +kernel
theorem dX9_sampled_29 : decode cX9_sampled 29 = .ok (.getfield 109, 3) := by decide +kernel
theorem dX9_sampled_32 : decode cX9_sampled 32 = .ok (.ireturn, 1) := by decide +kernel
theorem dX9_sampled_33 : decode cX9_sampled 33 = .ok (.iload_n 2, 1) := by decide +kernel
theorem dX9_sampled_34 : decode cX9_sampled 34 = .ok (.ifCond .lt 12, 3) := by decide +kernel
theorem dX9_sampled_37 : decode cX9_sampled 37 = .ok (.iload_n 2, 1) := by decide +kernel
theorem dX9_sampled_38 : decode cX9_sampled 38 = .ok (.aload_n 3, 1) := by decide +kernel
theorem dX9_sampled_39 : decode cX9_sampled 39 = .ok (.getfield 192, 3) := by decide +kernel
theorem dX9_sampled_42 : decode cX9_sampled 42 = .ok (.arraylength, 1) := by decide +kernel
theorem dX9_sampled_43 : decode cX9_sampled 43 = .ok (.if_icmp .lt 13, 3) := by decide +kernel
theorem dX9_sampled_46 : decode cX9_sampled 46 = .ok (.new 183, 3) := by decide +kernel
theorem dX9_sampled_49 : decode cX9_sampled 49 = .ok (.dup, 1) := by decide +kernel
theorem dX9_sampled_50 : decode cX9_sampled 50 = .ok (.ldc 196, 2) := by decide +kernel
theorem dX9_sampled_52 : decode cX9_sampled 52 = .ok (.invokespecial 187, 3) := by decide +kernel
theorem dX9_sampled_55 : decode cX9_sampled 55 = .ok (.athrow, 1) := by decide +kernel
theorem dX9_sampled_56 : decode cX9_sampled 56 = .ok (.aload_n 3, 1) := by decide +kernel
theorem dX9_sampled_57 : decode cX9_sampled 57 = .ok (.getfield 192, 3) := by decide +kernel
theorem dX9_sampled_60 : decode cX9_sampled 60 = .ok (.iload_n 2, 1) := by decide +kernel
theorem dX9_sampled_61 : decode cX9_sampled 61 = .ok (.iaload, 1) := by decide +kernel
theorem dX9_sampled_62 : decode cX9_sampled 62 = .ok (.ireturn, 1) := by decide +kernel
theorem dX9_answer_0 : decode cX9_answer 0 = .ok (.aload_n 0, 1) := by decide +kernel
theorem dX9_answer_1 : decode cX9_answer 1 = .ok (.iload_n 1, 1) := by decide +kernel
theorem dX9_answer_2 : decode cX9_answer 2 = .ok (.invokevirtual 179, 3) := by decide +kernel
theorem dX9_answer_5 : decode cX9_answer 5 = .ok (.astore 4, 2) := by decide +kernel
theorem dX9_answer_7 : decode cX9_answer 7 = .ok (.aload 4, 2) := by decide +kernel
theorem dX9_answer_9 : decode cX9_answer 9 = .ok (.ifnonnull 13, 3) := by decide +kernel
theorem dX9_answer_12 : decode cX9_answer 12 = .ok (.new 84, 3) := by decide +kernel
theorem dX9_answer_15 : decode cX9_answer 15 = .ok (.dup, 1) := by decide +kernel
theorem dX9_answer_16 : decode cX9_answer 16 = .ok (.ldc 185, 2) := by decide +kernel
theorem dX9_answer_18 : decode cX9_answer 18 = .ok (.invokespecial 88, 3) := by decide +kernel
theorem dX9_answer_21 : decode cX9_answer 21 = .ok (.athrow, 1) := by decide +kernel
theorem dX9_answer_22 : decode cX9_answer 22 = .ok (.aload 4, 2) := by decide +kernel
theorem dX9_answer_24 : decode cX9_answer 24 = .ok (.iload_n 2, 1) := by decide +kernel
theorem dX9_answer_25 : decode cX9_answer 25 = .ok (.invokevirtual 198, 3) := by decide +kernel
theorem dX9_answer_28 : decode cX9_answer 28 = .ok (.istore 5, 2) := by decide +kernel
theorem dX9_answer_30 : decode cX9_answer 30 = .ok (.iload 5, 2) := by decide +kernel
theorem dX9_answer_32 : decode cX9_answer 32 = .ok (.ifCond .ge 13, 3) := by decide +kernel
theorem dX9_answer_35 : decode cX9_answer 35 = .ok (.new 84, 3) := by decide +kernel
theorem dX9_answer_38 : decode cX9_answer 38 = .ok (.dup, 1) := by decide +kernel
theorem dX9_answer_39 : decode cX9_answer 39 = .ok (.ldc 202, 2) := by decide +kernel
theorem dX9_answer_41 : decode cX9_answer 41 = .ok (.invokespecial 88, 3) := by decide +kernel
theorem dX9_answer_44 : decode cX9_answer 44 = .ok (.athrow, 1) := by decide +kernel
theorem dX9_answer_45 : decode cX9_answer 45 = .ok (.aload 4, 2) := by decide +kernel
theorem dX9_answer_47 : decode cX9_answer 47 = .ok (.getfield 204, 3) := by decide +kernel
theorem dX9_answer_50 : decode cX9_answer 50 = .ok (.iload 5, 2) := by decide +kernel
theorem dX9_answer_52 : decode cX9_answer 52 = .ok (.baload, 1) := by decide +kernel
theorem dX9_answer_53 : decode cX9_answer 53 = .ok (.ifCond .eq 13, 3) := by decide +kernel
theorem dX9_answer_56 : decode cX9_answer 56 = .ok (.new 118, 3) := by decide +kernel
theorem dX9_answer_59 : decode cX9_answer 59 = .ok (.dup, 1) := by decide +kernel
theorem dX9_answer_60 : decode cX9_answer 60 = .ok (.ldc 208, 2) := by decide +kernel
theorem dX9_answer_62 : decode cX9_answer 62 = .ok (.invokespecial 122, 3) := by decide +kernel
theorem dX9_answer_65 : decode cX9_answer 65 = .ok (.athrow, 1) := by decide +kernel
theorem dX9_answer_66 : decode cX9_answer 66 = .ok (.aload 4, 2) := by decide +kernel
theorem dX9_answer_68 : decode cX9_answer 68 = .ok (.iload 5, 2) := by decide +kernel
theorem dX9_answer_70 : decode cX9_answer 70 = .ok (.iload_n 3, 1) := by decide +kernel
theorem dX9_answer_71 : decode cX9_answer 71 = .ok (.invokevirtual 210, 3) := by decide +kernel
theorem dX9_answer_74 : decode cX9_answer 74 = .ok (.aload 4, 2) := by decide +kernel
theorem dX9_answer_76 : decode cX9_answer 76 = .ok (.getfield 214, 3) := by decide +kernel
theorem dX9_answer_79 : decode cX9_answer 79 = .ok (.aload_n 0, 1) := by decide +kernel
theorem dX9_answer_80 : decode cX9_answer 80 = .ok (.getfield 13, 3) := by decide +kernel
theorem dX9_answer_83 : decode cX9_answer 83 = .ok (.if_icmp .lt 33, 3) := by decide +kernel
theorem dX9_answer_86 : decode cX9_answer 86 = .ok (.aload_n 0, 1) := by decide +kernel
theorem dX9_answer_87 : decode cX9_answer 87 = .ok (.dup, 1) := by decide +kernel
theorem dX9_answer_88 : decode cX9_answer 88 = .ok (.getfield 70, 3) := by decide +kernel
theorem dX9_answer_91 : decode cX9_answer 91 = .ok (.iconst 1, 1) := by decide +kernel
theorem dX9_answer_92 : decode cX9_answer 92 = .ok (.iadd, 1) := by decide +kernel
theorem dX9_answer_93 : decode cX9_answer 93 = .ok (.putfield 70, 3) := by decide +kernel
theorem dX9_answer_96 : decode cX9_answer 96 = .ok (.aload_n 0, 1) := by decide +kernel
theorem dX9_answer_97 : decode cX9_answer 97 = .ok (.iload_n 1, 1) := by decide +kernel
theorem dX9_answer_98 : decode cX9_answer 98 = .ok (.invokevirtual 217, 3) := by decide +kernel
theorem dX9_answer_101 : decode cX9_answer 101 = .ok (.aload_n 0, 1) := by decide +kernel
theorem dX9_answer_102 : decode cX9_answer 102 = .ok (.getfield 50, 3) := by decide +kernel
theorem dX9_answer_105 : decode cX9_answer 105 = .ok (.aload 4, 2) := by decide +kernel
theorem dX9_answer_107 : decode cX9_answer 107 = .ok (.getfield 188, 3) := by decide +kernel
theorem dX9_answer_110 : decode cX9_answer 110 = .ok (.iconst 1, 1) := by decide +kernel
theorem dX9_answer_111 : decode cX9_answer 111 = .ok (.invokevirtual 220, 3) := by decide +kernel
theorem dX9_answer_114 : decode cX9_answer 114 = .ok (.iconst 1, 1) := by decide +kernel
theorem dX9_answer_115 : decode cX9_answer 115 = .ok (.ireturn, 1) := by decide +kernel
theorem dX9_answer_116 : decode cX9_answer 116 = .ok (.aload 4, 2) := by decide +kernel
theorem dX9_answer_118 : decode cX9_answer 118 = .ok (.getfield 224, 3) := by decide +kernel
theorem dX9_answer_121 : decode cX9_answer 121 = .ok (.aload_n 0, 1) := by decide +kernel
theorem dX9_answer_122 : decode cX9_answer 122 = .ok (.getfield 7, 3) := by decide +kernel
theorem dX9_answer_125 : decode cX9_answer 125 = .ok (.aload_n 0, 1) := by decide +kernel
theorem dX9_answer_126 : decode cX9_answer 126 = .ok (.getfield 13, 3) := by decide +kernel
theorem dX9_answer_129 : decode cX9_answer 129 = .ok (.isub, 1) := by decide +kernel
theorem dX9_answer_130 : decode cX9_answer 130 = .ok (.if_icmp .le 23, 3) := by decide +kernel
theorem dX9_answer_133 : decode cX9_answer 133 = .ok (.aload_n 0, 1) := by decide +kernel
theorem dX9_answer_134 : decode cX9_answer 134 = .ok (.iload_n 1, 1) := by decide +kernel
theorem dX9_answer_135 : decode cX9_answer 135 = .ok (.invokevirtual 217, 3) := by decide +kernel
theorem dX9_answer_138 : decode cX9_answer 138 = .ok (.aload_n 0, 1) := by decide +kernel
theorem dX9_answer_139 : decode cX9_answer 139 = .ok (.getfield 50, 3) := by decide +kernel
theorem dX9_answer_142 : decode cX9_answer 142 = .ok (.aload 4, 2) := by decide +kernel
theorem dX9_answer_144 : decode cX9_answer 144 = .ok (.getfield 188, 3) := by decide +kernel
theorem dX9_answer_147 : decode cX9_answer 147 = .ok (.iconst 0, 1) := by decide +kernel
theorem dX9_answer_148 : decode cX9_answer 148 = .ok (.invokevirtual 220, 3) := by decide +kernel
theorem dX9_answer_151 : decode cX9_answer 151 = .ok (.iconst 2, 1) := by decide +kernel
theorem dX9_answer_152 : decode cX9_answer 152 = .ok (.ireturn, 1) := by decide +kernel
theorem dX9_answer_153 : decode cX9_answer 153 = .ok (.iconst 0, 1) := by decide +kernel
theorem dX9_answer_154 : decode cX9_answer 154 = .ok (.ireturn, 1) := by decide +kernel
theorem dX9_expire_0 : decode cX9_expire 0 = .ok (.aload_n 0, 1) := by decide +kernel
theorem dX9_expire_1 : decode cX9_expire 1 = .ok (.iload_n 1, 1) := by decide +kernel
theorem dX9_expire_2 : decode cX9_expire 2 = .ok (.invokevirtual 179, 3) := by decide +kernel
theorem dX9_expire_5 : decode cX9_expire 5 = .ok (.astore_n 2, 1) := by decide +kernel
theorem dX9_expire_6 : decode cX9_expire 6 = .ok (.aload_n 2, 1) := by decide +kernel
theorem dX9_expire_7 : decode cX9_expire 7 = .ok (.ifnonnull 5, 3) := by decide +kernel
theorem dX9_expire_10 : decode cX9_expire 10 = .ok (.iconst 0, 1) := by decide +kernel
theorem dX9_expire_11 : decode cX9_expire 11 = .ok (.ireturn, 1) := by decide +kernel
theorem dX9_expire_12 : decode cX9_expire 12 = .ok (.aload_n 0, 1) := by decide +kernel
theorem dX9_expire_13 : decode cX9_expire 13 = .ok (.iload_n 1, 1) := by decide +kernel
theorem dX9_expire_14 : decode cX9_expire 14 = .ok (.invokevirtual 217, 3) := by decide +kernel
theorem dX9_expire_17 : decode cX9_expire 17 = .ok (.aload_n 0, 1) := by decide +kernel
theorem dX9_expire_18 : decode cX9_expire 18 = .ok (.getfield 50, 3) := by decide +kernel
theorem dX9_expire_21 : decode cX9_expire 21 = .ok (.aload_n 2, 1) := by decide +kernel
theorem dX9_expire_22 : decode cX9_expire 22 = .ok (.getfield 188, 3) := by decide +kernel
theorem dX9_expire_25 : decode cX9_expire 25 = .ok (.iconst 0, 1) := by decide +kernel
theorem dX9_expire_26 : decode cX9_expire 26 = .ok (.invokevirtual 220, 3) := by decide +kernel
theorem dX9_expire_29 : decode cX9_expire 29 = .ok (.iconst 1, 1) := by decide +kernel
theorem dX9_expire_30 : decode cX9_expire 30 = .ok (.ireturn, 1) := by decide +kernel
theorem dX9_look_0 : decode cX9_look 0 = .ok (.iload_n 2, 1) := by decide +kernel
theorem dX9_look_1 : decode cX9_look 1 = .ok (.ifCond .lt 9, 3) := by decide +kernel
theorem dX9_look_4 : decode cX9_look 4 = .ok (.iload_n 2, 1) := by decide +kernel
theorem dX9_look_5 : decode cX9_look 5 = .ok (.bipush 9, 2) := by decide +kernel
theorem dX9_look_7 : decode cX9_look 7 = .ok (.if_icmp .le 13, 3) := by decide +kernel
theorem dX9_look_10 : decode cX9_look 10 = .ok (.new 183, 3) := by decide +kernel
theorem dX9_look_13 : decode cX9_look 13 = .ok (.dup, 1) := by decide +kernel
theorem dX9_look_14 : decode cX9_look 14 = .ok (.ldc 227, 2) := by decide +kernel
theorem dX9_look_16 : decode cX9_look 16 = .ok (.invokespecial 187, 3) := by decide +kernel
theorem dX9_look_19 : decode cX9_look 19 = .ok (.athrow, 1) := by decide +kernel
theorem dX9_look_20 : decode cX9_look 20 = .ok (.aload_n 0, 1) := by decide +kernel
theorem dX9_look_21 : decode cX9_look 21 = .ok (.getfield 50, 3) := by decide +kernel
theorem dX9_look_24 : decode cX9_look 24 = .ok (.iload_n 1, 1) := by decide +kernel
theorem dX9_look_25 : decode cX9_look 25 = .ok (.invokevirtual 114, 3) := by decide +kernel
theorem dX9_look_28 : decode cX9_look 28 = .ok (.astore_n 3, 1) := by decide +kernel
theorem dX9_look_29 : decode cX9_look 29 = .ok (.aload_n 3, 1) := by decide +kernel
theorem dX9_look_30 : decode cX9_look 30 = .ok (.ifnonnull 5, 3) := by decide +kernel
theorem dX9_look_33 : decode cX9_look 33 = .ok (.iconst 0, 1) := by decide +kernel
theorem dX9_look_34 : decode cX9_look 34 = .ok (.ireturn, 1) := by decide +kernel
theorem dX9_look_35 : decode cX9_look 35 = .ok (.iload_n 2, 1) := by decide +kernel
theorem dX9_look_36 : decode cX9_look 36 = .ok (.tableswitch 120 0 8 #[52, 57, 62, 75, 88, 93, 102, 108, 114], 52) := by decide +kernel
theorem dX9_look_88 : decode cX9_look 88 = .ok (.aload_n 3, 1) := by decide +kernel
theorem dX9_look_89 : decode cX9_look 89 = .ok (.getfield 229, 3) := by decide +kernel
theorem dX9_look_92 : decode cX9_look 92 = .ok (.ireturn, 1) := by decide +kernel
theorem dX9_look_93 : decode cX9_look 93 = .ok (.aload_n 3, 1) := by decide +kernel
theorem dX9_look_94 : decode cX9_look 94 = .ok (.getfield 232, 3) := by decide +kernel
theorem dX9_look_97 : decode cX9_look 97 = .ok (.ireturn, 1) := by decide +kernel
theorem dX9_look_98 : decode cX9_look 98 = .ok (.aload_n 3, 1) := by decide +kernel
theorem dX9_look_99 : decode cX9_look 99 = .ok (.getfield 235, 3) := by decide +kernel
theorem dX9_look_102 : decode cX9_look 102 = .ok (.ifCond .eq 7, 3) := by decide +kernel
theorem dX9_look_105 : decode cX9_look 105 = .ok (.iconst 1, 1) := by decide +kernel
theorem dX9_look_106 : decode cX9_look 106 = .ok (.goto 4, 3) := by decide +kernel
theorem dX9_look_109 : decode cX9_look 109 = .ok (.iconst 0, 1) := by decide +kernel
theorem dX9_look_110 : decode cX9_look 110 = .ok (.ireturn, 1) := by decide +kernel
theorem dX9_look_111 : decode cX9_look 111 = .ok (.aload_n 3, 1) := by decide +kernel
theorem dX9_look_112 : decode cX9_look 112 = .ok (.invokevirtual 238, 3) := by decide +kernel
theorem dX9_look_115 : decode cX9_look 115 = .ok (.ifCond .eq 7, 3) := by decide +kernel
theorem dX9_look_118 : decode cX9_look 118 = .ok (.iconst 1, 1) := by decide +kernel
theorem dX9_look_119 : decode cX9_look 119 = .ok (.goto 4, 3) := by decide +kernel
theorem dX9_look_122 : decode cX9_look 122 = .ok (.iconst 0, 1) := by decide +kernel
theorem dX9_look_123 : decode cX9_look 123 = .ok (.ireturn, 1) := by decide +kernel
theorem dX9_look_124 : decode cX9_look 124 = .ok (.aload_n 3, 1) := by decide +kernel
theorem dX9_look_125 : decode cX9_look 125 = .ok (.invokevirtual 241, 3) := by decide +kernel
theorem dX9_look_128 : decode cX9_look 128 = .ok (.ireturn, 1) := by decide +kernel
theorem dX9_look_129 : decode cX9_look 129 = .ok (.aload_n 0, 1) := by decide +kernel
theorem dX9_look_130 : decode cX9_look 130 = .ok (.getfield 50, 3) := by decide +kernel
theorem dX9_look_133 : decode cX9_look 133 = .ok (.aload_n 3, 1) := by decide +kernel
theorem dX9_look_134 : decode cX9_look 134 = .ok (.invokevirtual 244, 3) := by decide +kernel
theorem dX9_look_137 : decode cX9_look 137 = .ok (.ireturn, 1) := by decide +kernel
theorem dX9_look_138 : decode cX9_look 138 = .ok (.aload_n 3, 1) := by decide +kernel
theorem dX9_look_139 : decode cX9_look 139 = .ok (.getfield 248, 3) := by decide +kernel
theorem dX9_look_142 : decode cX9_look 142 = .ok (.arraylength, 1) := by decide +kernel
theorem dX9_look_143 : decode cX9_look 143 = .ok (.ireturn, 1) := by decide +kernel
theorem dX9_look_144 : decode cX9_look 144 = .ok (.aload_n 3, 1) := by decide +kernel
theorem dX9_look_145 : decode cX9_look 145 = .ok (.getfield 251, 3) := by decide +kernel
theorem dX9_look_148 : decode cX9_look 148 = .ok (.arraylength, 1) := by decide +kernel
theorem dX9_look_149 : decode cX9_look 149 = .ok (.ireturn, 1) := by decide +kernel
theorem dX9_look_150 : decode cX9_look 150 = .ok (.aload_n 3, 1) := by decide +kernel
theorem dX9_look_151 : decode cX9_look 151 = .ok (.getfield 254, 3) := by decide +kernel
theorem dX9_look_154 : decode cX9_look 154 = .ok (.arraylength, 1) := by decide +kernel
theorem dX9_look_155 : decode cX9_look 155 = .ok (.ireturn, 1) := by decide +kernel
theorem dX9_look_156 : decode cX9_look 156 = .ok (.aload_n 3, 1) := by decide +kernel
theorem dX9_look_157 : decode cX9_look 157 = .ok (.getfield 258, 3) := by decide +kernel
theorem dX9_look_160 : decode cX9_look 160 = .ok (.arraylength, 1) := by decide +kernel
theorem dX9_look_161 : decode cX9_look 161 = .ok (.ireturn, 1) := by decide +kernel
theorem dX9_set_0 : decode cX9_set 0 = .ok (.aload_n 0, 1) := by decide +kernel
theorem dX9_set_1 : decode cX9_set 1 = .ok (.getfield 50, 3) := by decide +kernel
theorem dX9_set_4 : decode cX9_set 4 = .ok (.iload_n 1, 1) := by decide +kernel
theorem dX9_set_5 : decode cX9_set 5 = .ok (.invokevirtual 114, 3) := by decide +kernel
theorem dX9_set_8 : decode cX9_set 8 = .ok (.astore 4, 2) := by decide +kernel
theorem dX9_set_10 : decode cX9_set 10 = .ok (.aload 4, 2) := by decide +kernel
theorem dX9_set_12 : decode cX9_set 12 = .ok (.ifnull 11, 3) := by decide +kernel
theorem dX9_set_15 : decode cX9_set 15 = .ok (.aload 4, 2) := by decide +kernel
theorem dX9_set_17 : decode cX9_set 17 = .ok (.invokevirtual 133, 3) := by decide +kernel
theorem dX9_set_20 : decode cX9_set 20 = .ok (.ifCond .ne 14, 3) := by decide +kernel
theorem dX9_set_23 : decode cX9_set 23 = .ok (.new 183, 3) := by decide +kernel
theorem dX9_set_26 : decode cX9_set 26 = .ok (.dup, 1) := by decide +kernel
theorem dX9_set_27 : decode cX9_set 27 = .ok (.ldc_w 261, 3) := by decide +kernel
theorem dX9_set_30 : decode cX9_set 30 = .ok (.invokespecial 187, 3) := by decide +kernel
theorem dX9_set_33 : decode cX9_set 33 = .ok (.athrow, 1) := by decide +kernel
theorem dX9_set_34 : decode cX9_set 34 = .ok (.aload 4, 2) := by decide +kernel
theorem dX9_set_36 : decode cX9_set 36 = .ok (.iload_n 2, 1) := by decide +kernel
theorem dX9_set_37 : decode cX9_set 37 = .ok (.invokevirtual 263, 3) := by decide +kernel
theorem dX9_set_40 : decode cX9_set 40 = .ok (.astore 5, 2) := by decide +kernel
theorem dX9_set_42 : decode cX9_set 42 = .ok (.aload 5, 2) := by decide +kernel
theorem dX9_set_44 : decode cX9_set 44 = .ok (.ifnonnull 14, 3) := by decide +kernel
theorem dX9_set_47 : decode cX9_set 47 = .ok (.new 183, 3) := by decide +kernel
theorem dX9_set_50 : decode cX9_set 50 = .ok (.dup, 1) := by decide +kernel
theorem dX9_set_51 : decode cX9_set 51 = .ok (.ldc_w 267, 3) := by decide +kernel
theorem dX9_set_54 : decode cX9_set 54 = .ok (.invokespecial 187, 3) := by decide +kernel
theorem dX9_set_57 : decode cX9_set 57 = .ok (.athrow, 1) := by decide +kernel
theorem dX9_set_58 : decode cX9_set 58 = .ok (.iload_n 3, 1) := by decide +kernel
theorem dX9_set_59 : decode cX9_set 59 = .ok (.tableswitch 75 0 4 #[33, 42, 51, 60, 66], 33) := by decide +kernel
theorem dX9_set_92 : decode cX9_set 92 = .ok (.aload 5, 2) := by decide +kernel
theorem dX9_set_94 : decode cX9_set 94 = .ok (.getfield 269, 3) := by decide +kernel
theorem dX9_set_97 : decode cX9_set 97 = .ok (.invokevirtual 152, 3) := by decide +kernel
theorem dX9_set_100 : decode cX9_set 100 = .ok (.ireturn, 1) := by decide +kernel
theorem dX9_set_101 : decode cX9_set 101 = .ok (.aload 5, 2) := by decide +kernel
theorem dX9_set_103 : decode cX9_set 103 = .ok (.getfield 274, 3) := by decide +kernel
theorem dX9_set_106 : decode cX9_set 106 = .ok (.invokestatic 277, 3) := by decide +kernel
theorem dX9_set_109 : decode cX9_set 109 = .ok (.ireturn, 1) := by decide +kernel
theorem dX9_set_110 : decode cX9_set 110 = .ok (.aload 5, 2) := by decide +kernel
theorem dX9_set_112 : decode cX9_set 112 = .ok (.getfield 280, 3) := by decide +kernel
theorem dX9_set_115 : decode cX9_set 115 = .ok (.invokestatic 277, 3) := by decide +kernel
theorem dX9_set_118 : decode cX9_set 118 = .ok (.ireturn, 1) := by decide +kernel
theorem dX9_set_119 : decode cX9_set 119 = .ok (.aload 5, 2) := by decide +kernel
theorem dX9_set_121 : decode cX9_set 121 = .ok (.getfield 283, 3) := by decide +kernel
theorem dX9_set_124 : decode cX9_set 124 = .ok (.ireturn, 1) := by decide +kernel
theorem dX9_set_125 : decode cX9_set 125 = .ok (.aload 5, 2) := by decide +kernel
theorem dX9_set_127 : decode cX9_set 127 = .ok (.getfield 286, 3) := by decide +kernel
theorem dX9_set_130 : decode cX9_set 130 = .ok (.invokestatic 277, 3) := by decide +kernel
theorem dX9_set_133 : decode cX9_set 133 = .ok (.ireturn, 1) := by decide +kernel
theorem dX9_set_134 : decode cX9_set 134 = .ok (.new 183, 3) := by decide +kernel
theorem dX9_set_137 : decode cX9_set 137 = .ok (.dup, 1) := by decide +kernel
theorem dX9_set_138 : decode cX9_set 138 = .ok (.ldc 227, 2) := by decide +kernel
theorem dX9_set_140 : decode cX9_set 140 = .ok (.invokespecial 187, 3) := by decide +kernel
theorem dX9_set_143 : decode cX9_set 143 = .ok (.athrow, 1) := by decide +kernel
theorem dX9_byteOf_0 : decode cX9_byteOf 0 = .ok (.aload_n 0, 1) := by decide +kernel
theorem dX9_byteOf_1 : decode cX9_byteOf 1 = .ok (.getfield 50, 3) := by decide +kernel
theorem dX9_byteOf_4 : decode cX9_byteOf 4 = .ok (.iload_n 1, 1) := by decide +kernel
theorem dX9_byteOf_5 : decode cX9_byteOf 5 = .ok (.invokevirtual 114, 3) := by decide +kernel
theorem dX9_byteOf_8 : decode cX9_byteOf 8 = .ok (.astore_n 3, 1) := by decide +kernel
theorem dX9_byteOf_9 : decode cX9_byteOf 9 = .ok (.aload_n 3, 1) := by decide +kernel
theorem dX9_byteOf_10 : decode cX9_byteOf 10 = .ok (.ifnull 16, 3) := by decide +kernel
theorem dX9_byteOf_13 : decode cX9_byteOf 13 = .ok (.iload_n 2, 1) := by decide +kernel
theorem dX9_byteOf_14 : decode cX9_byteOf 14 = .ok (.ifCond .lt 12, 3) := by decide +kernel
theorem dX9_byteOf_17 : decode cX9_byteOf 17 = .ok (.iload_n 2, 1) := by decide +kernel
theorem dX9_byteOf_18 : decode cX9_byteOf 18 = .ok (.aload_n 3, 1) := by decide +kernel
theorem dX9_byteOf_19 : decode cX9_byteOf 19 = .ok (.getfield 258, 3) := by decide +kernel
theorem dX9_byteOf_22 : decode cX9_byteOf 22 = .ok (.arraylength, 1) := by decide +kernel
theorem dX9_byteOf_23 : decode cX9_byteOf 23 = .ok (.if_icmp .lt 5, 3) := by decide +kernel
theorem dX9_byteOf_26 : decode cX9_byteOf 26 = .ok (.iconst (-1), 1) := by decide +kernel
theorem dX9_byteOf_27 : decode cX9_byteOf 27 = .ok (.ireturn, 1) := by decide +kernel
theorem dX9_byteOf_28 : decode cX9_byteOf 28 = .ok (.aload_n 3, 1) := by decide +kernel
theorem dX9_byteOf_29 : decode cX9_byteOf 29 = .ok (.getfield 258, 3) := by decide +kernel
theorem dX9_byteOf_32 : decode cX9_byteOf 32 = .ok (.iload_n 2, 1) := by decide +kernel
theorem dX9_byteOf_33 : decode cX9_byteOf 33 = .ok (.baload, 1) := by decide +kernel
theorem dX9_byteOf_34 : decode cX9_byteOf 34 = .ok (.sipush 255, 3) := by decide +kernel
theorem dX9_byteOf_37 : decode cX9_byteOf 37 = .ok (.iand, 1) := by decide +kernel
theorem dX9_byteOf_38 : decode cX9_byteOf 38 = .ok (.ireturn, 1) := by decide +kernel
theorem dX9_listed_0 : decode cX9_listed 0 = .ok (.iload_n 1, 1) := by decide +kernel
theorem dX9_listed_1 : decode cX9_listed 1 = .ok (.tableswitch 60 0 2 #[27, 39, 51], 27) := by decide +kernel
theorem dX9_listed_28 : decode cX9_listed 28 = .ok (.aload_n 0, 1) := by decide +kernel
theorem dX9_listed_29 : decode cX9_listed 29 = .ok (.getfield 50, 3) := by decide +kernel
theorem dX9_listed_32 : decode cX9_listed 32 = .ok (.iload_n 2, 1) := by decide +kernel
theorem dX9_listed_33 : decode cX9_listed 33 = .ok (.invokevirtual 289, 3) := by decide +kernel
theorem dX9_listed_36 : decode cX9_listed 36 = .ok (.invokestatic 277, 3) := by decide +kernel
theorem dX9_listed_39 : decode cX9_listed 39 = .ok (.ireturn, 1) := by decide +kernel
theorem dX9_listed_40 : decode cX9_listed 40 = .ok (.aload_n 0, 1) := by decide +kernel
theorem dX9_listed_41 : decode cX9_listed 41 = .ok (.getfield 50, 3) := by decide +kernel
theorem dX9_listed_44 : decode cX9_listed 44 = .ok (.iload_n 2, 1) := by decide +kernel
theorem dX9_listed_45 : decode cX9_listed 45 = .ok (.invokevirtual 292, 3) := by decide +kernel
theorem dX9_listed_48 : decode cX9_listed 48 = .ok (.invokestatic 277, 3) := by decide +kernel
theorem dX9_listed_51 : decode cX9_listed 51 = .ok (.ireturn, 1) := by decide +kernel
theorem dX9_listed_52 : decode cX9_listed 52 = .ok (.aload_n 0, 1) := by decide +kernel
theorem dX9_listed_53 : decode cX9_listed 53 = .ok (.getfield 50, 3) := by decide +kernel
theorem dX9_listed_56 : decode cX9_listed 56 = .ok (.iload_n 2, 1) := by decide +kernel
theorem dX9_listed_57 : decode cX9_listed 57 = .ok (.invokevirtual 295, 3) := by decide +kernel
theorem dX9_listed_60 : decode cX9_listed 60 = .ok (.ireturn, 1) := by decide +kernel
theorem dX9_listed_61 : decode cX9_listed 61 = .ok (.iconst (-1), 1) := by decide +kernel
theorem dX9_listed_62 : decode cX9_listed 62 = .ok (.ireturn, 1) := by decide +kernel
theorem dX9_unspent_0 : decode cX9_unspent 0 = .ok (.aload_n 0, 1) := by decide +kernel
theorem dX9_unspent_1 : decode cX9_unspent 1 = .ok (.getfield 50, 3) := by decide +kernel
theorem dX9_unspent_4 : decode cX9_unspent 4 = .ok (.iload_n 1, 1) := by decide +kernel
theorem dX9_unspent_5 : decode cX9_unspent 5 = .ok (.invokevirtual 114, 3) := by decide +kernel
theorem dX9_unspent_8 : decode cX9_unspent 8 = .ok (.astore_n 3, 1) := by decide +kernel
theorem dX9_unspent_9 : decode cX9_unspent 9 = .ok (.aload_n 3, 1) := by decide +kernel
theorem dX9_unspent_10 : decode cX9_unspent 10 = .ok (.ifnonnull 7, 3) := by decide +kernel
theorem dX9_unspent_13 : decode cX9_unspent 13 = .ok (.iconst 0, 1) := by decide +kernel
theorem dX9_unspent_14 : decode cX9_unspent 14 = .ok (.goto 8, 3) := by decide +kernel
theorem dX9_unspent_17 : decode cX9_unspent 17 = .ok (.aload_n 3, 1) := by decide +kernel
theorem dX9_unspent_18 : decode cX9_unspent 18 = .ok (.iload_n 2, 1) := by decide +kernel
theorem dX9_unspent_19 : decode cX9_unspent 19 = .ok (.invokevirtual 298, 3) := by decide +kernel
theorem dX9_unspent_22 : decode cX9_unspent 22 = .ok (.ireturn, 1) := by decide +kernel
theorem dX9_begin_0 : decode cX9_begin 0 = .ok (.iload_n 1, 1) := by decide +kernel
theorem dX9_begin_1 : decode cX9_begin 1 = .ok (.ifCond .lt 33, 3) := by decide +kernel
theorem dX9_begin_4 : decode cX9_begin 4 = .ok (.iload_n 1, 1) := by decide +kernel
theorem dX9_begin_5 : decode cX9_begin 5 = .ok (.bipush 8, 2) := by decide +kernel
theorem dX9_begin_7 : decode cX9_begin 7 = .ok (.if_icmp .ge 27, 3) := by decide +kernel
theorem dX9_begin_10 : decode cX9_begin 10 = .ok (.iload_n 2, 1) := by decide +kernel
theorem dX9_begin_11 : decode cX9_begin 11 = .ok (.ifCond .lt 23, 3) := by decide +kernel
theorem dX9_begin_14 : decode cX9_begin 14 = .ok (.iload_n 2, 1) := by decide +kernel
theorem dX9_begin_15 : decode cX9_begin 15 = .ok (.iconst 2, 1) := by decide +kernel
theorem dX9_begin_16 : decode cX9_begin 16 = .ok (.if_icmp .gt 18, 3) := by decide +kernel
theorem dX9_begin_19 : decode cX9_begin 19 = .ok (.iload_n 3, 1) := by decide +kernel
theorem dX9_begin_20 : decode cX9_begin 20 = .ok (.iconst 2, 1) := by decide +kernel
theorem dX9_begin_21 : decode cX9_begin 21 = .ok (.if_icmp .lt 13, 3) := by decide +kernel
theorem dX9_begin_24 : decode cX9_begin 24 = .ok (.iload_n 3, 1) := by decide +kernel
theorem dX9_begin_25 : decode cX9_begin 25 = .ok (.bipush 8, 2) := by decide +kernel
theorem dX9_begin_27 : decode cX9_begin 27 = .ok (.if_icmp .gt 7, 3) := by decide +kernel
theorem dX9_begin_30 : decode cX9_begin 30 = .ok (.iconst 1, 1) := by decide +kernel
theorem dX9_begin_31 : decode cX9_begin 31 = .ok (.goto 4, 3) := by decide +kernel
theorem dX9_begin_34 : decode cX9_begin 34 = .ok (.iconst 0, 1) := by decide +kernel
theorem dX9_begin_35 : decode cX9_begin 35 = .ok (.istore 4, 2) := by decide +kernel
theorem dX9_begin_37 : decode cX9_begin 37 = .ok (.iload 4, 2) := by decide +kernel
theorem dX9_begin_39 : decode cX9_begin 39 = .ok (.ifCond .ne 5, 3) := by decide +kernel
theorem dX9_begin_42 : decode cX9_begin 42 = .ok (.iconst 0, 1) := by decide +kernel
theorem dX9_begin_43 : decode cX9_begin 43 = .ok (.ireturn, 1) := by decide +kernel
theorem dX9_begin_44 : decode cX9_begin 44 = .ok (.aload_n 0, 1) := by decide +kernel
theorem dX9_begin_45 : decode cX9_begin 45 = .ok (.getfield 63, 3) := by decide +kernel
theorem dX9_begin_48 : decode cX9_begin 48 = .ok (.iload_n 1, 1) := by decide +kernel
theorem dX9_begin_49 : decode cX9_begin 49 = .ok (.aaload, 1) := by decide +kernel
theorem dX9_begin_50 : decode cX9_begin 50 = .ok (.ifnonnull 20, 3) := by decide +kernel
theorem dX9_begin_53 : decode cX9_begin 53 = .ok (.aload_n 0, 1) := by decide +kernel
theorem dX9_begin_54 : decode cX9_begin 54 = .ok (.getfield 63, 3) := by decide +kernel
theorem dX9_begin_57 : decode cX9_begin 57 = .ok (.iload_n 1, 1) := by decide +kernel
theorem dX9_begin_58 : decode cX9_begin 58 = .ok (.new 61, 3) := by decide +kernel
theorem dX9_begin_61 : decode cX9_begin 61 = .ok (.dup, 1) := by decide +kernel
theorem dX9_begin_62 : decode cX9_begin 62 = .ok (.aload_n 0, 1) := by decide +kernel
theorem dX9_begin_63 : decode cX9_begin 63 = .ok (.getfield 13, 3) := by decide +kernel
theorem dX9_begin_66 : decode cX9_begin 66 = .ok (.invokespecial 301, 3) := by decide +kernel
theorem dX9_begin_69 : decode cX9_begin 69 = .ok (.aastore, 1) := by decide +kernel
theorem dX9_begin_70 : decode cX9_begin 70 = .ok (.aload_n 0, 1) := by decide +kernel
theorem dX9_begin_71 : decode cX9_begin 71 = .ok (.getfield 63, 3) := by decide +kernel
theorem dX9_begin_74 : decode cX9_begin 74 = .ok (.iload_n 1, 1) := by decide +kernel
theorem dX9_begin_75 : decode cX9_begin 75 = .ok (.aaload, 1) := by decide +kernel
theorem dX9_begin_76 : decode cX9_begin 76 = .ok (.iload_n 2, 1) := by decide +kernel
theorem dX9_begin_77 : decode cX9_begin 77 = .ok (.iload_n 3, 1) := by decide +kernel
theorem dX9_begin_78 : decode cX9_begin 78 = .ok (.iload_n 2, 1) := by decide +kernel
theorem dX9_begin_79 : decode cX9_begin 79 = .ok (.iconst 1, 1) := by decide +kernel
theorem dX9_begin_80 : decode cX9_begin 80 = .ok (.if_icmp .ne 10, 3) := by decide +kernel
theorem dX9_begin_83 : decode cX9_begin 83 = .ok (.aload_n 0, 1) := by decide +kernel
theorem dX9_begin_84 : decode cX9_begin 84 = .ok (.getfield 16, 3) := by decide +kernel
theorem dX9_begin_87 : decode cX9_begin 87 = .ok (.goto 7, 3) := by decide +kernel
theorem dX9_begin_90 : decode cX9_begin 90 = .ok (.aload_n 0, 1) := by decide +kernel
theorem dX9_begin_91 : decode cX9_begin 91 = .ok (.getfield 19, 3) := by decide +kernel
theorem dX9_begin_94 : decode cX9_begin 94 = .ok (.invokevirtual 302, 3) := by decide +kernel
theorem dX9_begin_97 : decode cX9_begin 97 = .ok (.iconst 1, 1) := by decide +kernel
theorem dX9_begin_98 : decode cX9_begin 98 = .ok (.ireturn, 1) := by decide +kernel
theorem dX9_meet_0 : decode cX9_meet 0 = .ok (.aload_n 0, 1) := by decide +kernel
theorem dX9_meet_1 : decode cX9_meet 1 = .ok (.iload_n 1, 1) := by decide +kernel
theorem dX9_meet_2 : decode cX9_meet 2 = .ok (.invokevirtual 306, 3) := by decide +kernel
theorem dX9_meet_5 : decode cX9_meet 5 = .ok (.astore_n 3, 1) := by decide +kernel
theorem dX9_meet_6 : decode cX9_meet 6 = .ok (.aload_n 3, 1) := by decide +kernel
theorem dX9_meet_7 : decode cX9_meet 7 = .ok (.ifnull 11, 3) := by decide +kernel
theorem dX9_meet_10 : decode cX9_meet 10 = .ok (.aload_n 3, 1) := by decide +kernel
theorem dX9_meet_11 : decode cX9_meet 11 = .ok (.iload_n 2, 1) := by decide +kernel
theorem dX9_meet_12 : decode cX9_meet 12 = .ok (.invokevirtual 310, 3) := by decide +kernel
theorem dX9_meet_15 : decode cX9_meet 15 = .ok (.ifCond .ne 14, 3) := by decide +kernel
theorem dX9_meet_18 : decode cX9_meet 18 = .ok (.new 84, 3) := by decide +kernel
theorem dX9_meet_21 : decode cX9_meet 21 = .ok (.dup, 1) := by decide +kernel
theorem dX9_meet_22 : decode cX9_meet 22 = .ok (.ldc_w 313, 3) := by decide +kernel
theorem dX9_meet_25 : decode cX9_meet 25 = .ok (.invokespecial 88, 3) := by decide +kernel
theorem dX9_meet_28 : decode cX9_meet 28 = .ok (.athrow, 1) := by decide +kernel
theorem dX9_meet_29 : decode cX9_meet 29 = .ok (.aload_n 3, 1) := by decide +kernel
theorem dX9_meet_30 : decode cX9_meet 30 = .ok (.getfield 315, 3) := by decide +kernel
theorem dX9_meet_33 : decode cX9_meet 33 = .ok (.iconst (-1), 1) := by decide +kernel
theorem dX9_meet_34 : decode cX9_meet 34 = .ok (.if_icmp .ne 8, 3) := by decide +kernel
theorem dX9_meet_37 : decode cX9_meet 37 = .ok (.aload_n 3, 1) := by decide +kernel
theorem dX9_meet_38 : decode cX9_meet 38 = .ok (.iload_n 2, 1) := by decide +kernel
theorem dX9_meet_39 : decode cX9_meet 39 = .ok (.putfield 315, 3) := by decide +kernel
theorem dX9_meet_42 : decode cX9_meet 42 = .ok (.aload_n 3, 1) := by decide +kernel
theorem dX9_meet_43 : decode cX9_meet 43 = .ok (.getfield 315, 3) := by decide +kernel
theorem dX9_meet_46 : decode cX9_meet 46 = .ok (.ireturn, 1) := by decide +kernel
theorem dX9_votes_0 : decode cX9_votes 0 = .ok (.aload_n 0, 1) := by decide +kernel
theorem dX9_votes_1 : decode cX9_votes 1 = .ok (.iload_n 1, 1) := by decide +kernel
theorem dX9_votes_2 : decode cX9_votes 2 = .ok (.invokevirtual 306, 3) := by decide +kernel
theorem dX9_votes_5 : decode cX9_votes 5 = .ok (.astore 4, 2) := by decide +kernel
theorem dX9_votes_7 : decode cX9_votes 7 = .ok (.aload 4, 2) := by decide +kernel
theorem dX9_votes_9 : decode cX9_votes 9 = .ok (.ifnull 11, 3) := by decide +kernel
theorem dX9_votes_12 : decode cX9_votes 12 = .ok (.aload 4, 2) := by decide +kernel
theorem dX9_votes_14 : decode cX9_votes 14 = .ok (.getfield 318, 3) := by decide +kernel
theorem dX9_votes_17 : decode cX9_votes 17 = .ok (.ifCond .eq 14, 3) := by decide +kernel
theorem dX9_votes_20 : decode cX9_votes 20 = .ok (.new 84, 3) := by decide +kernel
theorem dX9_votes_23 : decode cX9_votes 23 = .ok (.dup, 1) := by decide +kernel
theorem dX9_votes_24 : decode cX9_votes 24 = .ok (.ldc_w 321, 3) := by decide +kernel
theorem dX9_votes_27 : decode cX9_votes 27 = .ok (.invokespecial 88, 3) := by decide +kernel
theorem dX9_votes_30 : decode cX9_votes 30 = .ok (.athrow, 1) := by decide +kernel
theorem dX9_votes_31 : decode cX9_votes 31 = .ok (.aload 4, 2) := by decide +kernel
theorem dX9_votes_33 : decode cX9_votes 33 = .ok (.iload_n 2, 1) := by decide +kernel
theorem dX9_votes_34 : decode cX9_votes 34 = .ok (.invokevirtual 310, 3) := by decide +kernel
theorem dX9_votes_37 : decode cX9_votes 37 = .ok (.ifCond .eq 8, 3) := by decide +kernel
theorem dX9_votes_40 : decode cX9_votes 40 = .ok (.iload_n 3, 1) := by decide +kernel
theorem dX9_votes_41 : decode cX9_votes 41 = .ok (.iconst 1, 1) := by decide +kernel
theorem dX9_votes_42 : decode cX9_votes 42 = .ok (.if_icmp .ge 14, 3) := by decide +kernel
theorem dX9_votes_45 : decode cX9_votes 45 = .ok (.new 84, 3) := by decide +kernel
theorem dX9_votes_48 : decode cX9_votes 48 = .ok (.dup, 1) := by decide +kernel
theorem dX9_votes_49 : decode cX9_votes 49 = .ok (.ldc_w 323, 3) := by decide +kernel
theorem dX9_votes_52 : decode cX9_votes 52 = .ok (.invokespecial 88, 3) := by decide +kernel
theorem dX9_votes_55 : decode cX9_votes 55 = .ok (.athrow, 1) := by decide +kernel
theorem dX9_votes_56 : decode cX9_votes 56 = .ok (.iload_n 3, 1) := by decide +kernel
theorem dX9_votes_57 : decode cX9_votes 57 = .ok (.aload_n 0, 1) := by decide +kernel
theorem dX9_votes_58 : decode cX9_votes 58 = .ok (.getfield 7, 3) := by decide +kernel
theorem dX9_votes_61 : decode cX9_votes 61 = .ok (.aload 4, 2) := by decide +kernel
theorem dX9_votes_63 : decode cX9_votes 63 = .ok (.getfield 325, 3) := by decide +kernel
theorem dX9_votes_66 : decode cX9_votes 66 = .ok (.isub, 1) := by decide +kernel
theorem dX9_votes_67 : decode cX9_votes 67 = .ok (.if_icmp .le 14, 3) := by decide +kernel
theorem dX9_votes_70 : decode cX9_votes 70 = .ok (.new 118, 3) := by decide +kernel
theorem dX9_votes_73 : decode cX9_votes 73 = .ok (.dup, 1) := by decide +kernel
theorem dX9_votes_74 : decode cX9_votes 74 = .ok (.ldc_w 328, 3) := by decide +kernel
theorem dX9_votes_77 : decode cX9_votes 77 = .ok (.invokespecial 122, 3) := by decide +kernel
theorem dX9_votes_80 : decode cX9_votes 80 = .ok (.athrow, 1) := by decide +kernel
theorem dX9_votes_81 : decode cX9_votes 81 = .ok (.aload 4, 2) := by decide +kernel
theorem dX9_votes_83 : decode cX9_votes 83 = .ok (.iload_n 2, 1) := by decide +kernel
theorem dX9_votes_84 : decode cX9_votes 84 = .ok (.iload_n 3, 1) := by decide +kernel
theorem dX9_votes_85 : decode cX9_votes 85 = .ok (.invokevirtual 330, 3) := by decide +kernel
theorem dX9_votes_88 : decode cX9_votes 88 = .ok (.return_, 1) := by decide +kernel
theorem dX9_round_0 : decode cX9_round 0 = .ok (.aload_n 0, 1) := by decide +kernel
theorem dX9_round_1 : decode cX9_round 1 = .ok (.iload_n 1, 1) := by decide +kernel
theorem dX9_round_2 : decode cX9_round 2 = .ok (.invokevirtual 306, 3) := by decide +kernel
theorem dX9_round_5 : decode cX9_round 5 = .ok (.astore_n 2, 1) := by decide +kernel
theorem dX9_round_6 : decode cX9_round 6 = .ok (.aload_n 2, 1) := by decide +kernel
theorem dX9_round_7 : decode cX9_round 7 = .ok (.ifnull 10, 3) := by decide +kernel
theorem dX9_round_10 : decode cX9_round 10 = .ok (.aload_n 2, 1) := by decide +kernel
theorem dX9_round_11 : decode cX9_round 11 = .ok (.getfield 318, 3) := by decide +kernel
theorem dX9_round_14 : decode cX9_round 14 = .ok (.ifCond .eq 14, 3) := by decide +kernel
theorem dX9_round_17 : decode cX9_round 17 = .ok (.new 84, 3) := by decide +kernel
theorem dX9_round_20 : decode cX9_round 20 = .ok (.dup, 1) := by decide +kernel
theorem dX9_round_21 : decode cX9_round 21 = .ok (.ldc_w 321, 3) := by decide +kernel
theorem dX9_round_24 : decode cX9_round 24 = .ok (.invokespecial 88, 3) := by decide +kernel
theorem dX9_round_27 : decode cX9_round 27 = .ok (.athrow, 1) := by decide +kernel
theorem dX9_round_28 : decode cX9_round 28 = .ok (.aload_n 2, 1) := by decide +kernel
theorem dX9_round_29 : decode cX9_round 29 = .ok (.invokevirtual 333, 3) := by decide +kernel
theorem dX9_round_32 : decode cX9_round 32 = .ok (.ireturn, 1) := by decide +kernel
theorem dX9_state_0 : decode cX9_state 0 = .ok (.aload_n 0, 1) := by decide +kernel
theorem dX9_state_1 : decode cX9_state 1 = .ok (.iload_n 1, 1) := by decide +kernel
theorem dX9_state_2 : decode cX9_state 2 = .ok (.invokevirtual 306, 3) := by decide +kernel
theorem dX9_state_5 : decode cX9_state 5 = .ok (.astore_n 3, 1) := by decide +kernel
theorem dX9_state_6 : decode cX9_state 6 = .ok (.aload_n 3, 1) := by decide +kernel
theorem dX9_state_7 : decode cX9_state 7 = .ok (.ifnonnull 5, 3) := by decide +kernel
theorem dX9_state_10 : decode cX9_state 10 = .ok (.iconst (-1), 1) := by decide +kernel
theorem dX9_state_11 : decode cX9_state 11 = .ok (.ireturn, 1) := by decide +kernel
theorem dX9_state_12 : decode cX9_state 12 = .ok (.iload_n 2, 1) := by decide +kernel
theorem dX9_state_13 : decode cX9_state 13 = .ok (.tableswitch 59 0 3 #[31, 36, 41, 54], 31) := by decide +kernel
theorem dX9_state_44 : decode cX9_state 44 = .ok (.aload_n 3, 1) := by decide +kernel
theorem dX9_state_45 : decode cX9_state 45 = .ok (.getfield 315, 3) := by decide +kernel
theorem dX9_state_48 : decode cX9_state 48 = .ok (.ireturn, 1) := by decide +kernel
theorem dX9_state_49 : decode cX9_state 49 = .ok (.aload_n 3, 1) := by decide +kernel
theorem dX9_state_50 : decode cX9_state 50 = .ok (.getfield 336, 3) := by decide +kernel
theorem dX9_state_53 : decode cX9_state 53 = .ok (.ireturn, 1) := by decide +kernel
theorem dX9_state_54 : decode cX9_state 54 = .ok (.aload_n 3, 1) := by decide +kernel
theorem dX9_state_55 : decode cX9_state 55 = .ok (.getfield 318, 3) := by decide +kernel
theorem dX9_state_58 : decode cX9_state 58 = .ok (.ifCond .eq 7, 3) := by decide +kernel
theorem dX9_state_61 : decode cX9_state 61 = .ok (.iconst 1, 1) := by decide +kernel
theorem dX9_state_62 : decode cX9_state 62 = .ok (.goto 4, 3) := by decide +kernel
theorem dX9_state_65 : decode cX9_state 65 = .ok (.iconst 0, 1) := by decide +kernel
theorem dX9_state_66 : decode cX9_state 66 = .ok (.ireturn, 1) := by decide +kernel
theorem dX9_state_67 : decode cX9_state 67 = .ok (.aload_n 3, 1) := by decide +kernel
theorem dX9_state_68 : decode cX9_state 68 = .ok (.getfield 325, 3) := by decide +kernel
theorem dX9_state_71 : decode cX9_state 71 = .ok (.ireturn, 1) := by decide +kernel
theorem dX9_state_72 : decode cX9_state 72 = .ok (.iload_n 2, 1) := by decide +kernel
theorem dX9_state_73 : decode cX9_state 73 = .ok (.iconst 4, 1) := by decide +kernel
theorem dX9_state_74 : decode cX9_state 74 = .ok (.if_icmp .ge 7, 3) := by decide +kernel
theorem dX9_state_77 : decode cX9_state 77 = .ok (.iconst (-1), 1) := by decide +kernel
theorem dX9_state_78 : decode cX9_state 78 = .ok (.goto 10, 3) := by decide +kernel
theorem dX9_state_81 : decode cX9_state 81 = .ok (.aload_n 3, 1) := by decide +kernel
theorem dX9_state_82 : decode cX9_state 82 = .ok (.iload_n 2, 1) := by decide +kernel
theorem dX9_state_83 : decode cX9_state 83 = .ok (.iconst 4, 1) := by decide +kernel
theorem dX9_state_84 : decode cX9_state 84 = .ok (.isub, 1) := by decide +kernel
theorem dX9_state_85 : decode cX9_state 85 = .ok (.invokevirtual 337, 3) := by decide +kernel
theorem dX9_state_88 : decode cX9_state 88 = .ok (.ireturn, 1) := by decide +kernel
theorem dX9_count_0 : decode cX9_count 0 = .ok (.iload_n 1, 1) := by decide +kernel
theorem dX9_count_1 : decode cX9_count 1 = .ok (.tableswitch 153 0 10 #[59, 70, 79, 90, 101, 110, 119, 127, 132, 137, 145], 59) := by decide +kernel
theorem dX9_count_60 : decode cX9_count 60 = .ok (.aload_n 0, 1) := by decide +kernel
theorem dX9_count_61 : decode cX9_count 61 = .ok (.getfield 50, 3) := by decide +kernel
theorem dX9_count_64 : decode cX9_count 64 = .ok (.getfield 340, 3) := by decide +kernel
theorem dX9_count_67 : decode cX9_count 67 = .ok (.invokevirtual 152, 3) := by decide +kernel
theorem dX9_count_70 : decode cX9_count 70 = .ok (.ireturn, 1) := by decide +kernel
theorem dX9_count_71 : decode cX9_count 71 = .ok (.aload_n 0, 1) := by decide +kernel
theorem dX9_count_72 : decode cX9_count 72 = .ok (.getfield 50, 3) := by decide +kernel
theorem dX9_count_75 : decode cX9_count 75 = .ok (.iconst 1, 1) := by decide +kernel
theorem dX9_count_76 : decode cX9_count 76 = .ok (.invokevirtual 343, 3) := by decide +kernel
theorem dX9_count_79 : decode cX9_count 79 = .ok (.ireturn, 1) := by decide +kernel
theorem dX9_count_80 : decode cX9_count 80 = .ok (.aload_n 0, 1) := by decide +kernel
theorem dX9_count_81 : decode cX9_count 81 = .ok (.getfield 50, 3) := by decide +kernel
theorem dX9_count_84 : decode cX9_count 84 = .ok (.getfield 346, 3) := by decide +kernel
theorem dX9_count_87 : decode cX9_count 87 = .ok (.invokevirtual 152, 3) := by decide +kernel
theorem dX9_count_90 : decode cX9_count 90 = .ok (.ireturn, 1) := by decide +kernel
theorem dX9_count_91 : decode cX9_count 91 = .ok (.aload_n 0, 1) := by decide +kernel
theorem dX9_count_92 : decode cX9_count 92 = .ok (.getfield 50, 3) := by decide +kernel
theorem dX9_count_95 : decode cX9_count 95 = .ok (.getfield 349, 3) := by decide +kernel
theorem dX9_count_98 : decode cX9_count 98 = .ok (.invokevirtual 152, 3) := by decide +kernel
theorem dX9_count_101 : decode cX9_count 101 = .ok (.ireturn, 1) := by decide +kernel
theorem dX9_count_102 : decode cX9_count 102 = .ok (.aload_n 0, 1) := by decide +kernel
theorem dX9_count_103 : decode cX9_count 103 = .ok (.getfield 50, 3) := by decide +kernel
theorem dX9_count_106 : decode cX9_count 106 = .ok (.iconst 4, 1) := by decide +kernel
theorem dX9_count_107 : decode cX9_count 107 = .ok (.invokevirtual 343, 3) := by decide +kernel
theorem dX9_count_110 : decode cX9_count 110 = .ok (.ireturn, 1) := by decide +kernel
theorem dX9_count_111 : decode cX9_count 111 = .ok (.aload_n 0, 1) := by decide +kernel
theorem dX9_count_112 : decode cX9_count 112 = .ok (.getfield 50, 3) := by decide +kernel
theorem dX9_count_115 : decode cX9_count 115 = .ok (.iconst 5, 1) := by decide +kernel
theorem dX9_count_116 : decode cX9_count 116 = .ok (.invokevirtual 343, 3) := by decide +kernel
theorem dX9_count_119 : decode cX9_count 119 = .ok (.ireturn, 1) := by decide +kernel
theorem dX9_count_120 : decode cX9_count 120 = .ok (.aload_n 0, 1) := by decide +kernel
theorem dX9_count_121 : decode cX9_count 121 = .ok (.getfield 57, 3) := by decide +kernel
theorem dX9_count_124 : decode cX9_count 124 = .ok (.invokevirtual 152, 3) := by decide +kernel
theorem dX9_count_127 : decode cX9_count 127 = .ok (.ireturn, 1) := by decide +kernel
theorem dX9_count_128 : decode cX9_count 128 = .ok (.aload_n 0, 1) := by decide +kernel
theorem dX9_count_129 : decode cX9_count 129 = .ok (.getfield 67, 3) := by decide +kernel
theorem dX9_count_132 : decode cX9_count 132 = .ok (.ireturn, 1) := by decide +kernel
theorem dX9_count_133 : decode cX9_count 133 = .ok (.aload_n 0, 1) := by decide +kernel
theorem dX9_count_134 : decode cX9_count 134 = .ok (.getfield 70, 3) := by decide +kernel
theorem dX9_count_137 : decode cX9_count 137 = .ok (.ireturn, 1) := by decide +kernel
theorem dX9_count_138 : decode cX9_count 138 = .ok (.aload_n 0, 1) := by decide +kernel
theorem dX9_count_139 : decode cX9_count 139 = .ok (.getfield 34, 3) := by decide +kernel
theorem dX9_count_142 : decode cX9_count 142 = .ok (.getfield 81, 3) := by decide +kernel
theorem dX9_count_145 : decode cX9_count 145 = .ok (.ireturn, 1) := by decide +kernel
theorem dX9_count_146 : decode cX9_count 146 = .ok (.aload_n 0, 1) := by decide +kernel
theorem dX9_count_147 : decode cX9_count 147 = .ok (.getfield 50, 3) := by decide +kernel
theorem dX9_count_150 : decode cX9_count 150 = .ok (.invokevirtual 351, 3) := by decide +kernel
theorem dX9_count_153 : decode cX9_count 153 = .ok (.ireturn, 1) := by decide +kernel
theorem dX9_count_154 : decode cX9_count 154 = .ok (.iconst (-1), 1) := by decide +kernel
theorem dX9_count_155 : decode cX9_count 155 = .ok (.ireturn, 1) := by decide +kernel
theorem dX9_idOrNone_0 : decode cX9_idOrNone 0 = .ok (.aload_n 0, 1) := by decide +kernel
theorem dX9_idOrNone_1 : decode cX9_idOrNone 1 = .ok (.ifnonnull 7, 3) := by decide +kernel
theorem dX9_idOrNone_4 : decode cX9_idOrNone 4 = .ok (.iconst (-1), 1) := by decide +kernel
theorem dX9_idOrNone_5 : decode cX9_idOrNone 5 = .ok (.goto 7, 3) := by decide +kernel
theorem dX9_idOrNone_8 : decode cX9_idOrNone 8 = .ok (.aload_n 0, 1) := by decide +kernel
theorem dX9_idOrNone_9 : decode cX9_idOrNone 9 = .ok (.getfield 109, 3) := by decide +kernel
theorem dX9_idOrNone_12 : decode cX9_idOrNone 12 = .ok (.ireturn, 1) := by decide +kernel
theorem dX9_findOpenPoll_0 : decode cX9_findOpenPoll 0 = .ok (.iconst 0, 1) := by decide +kernel
theorem dX9_findOpenPoll_1 : decode cX9_findOpenPoll 1 = .ok (.istore_n 2, 1) := by decide +kernel
theorem dX9_findOpenPoll_2 : decode cX9_findOpenPoll 2 = .ok (.iload_n 2, 1) := by decide +kernel
theorem dX9_findOpenPoll_3 : decode cX9_findOpenPoll 3 = .ok (.aload_n 0, 1) := by decide +kernel
theorem dX9_findOpenPoll_4 : decode cX9_findOpenPoll 4 = .ok (.getfield 57, 3) := by decide +kernel
theorem dX9_findOpenPoll_7 : decode cX9_findOpenPoll 7 = .ok (.invokevirtual 152, 3) := by decide +kernel
theorem dX9_findOpenPoll_10 : decode cX9_findOpenPoll 10 = .ok (.if_icmp .ge 39, 3) := by decide +kernel
theorem dX9_findOpenPoll_13 : decode cX9_findOpenPoll 13 = .ok (.aload_n 0, 1) := by decide +kernel
theorem dX9_findOpenPoll_14 : decode cX9_findOpenPoll 14 = .ok (.getfield 57, 3) := by decide +kernel
theorem dX9_findOpenPoll_17 : decode cX9_findOpenPoll 17 = .ok (.iload_n 2, 1) := by decide +kernel
theorem dX9_findOpenPoll_18 : decode cX9_findOpenPoll 18 = .ok (.invokevirtual 354, 3) := by decide +kernel
theorem dX9_findOpenPoll_21 : decode cX9_findOpenPoll 21 = .ok (.checkcast 166, 3) := by decide +kernel
theorem dX9_findOpenPoll_24 : decode cX9_findOpenPoll 24 = .ok (.getfield 358, 3) := by decide +kernel
theorem dX9_findOpenPoll_27 : decode cX9_findOpenPoll 27 = .ok (.iload_n 1, 1) := by decide +kernel
theorem dX9_findOpenPoll_28 : decode cX9_findOpenPoll 28 = .ok (.if_icmp .ne 15, 3) := by decide +kernel
theorem dX9_findOpenPoll_31 : decode cX9_findOpenPoll 31 = .ok (.aload_n 0, 1) := by decide +kernel
theorem dX9_findOpenPoll_32 : decode cX9_findOpenPoll 32 = .ok (.getfield 57, 3) := by decide +kernel
theorem dX9_findOpenPoll_35 : decode cX9_findOpenPoll 35 = .ok (.iload_n 2, 1) := by decide +kernel
theorem dX9_findOpenPoll_36 : decode cX9_findOpenPoll 36 = .ok (.invokevirtual 354, 3) := by decide +kernel
theorem dX9_findOpenPoll_39 : decode cX9_findOpenPoll 39 = .ok (.checkcast 166, 3) := by decide +kernel
theorem dX9_findOpenPoll_42 : decode cX9_findOpenPoll 42 = .ok (.areturn, 1) := by decide +kernel
theorem dX9_findOpenPoll_43 : decode cX9_findOpenPoll 43 = .ok (.iinc 2 1, 3) := by decide +kernel
theorem dX9_findOpenPoll_46 : decode cX9_findOpenPoll 46 = .ok (.goto (-44), 3) := by decide +kernel
theorem dX9_findOpenPoll_49 : decode cX9_findOpenPoll 49 = .ok (.aconst_null, 1) := by decide +kernel
theorem dX9_findOpenPoll_50 : decode cX9_findOpenPoll 50 = .ok (.areturn, 1) := by decide +kernel
theorem dX9_dropOpenPoll_0 : decode cX9_dropOpenPoll 0 = .ok (.aload_n 0, 1) := by decide +kernel
theorem dX9_dropOpenPoll_1 : decode cX9_dropOpenPoll 1 = .ok (.getfield 57, 3) := by decide +kernel
theorem dX9_dropOpenPoll_4 : decode cX9_dropOpenPoll 4 = .ok (.invokevirtual 152, 3) := by decide +kernel
theorem dX9_dropOpenPoll_7 : decode cX9_dropOpenPoll 7 = .ok (.iconst 1, 1) := by decide +kernel
theorem dX9_dropOpenPoll_8 : decode cX9_dropOpenPoll 8 = .ok (.isub, 1) := by decide +kernel
theorem dX9_dropOpenPoll_9 : decode cX9_dropOpenPoll 9 = .ok (.istore_n 2, 1) := by decide +kernel
theorem dX9_dropOpenPoll_10 : decode cX9_dropOpenPoll 10 = .ok (.iload_n 2, 1) := by decide +kernel
theorem dX9_dropOpenPoll_11 : decode cX9_dropOpenPoll 11 = .ok (.ifCond .lt 36, 3) := by decide +kernel
theorem dX9_dropOpenPoll_14 : decode cX9_dropOpenPoll 14 = .ok (.aload_n 0, 1) := by decide +kernel
theorem dX9_dropOpenPoll_15 : decode cX9_dropOpenPoll 15 = .ok (.getfield 57, 3) := by decide +kernel
theorem dX9_dropOpenPoll_18 : decode cX9_dropOpenPoll 18 = .ok (.iload_n 2, 1) := by decide +kernel
theorem dX9_dropOpenPoll_19 : decode cX9_dropOpenPoll 19 = .ok (.invokevirtual 354, 3) := by decide +kernel
theorem dX9_dropOpenPoll_22 : decode cX9_dropOpenPoll 22 = .ok (.checkcast 166, 3) := by decide +kernel
theorem dX9_dropOpenPoll_25 : decode cX9_dropOpenPoll 25 = .ok (.getfield 358, 3) := by decide +kernel
theorem dX9_dropOpenPoll_28 : decode cX9_dropOpenPoll 28 = .ok (.iload_n 1, 1) := by decide +kernel
theorem dX9_dropOpenPoll_29 : decode cX9_dropOpenPoll 29 = .ok (.if_icmp .ne 12, 3) := by decide +kernel
theorem dX9_dropOpenPoll_32 : decode cX9_dropOpenPoll 32 = .ok (.aload_n 0, 1) := by decide +kernel
theorem dX9_dropOpenPoll_33 : decode cX9_dropOpenPoll 33 = .ok (.getfield 57, 3) := by decide +kernel
theorem dX9_dropOpenPoll_36 : decode cX9_dropOpenPoll 36 = .ok (.iload_n 2, 1) := by decide +kernel
theorem dX9_dropOpenPoll_37 : decode cX9_dropOpenPoll 37 = .ok (.invokevirtual 361, 3) := by decide +kernel
theorem dX9_dropOpenPoll_40 : decode cX9_dropOpenPoll 40 = .ok (.pop, 1) := by decide +kernel
theorem dX9_dropOpenPoll_41 : decode cX9_dropOpenPoll 41 = .ok (.iinc 2 (-1), 3) := by decide +kernel
theorem dX9_dropOpenPoll_44 : decode cX9_dropOpenPoll 44 = .ok (.goto (-34), 3) := by decide +kernel
theorem dX9_dropOpenPoll_47 : decode cX9_dropOpenPoll 47 = .ok (.return_, 1) := by decide +kernel
theorem dX9_findChoice_0 : decode cX9_findChoice 0 = .ok (.iload_n 1, 1) := by decide +kernel
theorem dX9_findChoice_1 : decode cX9_findChoice 1 = .ok (.ifCond .lt 9, 3) := by decide +kernel
theorem dX9_findChoice_4 : decode cX9_findChoice 4 = .ok (.iload_n 1, 1) := by decide +kernel
theorem dX9_findChoice_5 : decode cX9_findChoice 5 = .ok (.bipush 8, 2) := by decide +kernel
theorem dX9_findChoice_7 : decode cX9_findChoice 7 = .ok (.if_icmp .lt 7, 3) := by decide +kernel
theorem dX9_findChoice_10 : decode cX9_findChoice 10 = .ok (.aconst_null, 1) := by decide +kernel
theorem dX9_findChoice_11 : decode cX9_findChoice 11 = .ok (.goto 9, 3) := by decide +kernel
theorem dX9_findChoice_14 : decode cX9_findChoice 14 = .ok (.aload_n 0, 1) := by decide +kernel
theorem dX9_findChoice_15 : decode cX9_findChoice 15 = .ok (.getfield 63, 3) := by decide +kernel
theorem dX9_findChoice_18 : decode cX9_findChoice 18 = .ok (.iload_n 1, 1) := by decide +kernel
theorem dX9_findChoice_19 : decode cX9_findChoice 19 = .ok (.aaload, 1) := by decide +kernel
theorem dX9_findChoice_20 : decode cX9_findChoice 20 = .ok (.areturn, 1) := by decide +kernel
theorem dX10_init_0 : decode cX10_init 0 = .ok (.aload_n 0, 1) := by decide +kernel
theorem dX10_init_1 : decode cX10_init 1 = .ok (.invokespecial 1, 3) := by decide +kernel
theorem dX10_init_4 : decode cX10_init 4 = .ok (.aload_n 0, 1) := by decide +kernel
theorem dX10_init_5 : decode cX10_init 5 = .ok (.bipush 20, 2) := by decide +kernel
theorem dX10_init_7 : decode cX10_init 7 = .ok (.newarray .int, 2) := by decide +kernel
theorem dX10_init_9 : decode cX10_init 9 = .ok (.putfield 7, 3) := by decide +kernel
theorem dX10_init_12 : decode cX10_init 12 = .ok (.aload_n 0, 1) := by decide +kernel
theorem dX10_init_13 : decode cX10_init 13 = .ok (.sipush 128, 3) := by decide +kernel
theorem dX10_init_16 : decode cX10_init 16 = .ok (.newarray .int, 2) := by decide +kernel
theorem dX10_init_18 : decode cX10_init 18 = .ok (.putfield 13, 3) := by decide +kernel
theorem dX10_init_21 : decode cX10_init 21 = .ok (.aload_n 0, 1) := by decide +kernel
theorem dX10_init_22 : decode cX10_init 22 = .ok (.iconst 1, 1) := by decide +kernel
theorem dX10_init_23 : decode cX10_init 23 = .ok (.putfield 16, 3) := by decide +kernel
theorem dX10_init_26 : decode cX10_init 26 = .ok (.aload_n 0, 1) := by decide +kernel
theorem dX10_init_27 : decode cX10_init 27 = .ok (.sipush 140, 3) := by decide +kernel
theorem dX10_init_30 : decode cX10_init 30 = .ok (.newarray .int, 2) := by decide +kernel
theorem dX10_init_32 : decode cX10_init 32 = .ok (.putfield 20, 3) := by decide +kernel
theorem dX10_init_35 : decode cX10_init 35 = .ok (.aload_n 0, 1) := by decide +kernel
theorem dX10_init_36 : decode cX10_init 36 = .ok (.sipush 7840, 3) := by decide +kernel
theorem dX10_init_39 : decode cX10_init 39 = .ok (.newarray .byte, 2) := by decide +kernel
theorem dX10_init_41 : decode cX10_init 41 = .ok (.putfield 23, 3) := by decide +kernel
theorem dX10_init_44 : decode cX10_init 44 = .ok (.aload_n 0, 1) := by decide +kernel
theorem dX10_init_45 : decode cX10_init 45 = .ok (.sipush 140, 3) := by decide +kernel
theorem dX10_init_48 : decode cX10_init 48 = .ok (.newarray .int, 2) := by decide +kernel
theorem dX10_init_50 : decode cX10_init 50 = .ok (.putfield 27, 3) := by decide +kernel
theorem dX10_init_53 : decode cX10_init 53 = .ok (.aload_n 0, 1) := by decide +kernel
theorem dX10_init_54 : decode cX10_init 54 = .ok (.sipush 140, 3) := by decide +kernel
theorem dX10_init_57 : decode cX10_init 57 = .ok (.newarray .int, 2) := by decide +kernel
theorem dX10_init_59 : decode cX10_init 59 = .ok (.putfield 30, 3) := by decide +kernel
theorem dX10_init_62 : decode cX10_init 62 = .ok (.aload_n 0, 1) := by decide +kernel
theorem dX10_init_63 : decode cX10_init 63 = .ok (.sipush 140, 3) := by decide +kernel
theorem dX10_init_66 : decode cX10_init 66 = .ok (.newarray .boolean, 2) := by decide +kernel
theorem dX10_init_68 : decode cX10_init 68 = .ok (.putfield 33, 3) := by decide +kernel
theorem dX10_init_71 : decode cX10_init 71 = .ok (.aload_n 0, 1) := by decide +kernel
theorem dX10_init_72 : decode cX10_init 72 = .ok (.sipush 140, 3) := by decide +kernel
theorem dX10_init_75 : decode cX10_init 75 = .ok (.newarray .boolean, 2) := by decide +kernel
theorem dX10_init_77 : decode cX10_init 77 = .ok (.putfield 37, 3) := by decide +kernel
theorem dX10_init_80 : decode cX10_init 80 = .ok (.aload_n 0, 1) := by decide +kernel
theorem dX10_init_81 : decode cX10_init 81 = .ok (.sipush 140, 3) := by decide +kernel
theorem dX10_init_84 : decode cX10_init 84 = .ok (.newarray .int, 2) := by decide +kernel
theorem dX10_init_86 : decode cX10_init 86 = .ok (.putfield 40, 3) := by decide +kernel
theorem dX10_init_89 : decode cX10_init 89 = .ok (.aload_n 0, 1) := by decide +kernel
theorem dX10_init_90 : decode cX10_init 90 = .ok (.iconst 1, 1) := by decide +kernel
theorem dX10_init_91 : decode cX10_init 91 = .ok (.putfield 43, 3) := by decide +kernel
theorem dX10_init_94 : decode cX10_init 94 = .ok (.aload_n 0, 1) := by decide +kernel
theorem dX10_init_95 : decode cX10_init 95 = .ok (.sipush 140, 3) := by decide +kernel
theorem dX10_init_98 : decode cX10_init 98 = .ok (.newarray .int, 2) := by decide +kernel
theorem dX10_init_100 : decode cX10_init 100 = .ok (.putfield 46, 3) := by decide +kernel
theorem dX10_init_103 : decode cX10_init 103 = .ok (.aload_n 0, 1) := by decide +kernel
theorem dX10_init_104 : decode cX10_init 104 = .ok (.iconst 1, 1) := by decide +kernel
theorem dX10_init_105 : decode cX10_init 105 = .ok (.putfield 49, 3) := by decide +kernel
theorem dX10_init_108 : decode cX10_init 108 = .ok (.aload_n 0, 1) := by decide +kernel
theorem dX10_init_109 : decode cX10_init 109 = .ok (.sipush 140, 3) := by decide +kernel
theorem dX10_init_112 : decode cX10_init 112 = .ok (.newarray .boolean, 2) := by decide +kernel
theorem dX10_init_114 : decode cX10_init 114 = .ok (.putfield 52, 3) := by decide +kernel
theorem dX10_init_117 : decode cX10_init 117 = .ok (.aload_n 0, 1) := by decide +kernel
theorem dX10_init_118 : decode cX10_init 118 = .ok (.sipush 140, 3) := by decide +kernel
theorem dX10_init_121 : decode cX10_init 121 = .ok (.newarray .boolean, 2) := by decide +kernel
theorem dX10_init_123 : decode cX10_init 123 = .ok (.putfield 55, 3) := by decide +kernel
theorem dX10_init_126 : decode cX10_init 126 = .ok (.aload_n 0, 1) := by decide +kernel
theorem dX10_init_127 : decode cX10_init 127 = .ok (.sipush 564, 3) := by decide +kernel
theorem dX10_init_130 : decode cX10_init 130 = .ok (.newarray .int, 2) := by decide +kernel
theorem dX10_init_132 : decode cX10_init 132 = .ok (.putfield 58, 3) := by decide +kernel
theorem dX10_init_135 : decode cX10_init 135 = .ok (.aload_n 0, 1) := by decide +kernel
theorem dX10_init_136 : decode cX10_init 136 = .ok (.sipush 564, 3) := by decide +kernel
theorem dX10_init_139 : decode cX10_init 139 = .ok (.newarray .int, 2) := by decide +kernel
theorem dX10_init_141 : decode cX10_init 141 = .ok (.putfield 61, 3) := by decide +kernel
theorem dX10_init_144 : decode cX10_init 144 = .ok (.aload_n 0, 1) := by decide +kernel
theorem dX10_init_145 : decode cX10_init 145 = .ok (.sipush 564, 3) := by decide +kernel
theorem dX10_init_148 : decode cX10_init 148 = .ok (.newarray .int, 2) := by decide +kernel
theorem dX10_init_150 : decode cX10_init 150 = .ok (.putfield 64, 3) := by decide +kernel
theorem dX10_init_153 : decode cX10_init 153 = .ok (.aload_n 0, 1) := by decide +kernel
theorem dX10_init_154 : decode cX10_init 154 = .ok (.bipush 6, 2) := by decide +kernel
theorem dX10_init_156 : decode cX10_init 156 = .ok (.newarray .int, 2) := by decide +kernel
theorem dX10_init_158 : decode cX10_init 158 = .ok (.putfield 67, 3) := by decide +kernel
theorem dX10_init_161 : decode cX10_init 161 = .ok (.aload_n 0, 1) := by decide +kernel
theorem dX10_init_162 : decode cX10_init 162 = .ok (.bipush 6, 2) := by decide +kernel
theorem dX10_init_164 : decode cX10_init 164 = .ok (.newarray .int, 2) := by decide +kernel
theorem dX10_init_166 : decode cX10_init 166 = .ok (.putfield 70, 3) := by decide +kernel
theorem dX10_init_169 : decode cX10_init 169 = .ok (.aload_n 0, 1) := by decide +kernel
theorem dX10_init_170 : decode cX10_init 170 = .ok (.bipush 60, 2) := by decide +kernel
theorem dX10_init_172 : decode cX10_init 172 = .ok (.newarray .int, 2) := by decide +kernel
theorem dX10_init_174 : decode cX10_init 174 = .ok (.putfield 73, 3) := by decide +kernel
theorem dX10_init_177 : decode cX10_init 177 = .ok (.aload_n 0, 1) := by decide +kernel
theorem dX10_init_178 : decode cX10_init 178 = .ok (.bipush 60, 2) := by decide +kernel
theorem dX10_init_180 : decode cX10_init 180 = .ok (.newarray .int, 2) := by decide +kernel
theorem dX10_init_182 : decode cX10_init 182 = .ok (.putfield 76, 3) := by decide +kernel
theorem dX10_init_185 : decode cX10_init 185 = .ok (.aload_n 0, 1) := by decide +kernel
theorem dX10_init_186 : decode cX10_init 186 = .ok (.bipush 20, 2) := by decide +kernel
theorem dX10_init_188 : decode cX10_init 188 = .ok (.newarray .boolean, 2) := by decide +kernel
theorem dX10_init_190 : decode cX10_init 190 = .ok (.putfield 79, 3) := by decide +kernel
theorem dX10_init_193 : decode cX10_init 193 = .ok (.aload_n 0, 1) := by decide +kernel
theorem dX10_init_194 : decode cX10_init 194 = .ok (.bipush 8, 2) := by decide +kernel
theorem dX10_init_196 : decode cX10_init 196 = .ok (.newarray .int, 2) := by decide +kernel
theorem dX10_init_198 : decode cX10_init 198 = .ok (.putfield 82, 3) := by decide +kernel
theorem dX10_init_201 : decode cX10_init 201 = .ok (.aload_n 0, 1) := by decide +kernel
theorem dX10_init_202 : decode cX10_init 202 = .ok (.bipush 8, 2) := by decide +kernel
theorem dX10_init_204 : decode cX10_init 204 = .ok (.newarray .int, 2) := by decide +kernel
theorem dX10_init_206 : decode cX10_init 206 = .ok (.putfield 85, 3) := by decide +kernel
theorem dX10_init_209 : decode cX10_init 209 = .ok (.aload_n 0, 1) := by decide +kernel
theorem dX10_init_210 : decode cX10_init 210 = .ok (.bipush 8, 2) := by decide +kernel
theorem dX10_init_212 : decode cX10_init 212 = .ok (.newarray .int, 2) := by decide +kernel
theorem dX10_init_214 : decode cX10_init 214 = .ok (.putfield 88, 3) := by decide +kernel
theorem dX10_init_217 : decode cX10_init 217 = .ok (.aload_n 0, 1) := by decide +kernel
theorem dX10_init_218 : decode cX10_init 218 = .ok (.bipush 8, 2) := by decide +kernel
theorem dX10_init_220 : decode cX10_init 220 = .ok (.newarray .int, 2) := by decide +kernel
theorem dX10_init_222 : decode cX10_init 222 = .ok (.putfield 91, 3) := by decide +kernel
theorem dX10_init_225 : decode cX10_init 225 = .ok (.aload_n 0, 1) := by decide +kernel
theorem dX10_init_226 : decode cX10_init 226 = .ok (.bipush 8, 2) := by decide +kernel
theorem dX10_init_228 : decode cX10_init 228 = .ok (.newarray .boolean, 2) := by decide +kernel
theorem dX10_init_230 : decode cX10_init 230 = .ok (.putfield 94, 3) := by decide +kernel
theorem dX10_init_233 : decode cX10_init 233 = .ok (.aload_n 0, 1) := by decide +kernel
theorem dX10_init_234 : decode cX10_init 234 = .ok (.bipush 8, 2) := by decide +kernel
theorem dX10_init_236 : decode cX10_init 236 = .ok (.newarray .int, 2) := by decide +kernel
theorem dX10_init_238 : decode cX10_init 238 = .ok (.putfield 97, 3) := by decide +kernel
theorem dX10_init_241 : decode cX10_init 241 = .ok (.aload_n 0, 1) := by decide +kernel
theorem dX10_init_242 : decode cX10_init 242 = .ok (.bipush 64, 2) := by decide +kernel
theorem dX10_init_244 : decode cX10_init 244 = .ok (.newarray .int, 2) := by decide +kernel
theorem dX10_init_246 : decode cX10_init 246 = .ok (.putfield 100, 3) := by decide +kernel
theorem dX10_init_249 : decode cX10_init 249 = .ok (.aload_n 0, 1) := by decide +kernel
theorem dX10_init_250 : decode cX10_init 250 = .ok (.bipush 64, 2) := by decide +kernel
theorem dX10_init_252 : decode cX10_init 252 = .ok (.newarray .int, 2) := by decide +kernel
theorem dX10_init_254 : decode cX10_init 254 = .ok (.putfield 103, 3) := by decide +kernel
theorem dX10_init_257 : decode cX10_init 257 = .ok (.aload_n 0, 1) := by decide +kernel
theorem dX10_init_258 : decode cX10_init 258 = .ok (.bipush 64, 2) := by decide +kernel
theorem dX10_init_260 : decode cX10_init 260 = .ok (.newarray .int, 2) := by decide +kernel
theorem dX10_init_262 : decode cX10_init 262 = .ok (.putfield 106, 3) := by decide +kernel
theorem dX10_init_265 : decode cX10_init 265 = .ok (.aload_n 0, 1) := by decide +kernel
theorem dX10_init_266 : decode cX10_init 266 = .ok (.bipush 64, 2) := by decide +kernel
theorem dX10_init_268 : decode cX10_init 268 = .ok (.newarray .int, 2) := by decide +kernel
theorem dX10_init_270 : decode cX10_init 270 = .ok (.putfield 109, 3) := by decide +kernel
theorem dX10_init_273 : decode cX10_init 273 = .ok (.aload_n 0, 1) := by decide +kernel
theorem dX10_init_274 : decode cX10_init 274 = .ok (.bipush 8, 2) := by decide +kernel
theorem dX10_init_276 : decode cX10_init 276 = .ok (.newarray .int, 2) := by decide +kernel
theorem dX10_init_278 : decode cX10_init 278 = .ok (.putfield 112, 3) := by decide +kernel
theorem dX10_init_281 : decode cX10_init 281 = .ok (.aload_n 0, 1) := by decide +kernel
theorem dX10_init_282 : decode cX10_init 282 = .ok (.bipush 8, 2) := by decide +kernel
theorem dX10_init_284 : decode cX10_init 284 = .ok (.newarray .int, 2) := by decide +kernel
theorem dX10_init_286 : decode cX10_init 286 = .ok (.putfield 115, 3) := by decide +kernel
theorem dX10_init_289 : decode cX10_init 289 = .ok (.aload_n 0, 1) := by decide +kernel
theorem dX10_init_290 : decode cX10_init 290 = .ok (.iload_n 1, 1) := by decide +kernel
theorem dX10_init_291 : decode cX10_init 291 = .ok (.i2l, 1) := by decide +kernel
theorem dX10_init_292 : decode cX10_init 292 = .ok (.putfield 118, 3) := by decide +kernel
theorem dX10_init_295 : decode cX10_init 295 = .ok (.aload_n 0, 1) := by decide +kernel
theorem dX10_init_296 : decode cX10_init 296 = .ok (.iload_n 2, 1) := by decide +kernel
theorem dX10_init_297 : decode cX10_init 297 = .ok (.ifCond .le 13, 3) := by decide +kernel
theorem dX10_init_300 : decode cX10_init 300 = .ok (.iload_n 2, 1) := by decide +kernel
theorem dX10_init_301 : decode cX10_init 301 = .ok (.bipush 11, 2) := by decide +kernel
theorem dX10_init_303 : decode cX10_init 303 = .ok (.if_icmp .ge 7, 3) := by decide +kernel
theorem dX10_init_306 : decode cX10_init 306 = .ok (.iload_n 2, 1) := by decide +kernel
theorem dX10_init_307 : decode cX10_init 307 = .ok (.goto 4, 3) := by decide +kernel
theorem dX10_init_310 : decode cX10_init 310 = .ok (.iconst 4, 1) := by decide +kernel
theorem dX10_init_311 : decode cX10_init 311 = .ok (.putfield 122, 3) := by decide +kernel
theorem dX10_init_314 : decode cX10_init 314 = .ok (.aload_n 0, 1) := by decide +kernel
theorem dX10_init_315 : decode cX10_init 315 = .ok (.iload_n 3, 1) := by decide +kernel
theorem dX10_init_316 : decode cX10_init 316 = .ok (.aload_n 0, 1) := by decide +kernel
theorem dX10_init_317 : decode cX10_init 317 = .ok (.getfield 122, 3) := by decide +kernel
theorem dX10_init_320 : decode cX10_init 320 = .ok (.iconst 2, 1) := by decide +kernel
theorem dX10_init_321 : decode cX10_init 321 = .ok (.idiv, 1) := by decide +kernel
theorem dX10_init_322 : decode cX10_init 322 = .ok (.if_icmp .le 15, 3) := by decide +kernel
theorem dX10_init_325 : decode cX10_init 325 = .ok (.iload_n 3, 1) := by decide +kernel
theorem dX10_init_326 : decode cX10_init 326 = .ok (.aload_n 0, 1) := by decide +kernel
theorem dX10_init_327 : decode cX10_init 327 = .ok (.getfield 122, 3) := by decide +kernel
theorem dX10_init_330 : decode cX10_init 330 = .ok (.if_icmp .gt 7, 3) := by decide +kernel
theorem dX10_init_333 : decode cX10_init 333 = .ok (.iload_n 3, 1) := by decide +kernel
theorem dX10_init_334 : decode cX10_init 334 = .ok (.goto 11, 3) := by decide +kernel
theorem dX10_init_337 : decode cX10_init 337 = .ok (.aload_n 0, 1) := by decide +kernel
theorem dX10_init_338 : decode cX10_init 338 = .ok (.getfield 122, 3) := by decide +kernel
theorem dX10_init_341 : decode cX10_init 341 = .ok (.iconst 2, 1) := by decide +kernel
theorem dX10_init_342 : decode cX10_init 342 = .ok (.idiv, 1) := by decide +kernel
theorem dX10_init_343 : decode cX10_init 343 = .ok (.iconst 1, 1) := by decide +kernel
theorem dX10_init_344 : decode cX10_init 344 = .ok (.iadd, 1) := by decide +kernel
theorem dX10_init_345 : decode cX10_init 345 = .ok (.putfield 125, 3) := by decide +kernel
theorem dX10_init_348 : decode cX10_init 348 = .ok (.aload_n 0, 1) := by decide +kernel
theorem dX10_init_349 : decode cX10_init 349 = .ok (.iload 4, 2) := by decide +kernel
theorem dX10_init_351 : decode cX10_init 351 = .ok (.ifCond .le 15, 3) := by decide +kernel
theorem dX10_init_354 : decode cX10_init 354 = .ok (.iload 4, 2) := by decide +kernel
theorem dX10_init_356 : decode cX10_init 356 = .ok (.bipush 21, 2) := by decide +kernel
theorem dX10_init_358 : decode cX10_init 358 = .ok (.if_icmp .ge 8, 3) := by decide +kernel
theorem dX10_init_361 : decode cX10_init 361 = .ok (.iload 4, 2) := by decide +kernel
theorem dX10_init_363 : decode cX10_init 363 = .ok (.goto 4, 3) := by decide +kernel
theorem dX10_init_366 : decode cX10_init 366 = .ok (.iconst 3, 1) := by decide +kernel
theorem dX10_init_367 : decode cX10_init 367 = .ok (.putfield 128, 3) := by decide +kernel
theorem dX10_init_370 : decode cX10_init 370 = .ok (.aload_n 0, 1) := by decide +kernel
theorem dX10_init_371 : decode cX10_init 371 = .ok (.iload 5, 2) := by decide +kernel
theorem dX10_init_373 : decode cX10_init 373 = .ok (.aload_n 0, 1) := by decide +kernel
theorem dX10_init_374 : decode cX10_init 374 = .ok (.getfield 128, 3) := by decide +kernel
theorem dX10_init_377 : decode cX10_init 377 = .ok (.if_icmp .lt 15, 3) := by decide +kernel
theorem dX10_init_380 : decode cX10_init 380 = .ok (.iload 5, 2) := by decide +kernel
theorem dX10_init_382 : decode cX10_init 382 = .ok (.bipush 41, 2) := by decide +kernel
theorem dX10_init_384 : decode cX10_init 384 = .ok (.if_icmp .ge 8, 3) := by decide +kernel
theorem dX10_init_387 : decode cX10_init 387 = .ok (.iload 5, 2) := by decide +kernel
theorem dX10_init_389 : decode cX10_init 389 = .ok (.goto 9, 3) := by decide +kernel
theorem dX10_init_392 : decode cX10_init 392 = .ok (.aload_n 0, 1) := by decide +kernel
theorem dX10_init_393 : decode cX10_init 393 = .ok (.getfield 128, 3) := by decide +kernel
theorem dX10_init_396 : decode cX10_init 396 = .ok (.iconst 4, 1) := by decide +kernel
theorem dX10_init_397 : decode cX10_init 397 = .ok (.iadd, 1) := by decide +kernel
theorem dX10_init_398 : decode cX10_init 398 = .ok (.putfield 131, 3) := by decide +kernel
theorem dX10_init_401 : decode cX10_init 401 = .ok (.iconst 0, 1) := by decide +kernel
theorem dX10_init_402 : decode cX10_init 402 = .ok (.istore 6, 2) := by decide +kernel
theorem dX10_init_404 : decode cX10_init 404 = .ok (.iload 6, 2) := by decide +kernel
theorem dX10_init_406 : decode cX10_init 406 = .ok (.bipush 20, 2) := by decide +kernel
theorem dX10_init_408 : decode cX10_init 408 = .ok (.if_icmp .ge 17, 3) := by decide +kernel
theorem dX10_init_411 : decode cX10_init 411 = .ok (.aload_n 0, 1) := by decide +kernel
theorem dX10_init_412 : decode cX10_init 412 = .ok (.getfield 7, 3) := by decide +kernel
theorem dX10_init_415 : decode cX10_init 415 = .ok (.iload 6, 2) := by decide +kernel
theorem dX10_init_417 : decode cX10_init 417 = .ok (.iconst 1, 1) := by decide +kernel
theorem dX10_init_418 : decode cX10_init 418 = .ok (.iastore, 1) := by decide +kernel
theorem dX10_init_419 : decode cX10_init 419 = .ok (.iinc 6 1, 3) := by decide +kernel
theorem dX10_init_422 : decode cX10_init 422 = .ok (.goto (-18), 3) := by decide +kernel
theorem dX10_init_425 : decode cX10_init 425 = .ok (.iconst 0, 1) := by decide +kernel
theorem dX10_init_426 : decode cX10_init 426 = .ok (.istore 6, 2) := by decide +kernel
theorem dX10_init_428 : decode cX10_init 428 = .ok (.iload 6, 2) := by decide +kernel
theorem dX10_init_430 : decode cX10_init 430 = .ok (.bipush 6, 2) := by decide +kernel
theorem dX10_init_432 : decode cX10_init 432 = .ok (.if_icmp .ge 17, 3) := by decide +kernel
theorem dX10_init_435 : decode cX10_init 435 = .ok (.aload_n 0, 1) := by decide +kernel
theorem dX10_init_436 : decode cX10_init 436 = .ok (.getfield 67, 3) := by decide +kernel
theorem dX10_init_439 : decode cX10_init 439 = .ok (.iload 6, 2) := by decide +kernel
theorem dX10_init_441 : decode cX10_init 441 = .ok (.iconst (-1), 1) := by decide +kernel
theorem dX10_init_442 : decode cX10_init 442 = .ok (.iastore, 1) := by decide +kernel
theorem dX10_init_443 : decode cX10_init 443 = .ok (.iinc 6 1, 3) := by decide +kernel
theorem dX10_init_446 : decode cX10_init 446 = .ok (.goto (-18), 3) := by decide +kernel
theorem dX10_init_449 : decode cX10_init 449 = .ok (.aload_n 0, 1) := by decide +kernel
theorem dX10_init_450 : decode cX10_init 450 = .ok (.getfield 30, 3) := by decide +kernel
theorem dX10_init_453 : decode cX10_init 453 = .ok (.iconst 0, 1) := by decide +kernel
theorem dX10_init_454 : decode cX10_init 454 = .ok (.iconst 3, 1) := by decide +kernel
theorem dX10_init_455 : decode cX10_init 455 = .ok (.iastore, 1) := by decide +kernel
theorem dX10_init_456 : decode cX10_init 456 = .ok (.iconst 0, 1) := by decide +kernel
theorem dX10_init_457 : decode cX10_init 457 = .ok (.istore 6, 2) := by decide +kernel
theorem dX10_init_459 : decode cX10_init 459 = .ok (.iload 6, 2) := by decide +kernel
theorem dX10_init_461 : decode cX10_init 461 = .ok (.sipush 564, 3) := by decide +kernel
theorem dX10_init_464 : decode cX10_init 464 = .ok (.if_icmp .ge 25, 3) := by decide +kernel
theorem dX10_init_467 : decode cX10_init 467 = .ok (.aload_n 0, 1) := by decide +kernel
theorem dX10_init_468 : decode cX10_init 468 = .ok (.getfield 58, 3) := by decide +kernel
theorem dX10_init_471 : decode cX10_init 471 = .ok (.iload 6, 2) := by decide +kernel
theorem dX10_init_473 : decode cX10_init 473 = .ok (.iconst (-1), 1) := by decide +kernel
theorem dX10_init_474 : decode cX10_init 474 = .ok (.iastore, 1) := by decide +kernel
theorem dX10_init_475 : decode cX10_init 475 = .ok (.aload_n 0, 1) := by decide +kernel
theorem dX10_init_476 : decode cX10_init 476 = .ok (.getfield 61, 3) := by decide +kernel
theorem dX10_init_479 : decode cX10_init 479 = .ok (.iload 6, 2) := by decide +kernel
theorem dX10_init_481 : decode cX10_init 481 = .ok (.iconst (-1), 1) := by decide +kernel
theorem dX10_init_482 : decode cX10_init 482 = .ok (.iastore, 1) := by decide +kernel
theorem dX10_init_483 : decode cX10_init 483 = .ok (.iinc 6 1, 3) := by decide +kernel
theorem dX10_init_486 : decode cX10_init 486 = .ok (.goto (-27), 3) := by decide +kernel
theorem dX10_init_489 : decode cX10_init 489 = .ok (.iconst 2, 1) := by decide +kernel
theorem dX10_init_490 : decode cX10_init 490 = .ok (.istore 6, 2) := by decide +kernel
theorem dX10_init_492 : decode cX10_init 492 = .ok (.iconst 0, 1) := by decide +kernel
theorem dX10_init_493 : decode cX10_init 493 = .ok (.istore 7, 2) := by decide +kernel
theorem dX10_init_495 : decode cX10_init 495 = .ok (.iload 7, 2) := by decide +kernel
theorem dX10_init_497 : decode cX10_init 497 = .ok (.bipush 64, 2) := by decide +kernel
theorem dX10_init_499 : decode cX10_init 499 = .ok (.if_icmp .ge 57, 3) := by decide +kernel
theorem dX10_init_502 : decode cX10_init 502 = .ok (.iload 6, 2) := by decide +kernel
theorem dX10_init_504 : decode cX10_init 504 = .ok (.invokestatic 134, 3) := by decide +kernel
theorem dX10_init_507 : decode cX10_init 507 = .ok (.ifCond .ne 9, 3) := by decide +kernel
theorem dX10_init_510 : decode cX10_init 510 = .ok (.iinc 6 1, 3) := by decide +kernel
theorem dX10_init_513 : decode cX10_init 513 = .ok (.goto (-11), 3) := by decide +kernel
theorem dX10_init_516 : decode cX10_init 516 = .ok (.aload_n 0, 1) := by decide +kernel
theorem dX10_init_517 : decode cX10_init 517 = .ok (.getfield 109, 3) := by decide +kernel
theorem dX10_init_520 : decode cX10_init 520 = .ok (.iload 7, 2) := by decide +kernel
theorem dX10_init_522 : decode cX10_init 522 = .ok (.iload 6, 2) := by decide +kernel
theorem dX10_init_524 : decode cX10_init 524 = .ok (.invokestatic 138, 3) := by decide +kernel
theorem dX10_init_527 : decode cX10_init 527 = .ok (.iastore, 1) := by decide +kernel
theorem dX10_init_528 : decode cX10_init 528 = .ok (.iload 7, 2) := by decide +kernel
theorem dX10_init_530 : decode cX10_init 530 = .ok (.bipush 8, 2) := by decide +kernel
theorem dX10_init_532 : decode cX10_init 532 = .ok (.if_icmp .ge 15, 3) := by decide +kernel
theorem dX10_init_535 : decode cX10_init 535 = .ok (.aload_n 0, 1) := by decide +kernel
theorem dX10_init_536 : decode cX10_init 536 = .ok (.getfield 112, 3) := by decide +kernel
theorem dX10_init_539 : decode cX10_init 539 = .ok (.iload 7, 2) := by decide +kernel
theorem dX10_init_541 : decode cX10_init 541 = .ok (.iload 6, 2) := by decide +kernel
theorem dX10_init_543 : decode cX10_init 543 = .ok (.invokestatic 142, 3) := by decide +kernel
theorem dX10_init_546 : decode cX10_init 546 = .ok (.iastore, 1) := by decide +kernel
theorem dX10_init_547 : decode cX10_init 547 = .ok (.iinc 6 1, 3) := by decide +kernel
theorem dX10_init_550 : decode cX10_init 550 = .ok (.iinc 7 1, 3) := by decide +kernel
theorem dX10_init_553 : decode cX10_init 553 = .ok (.goto (-58), 3) := by decide +kernel
theorem dX10_init_556 : decode cX10_init 556 = .ok (.return_, 1) := by decide +kernel
theorem dX10_thrown_0 : decode cX10_thrown 0 = .ok (.aload_n 0, 1) := by decide +kernel
theorem dX10_thrown_1 : decode cX10_thrown 1 = .ok (.getfield 145, 3) := by decide +kernel
theorem dX10_thrown_4 : decode cX10_thrown 4 = .ok (.ireturn, 1) := by decide +kernel
theorem dX10_isPrime_0 : decode cX10_isPrime 0 = .ok (.iconst 1, 1) := by decide +kernel
theorem dX10_isPrime_1 : decode cX10_isPrime 1 = .ok (.istore_n 1, 1) := by decide +kernel
theorem dX10_isPrime_2 : decode cX10_isPrime 2 = .ok (.iconst 2, 1) := by decide +kernel
theorem dX10_isPrime_3 : decode cX10_isPrime 3 = .ok (.istore_n 2, 1) := by decide +kernel
theorem dX10_isPrime_4 : decode cX10_isPrime 4 = .ok (.iload_n 2, 1) := by decide +kernel
theorem dX10_isPrime_5 : decode cX10_isPrime 5 = .ok (.iload_n 2, 1) := by decide +kernel
theorem dX10_isPrime_6 : decode cX10_isPrime 6 = .ok (.imul, 1) := by decide +kernel
theorem dX10_isPrime_7 : decode cX10_isPrime 7 = .ok (.iload_n 0, 1) := by decide +kernel
theorem dX10_isPrime_8 : decode cX10_isPrime 8 = .ok (.if_icmp .gt 25, 3) := by decide +kernel
theorem dX10_isPrime_11 : decode cX10_isPrime 11 = .ok (.iload_n 1, 1) := by decide +kernel
theorem dX10_isPrime_12 : decode cX10_isPrime 12 = .ok (.ifCond .eq 13, 3) := by decide +kernel
theorem dX10_isPrime_15 : decode cX10_isPrime 15 = .ok (.iload_n 0, 1) := by decide +kernel
theorem dX10_isPrime_16 : decode cX10_isPrime 16 = .ok (.iload_n 2, 1) := by decide +kernel
theorem dX10_isPrime_17 : decode cX10_isPrime 17 = .ok (.irem, 1) := by decide +kernel
theorem dX10_isPrime_18 : decode cX10_isPrime 18 = .ok (.ifCond .eq 7, 3) := by decide +kernel
theorem dX10_isPrime_21 : decode cX10_isPrime 21 = .ok (.iconst 1, 1) := by decide +kernel
theorem dX10_isPrime_22 : decode cX10_isPrime 22 = .ok (.goto 4, 3) := by decide +kernel
theorem dX10_isPrime_25 : decode cX10_isPrime 25 = .ok (.iconst 0, 1) := by decide +kernel
theorem dX10_isPrime_26 : decode cX10_isPrime 26 = .ok (.istore_n 1, 1) := by decide +kernel
theorem dX10_isPrime_27 : decode cX10_isPrime 27 = .ok (.iinc 2 1, 3) := by decide +kernel
theorem dX10_isPrime_30 : decode cX10_isPrime 30 = .ok (.goto (-26), 3) := by decide +kernel
theorem dX10_isPrime_33 : decode cX10_isPrime 33 = .ok (.iload_n 1, 1) := by decide +kernel
theorem dX10_isPrime_34 : decode cX10_isPrime 34 = .ok (.ireturn, 1) := by decide +kernel
theorem dX10_limb_0 : decode cX10_limb 0 = .ok (.lload_n 0, 1) := by decide +kernel
theorem dX10_limb_1 : decode cX10_limb 1 = .ok (.bipush 20, 2) := by decide +kernel
theorem dX10_limb_3 : decode cX10_limb 3 = .ok (.iload_n 2, 1) := by decide +kernel
theorem dX10_limb_4 : decode cX10_limb 4 = .ok (.imul, 1) := by decide +kernel
theorem dX10_limb_5 : decode cX10_limb 5 = .ok (.lshr, 1) := by decide +kernel
theorem dX10_limb_6 : decode cX10_limb 6 = .ok (.ldc2_w 148, 3) := by decide +kernel
theorem dX10_limb_9 : decode cX10_limb 9 = .ok (.land, 1) := by decide +kernel
theorem dX10_limb_10 : decode cX10_limb 10 = .ok (.lreturn, 1) := by decide +kernel
theorem dX10_isRoot_0 : decode cX10_isRoot 0 = .ok (.lload_n 0, 1) := by decide +kernel
theorem dX10_isRoot_1 : decode cX10_isRoot 1 = .ok (.bipush 20, 2) := by decide +kernel
theorem dX10_isRoot_3 : decode cX10_isRoot 3 = .ok (.lshr, 1) := by decide +kernel
theorem dX10_isRoot_4 : decode cX10_isRoot 4 = .ok (.lstore 4, 2) := by decide +kernel
theorem dX10_isRoot_6 : decode cX10_isRoot 6 = .ok (.lload_n 0, 1) := by decide +kernel
theorem dX10_isRoot_7 : decode cX10_isRoot 7 = .ok (.iconst 0, 1) := by decide +kernel
theorem dX10_isRoot_8 : decode cX10_isRoot 8 = .ok (.invokestatic 150, 3) := by decide +kernel
theorem dX10_isRoot_11 : decode cX10_isRoot 11 = .ok (.lstore 6, 2) := by decide +kernel
theorem dX10_isRoot_13 : decode cX10_isRoot 13 = .ok (.ldc2_w 154, 3) := by decide +kernel
theorem dX10_isRoot_16 : decode cX10_isRoot 16 = .ok (.lload 4, 2) := by decide +kernel
theorem dX10_isRoot_18 : decode cX10_isRoot 18 = .ok (.lmul, 1) := by decide +kernel
theorem dX10_isRoot_19 : decode cX10_isRoot 19 = .ok (.lload 6, 2) := by decide +kernel
theorem dX10_isRoot_21 : decode cX10_isRoot 21 = .ok (.lmul, 1) := by decide +kernel
theorem dX10_isRoot_22 : decode cX10_isRoot 22 = .ok (.lstore 8, 2) := by decide +kernel
theorem dX10_isRoot_24 : decode cX10_isRoot 24 = .ok (.lload 8, 2) := by decide +kernel
theorem dX10_isRoot_26 : decode cX10_isRoot 26 = .ok (.iconst 0, 1) := by decide +kernel
theorem dX10_isRoot_27 : decode cX10_isRoot 27 = .ok (.invokestatic 150, 3) := by decide +kernel
theorem dX10_isRoot_30 : decode cX10_isRoot 30 = .ok (.bipush 20, 2) := by decide +kernel
theorem dX10_isRoot_32 : decode cX10_isRoot 32 = .ok (.lshl, 1) := by decide +kernel
theorem dX10_isRoot_33 : decode cX10_isRoot 33 = .ok (.lload 6, 2) := by decide +kernel
theorem dX10_isRoot_35 : decode cX10_isRoot 35 = .ok (.lload 6, 2) := by decide +kernel
theorem dX10_isRoot_37 : decode cX10_isRoot 37 = .ok (.lmul, 1) := by decide +kernel
theorem dX10_isRoot_38 : decode cX10_isRoot 38 = .ok (.ladd, 1) := by decide +kernel
theorem dX10_isRoot_39 : decode cX10_isRoot 39 = .ok (.lstore 10, 2) := by decide +kernel
theorem dX10_isRoot_41 : decode cX10_isRoot 41 = .ok (.lload 4, 2) := by decide +kernel
theorem dX10_isRoot_43 : decode cX10_isRoot 43 = .ok (.lload 4, 2) := by decide +kernel
theorem dX10_isRoot_45 : decode cX10_isRoot 45 = .ok (.lmul, 1) := by decide +kernel
theorem dX10_isRoot_46 : decode cX10_isRoot 46 = .ok (.lload 8, 2) := by decide +kernel
theorem dX10_isRoot_48 : decode cX10_isRoot 48 = .ok (.bipush 20, 2) := by decide +kernel
theorem dX10_isRoot_50 : decode cX10_isRoot 50 = .ok (.lshr, 1) := by decide +kernel
theorem dX10_isRoot_51 : decode cX10_isRoot 51 = .ok (.ladd, 1) := by decide +kernel
theorem dX10_isRoot_52 : decode cX10_isRoot 52 = .ok (.lload 10, 2) := by decide +kernel
theorem dX10_isRoot_54 : decode cX10_isRoot 54 = .ok (.bipush 40, 2) := by decide +kernel
theorem dX10_isRoot_56 : decode cX10_isRoot 56 = .ok (.lshr, 1) := by decide +kernel
theorem dX10_isRoot_57 : decode cX10_isRoot 57 = .ok (.ladd, 1) := by decide +kernel
theorem dX10_isRoot_58 : decode cX10_isRoot 58 = .ok (.lstore 12, 2) := by decide +kernel
theorem dX10_isRoot_60 : decode cX10_isRoot 60 = .ok (.lload 10, 2) := by decide +kernel
theorem dX10_isRoot_62 : decode cX10_isRoot 62 = .ok (.ldc2_w 156, 3) := by decide +kernel
theorem dX10_isRoot_65 : decode cX10_isRoot 65 = .ok (.land, 1) := by decide +kernel
theorem dX10_isRoot_66 : decode cX10_isRoot 66 = .ok (.lstore 10, 2) := by decide +kernel
theorem dX10_isRoot_68 : decode cX10_isRoot 68 = .ok (.lload 12, 2) := by decide +kernel
theorem dX10_isRoot_70 : decode cX10_isRoot 70 = .ok (.lload_n 2, 1) := by decide +kernel
theorem dX10_isRoot_71 : decode cX10_isRoot 71 = .ok (.bipush 24, 2) := by decide +kernel
theorem dX10_isRoot_73 : decode cX10_isRoot 73 = .ok (.lshl, 1) := by decide +kernel
theorem dX10_isRoot_74 : decode cX10_isRoot 74 = .ok (.lcmp, 1) := by decide +kernel
theorem dX10_isRoot_75 : decode cX10_isRoot 75 = .ok (.ifCond .lt 20, 3) := by decide +kernel
theorem dX10_isRoot_78 : decode cX10_isRoot 78 = .ok (.lload 12, 2) := by decide +kernel
theorem dX10_isRoot_80 : decode cX10_isRoot 80 = .ok (.lload_n 2, 1) := by decide +kernel
theorem dX10_isRoot_81 : decode cX10_isRoot 81 = .ok (.bipush 24, 2) := by decide +kernel
theorem dX10_isRoot_83 : decode cX10_isRoot 83 = .ok (.lshl, 1) := by decide +kernel
theorem dX10_isRoot_84 : decode cX10_isRoot 84 = .ok (.lcmp, 1) := by decide +kernel
theorem dX10_isRoot_85 : decode cX10_isRoot 85 = .ok (.ifCond .ne 14, 3) := by decide +kernel
theorem dX10_isRoot_88 : decode cX10_isRoot 88 = .ok (.lload 10, 2) := by decide +kernel
theorem dX10_isRoot_90 : decode cX10_isRoot 90 = .ok (.lconst 0, 1) := by decide +kernel
theorem dX10_isRoot_91 : decode cX10_isRoot 91 = .ok (.lcmp, 1) := by decide +kernel
theorem dX10_isRoot_92 : decode cX10_isRoot 92 = .ok (.ifCond .ne 7, 3) := by decide +kernel
theorem dX10_isRoot_95 : decode cX10_isRoot 95 = .ok (.iconst 1, 1) := by decide +kernel
theorem dX10_isRoot_96 : decode cX10_isRoot 96 = .ok (.goto 4, 3) := by decide +kernel
theorem dX10_isRoot_99 : decode cX10_isRoot 99 = .ok (.iconst 0, 1) := by decide +kernel
theorem dX10_isRoot_100 : decode cX10_isRoot 100 = .ok (.ireturn, 1) := by decide +kernel
theorem dX10_isCubeRoot_0 : decode cX10_isCubeRoot 0 = .ok (.lload_n 0, 1) := by decide +kernel
theorem dX10_isCubeRoot_1 : decode cX10_isCubeRoot 1 = .ok (.bipush 20, 2) := by decide +kernel
theorem dX10_isCubeRoot_3 : decode cX10_isCubeRoot 3 = .ok (.lshr, 1) := by decide +kernel
theorem dX10_isCubeRoot_4 : decode cX10_isCubeRoot 4 = .ok (.lstore 4, 2) := by decide +kernel
theorem dX10_isCubeRoot_6 : decode cX10_isCubeRoot 6 = .ok (.lload_n 0, 1) := by decide +kernel
theorem dX10_isCubeRoot_7 : decode cX10_isCubeRoot 7 = .ok (.iconst 0, 1) := by decide +kernel
theorem dX10_isCubeRoot_8 : decode cX10_isCubeRoot 8 = .ok (.invokestatic 150, 3) := by decide +kernel
theorem dX10_isCubeRoot_11 : decode cX10_isCubeRoot 11 = .ok (.lstore 6, 2) := by decide +kernel
theorem dX10_isCubeRoot_13 : decode cX10_isCubeRoot 13 = .ok (.ldc2_w 154, 3) := by decide +kernel
theorem dX10_isCubeRoot_16 : decode cX10_isCubeRoot 16 = .ok (.lload 4, 2) := by decide +kernel
theorem dX10_isCubeRoot_18 : decode cX10_isCubeRoot 18 = .ok (.lmul, 1) := by decide +kernel
theorem dX10_isCubeRoot_19 : decode cX10_isCubeRoot 19 = .ok (.lload 6, 2) := by decide +kernel
theorem dX10_isCubeRoot_21 : decode cX10_isCubeRoot 21 = .ok (.lmul, 1) := by decide +kernel
theorem dX10_isCubeRoot_22 : decode cX10_isCubeRoot 22 = .ok (.lstore 8, 2) := by decide +kernel
theorem dX10_isCubeRoot_24 : decode cX10_isCubeRoot 24 = .ok (.lload 8, 2) := by decide +kernel
theorem dX10_isCubeRoot_26 : decode cX10_isCubeRoot 26 = .ok (.iconst 0, 1) := by decide +kernel
theorem dX10_isCubeRoot_27 : decode cX10_isCubeRoot 27 = .ok (.invokestatic 150, 3) := by decide +kernel
theorem dX10_isCubeRoot_30 : decode cX10_isCubeRoot 30 = .ok (.bipush 20, 2) := by decide +kernel
theorem dX10_isCubeRoot_32 : decode cX10_isCubeRoot 32 = .ok (.lshl, 1) := by decide +kernel
theorem dX10_isCubeRoot_33 : decode cX10_isCubeRoot 33 = .ok (.lload 6, 2) := by decide +kernel
theorem dX10_isCubeRoot_35 : decode cX10_isCubeRoot 35 = .ok (.lload 6, 2) := by decide +kernel
theorem dX10_isCubeRoot_37 : decode cX10_isCubeRoot 37 = .ok (.lmul, 1) := by decide +kernel
theorem dX10_isCubeRoot_38 : decode cX10_isCubeRoot 38 = .ok (.ladd, 1) := by decide +kernel
theorem dX10_isCubeRoot_39 : decode cX10_isCubeRoot 39 = .ok (.lstore 10, 2) := by decide +kernel
theorem dX10_isCubeRoot_41 : decode cX10_isCubeRoot 41 = .ok (.lload 4, 2) := by decide +kernel
theorem dX10_isCubeRoot_43 : decode cX10_isCubeRoot 43 = .ok (.lload 4, 2) := by decide +kernel
theorem dX10_isCubeRoot_45 : decode cX10_isCubeRoot 45 = .ok (.lmul, 1) := by decide +kernel
theorem dX10_isCubeRoot_46 : decode cX10_isCubeRoot 46 = .ok (.lload 8, 2) := by decide +kernel
theorem dX10_isCubeRoot_48 : decode cX10_isCubeRoot 48 = .ok (.bipush 20, 2) := by decide +kernel
theorem dX10_isCubeRoot_50 : decode cX10_isCubeRoot 50 = .ok (.lshr, 1) := by decide +kernel
theorem dX10_isCubeRoot_51 : decode cX10_isCubeRoot 51 = .ok (.ladd, 1) := by decide +kernel
theorem dX10_isCubeRoot_52 : decode cX10_isCubeRoot 52 = .ok (.lload 10, 2) := by decide +kernel
theorem dX10_isCubeRoot_54 : decode cX10_isCubeRoot 54 = .ok (.bipush 40, 2) := by decide +kernel
theorem dX10_isCubeRoot_56 : decode cX10_isCubeRoot 56 = .ok (.lshr, 1) := by decide +kernel
theorem dX10_isCubeRoot_57 : decode cX10_isCubeRoot 57 = .ok (.ladd, 1) := by decide +kernel
theorem dX10_isCubeRoot_58 : decode cX10_isCubeRoot 58 = .ok (.lstore 12, 2) := by decide +kernel
theorem dX10_isCubeRoot_60 : decode cX10_isCubeRoot 60 = .ok (.lload 10, 2) := by decide +kernel
theorem dX10_isCubeRoot_62 : decode cX10_isCubeRoot 62 = .ok (.iconst 0, 1) := by decide +kernel
theorem dX10_isCubeRoot_63 : decode cX10_isCubeRoot 63 = .ok (.invokestatic 150, 3) := by decide +kernel
theorem dX10_isCubeRoot_66 : decode cX10_isCubeRoot 66 = .ok (.lstore 14, 2) := by decide +kernel
theorem dX10_isCubeRoot_68 : decode cX10_isCubeRoot 68 = .ok (.lload 10, 2) := by decide +kernel
theorem dX10_isCubeRoot_70 : decode cX10_isCubeRoot 70 = .ok (.iconst 1, 1) := by decide +kernel
theorem dX10_isCubeRoot_71 : decode cX10_isCubeRoot 71 = .ok (.invokestatic 150, 3) := by decide +kernel
theorem dX10_isCubeRoot_74 : decode cX10_isCubeRoot 74 = .ok (.lstore 16, 2) := by decide +kernel
theorem dX10_isCubeRoot_76 : decode cX10_isCubeRoot 76 = .ok (.lload 14, 2) := by decide +kernel
theorem dX10_isCubeRoot_78 : decode cX10_isCubeRoot 78 = .ok (.lload 6, 2) := by decide +kernel
theorem dX10_isCubeRoot_80 : decode cX10_isCubeRoot 80 = .ok (.lmul, 1) := by decide +kernel
theorem dX10_isCubeRoot_81 : decode cX10_isCubeRoot 81 = .ok (.lstore 18, 2) := by decide +kernel
theorem dX10_isCubeRoot_83 : decode cX10_isCubeRoot 83 = .ok (.lload 18, 2) := by decide +kernel
theorem dX10_isCubeRoot_85 : decode cX10_isCubeRoot 85 = .ok (.iconst 0, 1) := by decide +kernel
theorem dX10_isCubeRoot_86 : decode cX10_isCubeRoot 86 = .ok (.invokestatic 150, 3) := by decide +kernel
theorem dX10_isCubeRoot_89 : decode cX10_isCubeRoot 89 = .ok (.lstore 20, 2) := by decide +kernel
theorem dX10_isCubeRoot_91 : decode cX10_isCubeRoot 91 = .ok (.lload 18, 2) := by decide +kernel
theorem dX10_isCubeRoot_93 : decode cX10_isCubeRoot 93 = .ok (.bipush 20, 2) := by decide +kernel
theorem dX10_isCubeRoot_95 : decode cX10_isCubeRoot 95 = .ok (.lshr, 1) := by decide +kernel
theorem dX10_isCubeRoot_96 : decode cX10_isCubeRoot 96 = .ok (.lload 14, 2) := by decide +kernel
theorem dX10_isCubeRoot_98 : decode cX10_isCubeRoot 98 = .ok (.lload 4, 2) := by decide +kernel
theorem dX10_isCubeRoot_100 : decode cX10_isCubeRoot 100 = .ok (.lmul, 1) := by decide +kernel
theorem dX10_isCubeRoot_101 : decode cX10_isCubeRoot 101 = .ok (.ladd, 1) := by decide +kernel
theorem dX10_isCubeRoot_102 : decode cX10_isCubeRoot 102 = .ok (.lload 16, 2) := by decide +kernel
theorem dX10_isCubeRoot_104 : decode cX10_isCubeRoot 104 = .ok (.lload 6, 2) := by decide +kernel
theorem dX10_isCubeRoot_106 : decode cX10_isCubeRoot 106 = .ok (.lmul, 1) := by decide +kernel
theorem dX10_isCubeRoot_107 : decode cX10_isCubeRoot 107 = .ok (.ladd, 1) := by decide +kernel
theorem dX10_isCubeRoot_108 : decode cX10_isCubeRoot 108 = .ok (.lstore 18, 2) := by decide +kernel
theorem dX10_isCubeRoot_110 : decode cX10_isCubeRoot 110 = .ok (.lload 20, 2) := by decide +kernel
theorem dX10_isCubeRoot_112 : decode cX10_isCubeRoot 112 = .ok (.lload 18, 2) := by decide +kernel
theorem dX10_isCubeRoot_114 : decode cX10_isCubeRoot 114 = .ok (.iconst 0, 1) := by decide +kernel
theorem dX10_isCubeRoot_115 : decode cX10_isCubeRoot 115 = .ok (.invokestatic 150, 3) := by decide +kernel
theorem dX10_isCubeRoot_118 : decode cX10_isCubeRoot 118 = .ok (.lor, 1) := by decide +kernel
theorem dX10_isCubeRoot_119 : decode cX10_isCubeRoot 119 = .ok (.lstore 20, 2) := by decide +kernel
theorem dX10_isCubeRoot_121 : decode cX10_isCubeRoot 121 = .ok (.lload 18, 2) := by decide +kernel
theorem dX10_isCubeRoot_123 : decode cX10_isCubeRoot 123 = .ok (.bipush 20, 2) := by decide +kernel
theorem dX10_isCubeRoot_125 : decode cX10_isCubeRoot 125 = .ok (.lshr, 1) := by decide +kernel
theorem dX10_isCubeRoot_126 : decode cX10_isCubeRoot 126 = .ok (.lload 16, 2) := by decide +kernel
theorem dX10_isCubeRoot_128 : decode cX10_isCubeRoot 128 = .ok (.lload 4, 2) := by decide +kernel
theorem dX10_isCubeRoot_130 : decode cX10_isCubeRoot 130 = .ok (.lmul, 1) := by decide +kernel
theorem dX10_isCubeRoot_131 : decode cX10_isCubeRoot 131 = .ok (.ladd, 1) := by decide +kernel
theorem dX10_isCubeRoot_132 : decode cX10_isCubeRoot 132 = .ok (.lload 12, 2) := by decide +kernel
theorem dX10_isCubeRoot_134 : decode cX10_isCubeRoot 134 = .ok (.iconst 0, 1) := by decide +kernel
theorem dX10_isCubeRoot_135 : decode cX10_isCubeRoot 135 = .ok (.invokestatic 150, 3) := by decide +kernel
theorem dX10_isCubeRoot_138 : decode cX10_isCubeRoot 138 = .ok (.lload 6, 2) := by decide +kernel
theorem dX10_isCubeRoot_140 : decode cX10_isCubeRoot 140 = .ok (.lmul, 1) := by decide +kernel
theorem dX10_isCubeRoot_141 : decode cX10_isCubeRoot 141 = .ok (.ladd, 1) := by decide +kernel
theorem dX10_isCubeRoot_142 : decode cX10_isCubeRoot 142 = .ok (.lstore 18, 2) := by decide +kernel
theorem dX10_isCubeRoot_144 : decode cX10_isCubeRoot 144 = .ok (.lload 20, 2) := by decide +kernel
theorem dX10_isCubeRoot_146 : decode cX10_isCubeRoot 146 = .ok (.lload 18, 2) := by decide +kernel
theorem dX10_isCubeRoot_148 : decode cX10_isCubeRoot 148 = .ok (.iconst 0, 1) := by decide +kernel
theorem dX10_isCubeRoot_149 : decode cX10_isCubeRoot 149 = .ok (.invokestatic 150, 3) := by decide +kernel
theorem dX10_isCubeRoot_152 : decode cX10_isCubeRoot 152 = .ok (.lor, 1) := by decide +kernel
theorem dX10_isCubeRoot_153 : decode cX10_isCubeRoot 153 = .ok (.lstore 20, 2) := by decide +kernel
theorem dX10_isCubeRoot_155 : decode cX10_isCubeRoot 155 = .ok (.lload 18, 2) := by decide +kernel
theorem dX10_isCubeRoot_157 : decode cX10_isCubeRoot 157 = .ok (.bipush 20, 2) := by decide +kernel
theorem dX10_isCubeRoot_159 : decode cX10_isCubeRoot 159 = .ok (.lshr, 1) := by decide +kernel
theorem dX10_isCubeRoot_160 : decode cX10_isCubeRoot 160 = .ok (.lload 12, 2) := by decide +kernel
theorem dX10_isCubeRoot_162 : decode cX10_isCubeRoot 162 = .ok (.iconst 0, 1) := by decide +kernel
theorem dX10_isCubeRoot_163 : decode cX10_isCubeRoot 163 = .ok (.invokestatic 150, 3) := by decide +kernel
theorem dX10_isCubeRoot_166 : decode cX10_isCubeRoot 166 = .ok (.lload 4, 2) := by decide +kernel
theorem dX10_isCubeRoot_168 : decode cX10_isCubeRoot 168 = .ok (.lmul, 1) := by decide +kernel
theorem dX10_isCubeRoot_169 : decode cX10_isCubeRoot 169 = .ok (.ladd, 1) := by decide +kernel
theorem dX10_isCubeRoot_170 : decode cX10_isCubeRoot 170 = .ok (.lload 12, 2) := by decide +kernel
theorem dX10_isCubeRoot_172 : decode cX10_isCubeRoot 172 = .ok (.bipush 20, 2) := by decide +kernel
theorem dX10_isCubeRoot_174 : decode cX10_isCubeRoot 174 = .ok (.lshr, 1) := by decide +kernel
theorem dX10_isCubeRoot_175 : decode cX10_isCubeRoot 175 = .ok (.lload 6, 2) := by decide +kernel
theorem dX10_isCubeRoot_177 : decode cX10_isCubeRoot 177 = .ok (.lmul, 1) := by decide +kernel
theorem dX10_isCubeRoot_178 : decode cX10_isCubeRoot 178 = .ok (.ladd, 1) := by decide +kernel
theorem dX10_isCubeRoot_179 : decode cX10_isCubeRoot 179 = .ok (.lstore 18, 2) := by decide +kernel
theorem dX10_isCubeRoot_181 : decode cX10_isCubeRoot 181 = .ok (.lload 20, 2) := by decide +kernel
theorem dX10_isCubeRoot_183 : decode cX10_isCubeRoot 183 = .ok (.lload 18, 2) := by decide +kernel
theorem dX10_isCubeRoot_185 : decode cX10_isCubeRoot 185 = .ok (.iconst 0, 1) := by decide +kernel
theorem dX10_isCubeRoot_186 : decode cX10_isCubeRoot 186 = .ok (.invokestatic 150, 3) := by decide +kernel
theorem dX10_isCubeRoot_189 : decode cX10_isCubeRoot 189 = .ok (.lor, 1) := by decide +kernel
theorem dX10_isCubeRoot_190 : decode cX10_isCubeRoot 190 = .ok (.lstore 20, 2) := by decide +kernel
theorem dX10_isCubeRoot_192 : decode cX10_isCubeRoot 192 = .ok (.lload 18, 2) := by decide +kernel
theorem dX10_isCubeRoot_194 : decode cX10_isCubeRoot 194 = .ok (.bipush 20, 2) := by decide +kernel
theorem dX10_isCubeRoot_196 : decode cX10_isCubeRoot 196 = .ok (.lshr, 1) := by decide +kernel
theorem dX10_isCubeRoot_197 : decode cX10_isCubeRoot 197 = .ok (.lload 12, 2) := by decide +kernel
theorem dX10_isCubeRoot_199 : decode cX10_isCubeRoot 199 = .ok (.bipush 20, 2) := by decide +kernel
theorem dX10_isCubeRoot_201 : decode cX10_isCubeRoot 201 = .ok (.lshr, 1) := by decide +kernel
theorem dX10_isCubeRoot_202 : decode cX10_isCubeRoot 202 = .ok (.lload 4, 2) := by decide +kernel
theorem dX10_isCubeRoot_204 : decode cX10_isCubeRoot 204 = .ok (.lmul, 1) := by decide +kernel
theorem dX10_isCubeRoot_205 : decode cX10_isCubeRoot 205 = .ok (.ladd, 1) := by decide +kernel
theorem dX10_isCubeRoot_206 : decode cX10_isCubeRoot 206 = .ok (.lstore 18, 2) := by decide +kernel
theorem dX10_isCubeRoot_208 : decode cX10_isCubeRoot 208 = .ok (.lload 18, 2) := by decide +kernel
theorem dX10_isCubeRoot_210 : decode cX10_isCubeRoot 210 = .ok (.lload_n 2, 1) := by decide +kernel
theorem dX10_isCubeRoot_211 : decode cX10_isCubeRoot 211 = .ok (.bipush 16, 2) := by decide +kernel
theorem dX10_isCubeRoot_213 : decode cX10_isCubeRoot 213 = .ok (.lshl, 1) := by decide +kernel
theorem dX10_isCubeRoot_214 : decode cX10_isCubeRoot 214 = .ok (.lcmp, 1) := by decide +kernel
theorem dX10_isCubeRoot_215 : decode cX10_isCubeRoot 215 = .ok (.ifCond .lt 20, 3) := by decide +kernel
theorem dX10_isCubeRoot_218 : decode cX10_isCubeRoot 218 = .ok (.lload 18, 2) := by decide +kernel
theorem dX10_isCubeRoot_220 : decode cX10_isCubeRoot 220 = .ok (.lload_n 2, 1) := by decide +kernel
theorem dX10_isCubeRoot_221 : decode cX10_isCubeRoot 221 = .ok (.bipush 16, 2) := by decide +kernel
theorem dX10_isCubeRoot_223 : decode cX10_isCubeRoot 223 = .ok (.lshl, 1) := by decide +kernel
theorem dX10_isCubeRoot_224 : decode cX10_isCubeRoot 224 = .ok (.lcmp, 1) := by decide +kernel
theorem dX10_isCubeRoot_225 : decode cX10_isCubeRoot 225 = .ok (.ifCond .ne 14, 3) := by decide +kernel
theorem dX10_isCubeRoot_228 : decode cX10_isCubeRoot 228 = .ok (.lload 20, 2) := by decide +kernel
theorem dX10_isCubeRoot_230 : decode cX10_isCubeRoot 230 = .ok (.lconst 0, 1) := by decide +kernel
theorem dX10_isCubeRoot_231 : decode cX10_isCubeRoot 231 = .ok (.lcmp, 1) := by decide +kernel
theorem dX10_isCubeRoot_232 : decode cX10_isCubeRoot 232 = .ok (.ifCond .ne 7, 3) := by decide +kernel
theorem dX10_isCubeRoot_235 : decode cX10_isCubeRoot 235 = .ok (.iconst 1, 1) := by decide +kernel
theorem dX10_isCubeRoot_236 : decode cX10_isCubeRoot 236 = .ok (.goto 4, 3) := by decide +kernel
theorem dX10_isCubeRoot_239 : decode cX10_isCubeRoot 239 = .ok (.iconst 0, 1) := by decide +kernel
theorem dX10_isCubeRoot_240 : decode cX10_isCubeRoot 240 = .ok (.ireturn, 1) := by decide +kernel
theorem dX10_squareRoot_0 : decode cX10_squareRoot 0 = .ok (.lconst 0, 1) := by decide +kernel
theorem dX10_squareRoot_1 : decode cX10_squareRoot 1 = .ok (.lstore_n 1, 1) := by decide +kernel
theorem dX10_squareRoot_2 : decode cX10_squareRoot 2 = .ok (.bipush 34, 2) := by decide +kernel
theorem dX10_squareRoot_4 : decode cX10_squareRoot 4 = .ok (.istore_n 3, 1) := by decide +kernel
theorem dX10_squareRoot_5 : decode cX10_squareRoot 5 = .ok (.iload_n 3, 1) := by decide +kernel
theorem dX10_squareRoot_6 : decode cX10_squareRoot 6 = .ok (.ifCond .lt 32, 3) := by decide +kernel
theorem dX10_squareRoot_9 : decode cX10_squareRoot 9 = .ok (.lload_n 1, 1) := by decide +kernel
theorem dX10_squareRoot_10 : decode cX10_squareRoot 10 = .ok (.lconst 1, 1) := by decide +kernel
theorem dX10_squareRoot_11 : decode cX10_squareRoot 11 = .ok (.iload_n 3, 1) := by decide +kernel
theorem dX10_squareRoot_12 : decode cX10_squareRoot 12 = .ok (.lshl, 1) := by decide +kernel
theorem dX10_squareRoot_13 : decode cX10_squareRoot 13 = .ok (.lor, 1) := by decide +kernel
theorem dX10_squareRoot_14 : decode cX10_squareRoot 14 = .ok (.iload_n 0, 1) := by decide +kernel
theorem dX10_squareRoot_15 : decode cX10_squareRoot 15 = .ok (.i2l, 1) := by decide +kernel
theorem dX10_squareRoot_16 : decode cX10_squareRoot 16 = .ok (.invokestatic 158, 3) := by decide +kernel
theorem dX10_squareRoot_19 : decode cX10_squareRoot 19 = .ok (.ifCond .eq 11, 3) := by decide +kernel
theorem dX10_squareRoot_22 : decode cX10_squareRoot 22 = .ok (.lload_n 1, 1) := by decide +kernel
theorem dX10_squareRoot_23 : decode cX10_squareRoot 23 = .ok (.lconst 1, 1) := by decide +kernel
theorem dX10_squareRoot_24 : decode cX10_squareRoot 24 = .ok (.iload_n 3, 1) := by decide +kernel
theorem dX10_squareRoot_25 : decode cX10_squareRoot 25 = .ok (.lshl, 1) := by decide +kernel
theorem dX10_squareRoot_26 : decode cX10_squareRoot 26 = .ok (.lor, 1) := by decide +kernel
theorem dX10_squareRoot_27 : decode cX10_squareRoot 27 = .ok (.goto 4, 3) := by decide +kernel
theorem dX10_squareRoot_30 : decode cX10_squareRoot 30 = .ok (.lload_n 1, 1) := by decide +kernel
theorem dX10_squareRoot_31 : decode cX10_squareRoot 31 = .ok (.lstore_n 1, 1) := by decide +kernel
theorem dX10_squareRoot_32 : decode cX10_squareRoot 32 = .ok (.iinc 3 (-1), 3) := by decide +kernel
theorem dX10_squareRoot_35 : decode cX10_squareRoot 35 = .ok (.goto (-30), 3) := by decide +kernel
theorem dX10_squareRoot_38 : decode cX10_squareRoot 38 = .ok (.lload_n 1, 1) := by decide +kernel
theorem dX10_squareRoot_39 : decode cX10_squareRoot 39 = .ok (.l2i, 1) := by decide +kernel
theorem dX10_squareRoot_40 : decode cX10_squareRoot 40 = .ok (.ireturn, 1) := by decide +kernel
theorem dX10_cubeRoot_0 : decode cX10_cubeRoot 0 = .ok (.lconst 0, 1) := by decide +kernel
theorem dX10_cubeRoot_1 : decode cX10_cubeRoot 1 = .ok (.lstore_n 1, 1) := by decide +kernel
theorem dX10_cubeRoot_2 : decode cX10_cubeRoot 2 = .ok (.bipush 34, 2) := by decide +kernel
theorem dX10_cubeRoot_4 : decode cX10_cubeRoot 4 = .ok (.istore_n 3, 1) := by decide +kernel
theorem dX10_cubeRoot_5 : decode cX10_cubeRoot 5 = .ok (.iload_n 3, 1) := by decide +kernel
theorem dX10_cubeRoot_6 : decode cX10_cubeRoot 6 = .ok (.ifCond .lt 32, 3) := by decide +kernel
theorem dX10_cubeRoot_9 : decode cX10_cubeRoot 9 = .ok (.lload_n 1, 1) := by decide +kernel
theorem dX10_cubeRoot_10 : decode cX10_cubeRoot 10 = .ok (.lconst 1, 1) := by decide +kernel
theorem dX10_cubeRoot_11 : decode cX10_cubeRoot 11 = .ok (.iload_n 3, 1) := by decide +kernel
theorem dX10_cubeRoot_12 : decode cX10_cubeRoot 12 = .ok (.lshl, 1) := by decide +kernel
theorem dX10_cubeRoot_13 : decode cX10_cubeRoot 13 = .ok (.lor, 1) := by decide +kernel
theorem dX10_cubeRoot_14 : decode cX10_cubeRoot 14 = .ok (.iload_n 0, 1) := by decide +kernel
theorem dX10_cubeRoot_15 : decode cX10_cubeRoot 15 = .ok (.i2l, 1) := by decide +kernel
theorem dX10_cubeRoot_16 : decode cX10_cubeRoot 16 = .ok (.invokestatic 162, 3) := by decide +kernel
theorem dX10_cubeRoot_19 : decode cX10_cubeRoot 19 = .ok (.ifCond .eq 11, 3) := by decide +kernel
theorem dX10_cubeRoot_22 : decode cX10_cubeRoot 22 = .ok (.lload_n 1, 1) := by decide +kernel
theorem dX10_cubeRoot_23 : decode cX10_cubeRoot 23 = .ok (.lconst 1, 1) := by decide +kernel
theorem dX10_cubeRoot_24 : decode cX10_cubeRoot 24 = .ok (.iload_n 3, 1) := by decide +kernel
theorem dX10_cubeRoot_25 : decode cX10_cubeRoot 25 = .ok (.lshl, 1) := by decide +kernel
theorem dX10_cubeRoot_26 : decode cX10_cubeRoot 26 = .ok (.lor, 1) := by decide +kernel
theorem dX10_cubeRoot_27 : decode cX10_cubeRoot 27 = .ok (.goto 4, 3) := by decide +kernel
theorem dX10_cubeRoot_30 : decode cX10_cubeRoot 30 = .ok (.lload_n 1, 1) := by decide +kernel
theorem dX10_cubeRoot_31 : decode cX10_cubeRoot 31 = .ok (.lstore_n 1, 1) := by decide +kernel
theorem dX10_cubeRoot_32 : decode cX10_cubeRoot 32 = .ok (.iinc 3 (-1), 3) := by decide +kernel
theorem dX10_cubeRoot_35 : decode cX10_cubeRoot 35 = .ok (.goto (-30), 3) := by decide +kernel
theorem dX10_cubeRoot_38 : decode cX10_cubeRoot 38 = .ok (.lload_n 1, 1) := by decide +kernel
theorem dX10_cubeRoot_39 : decode cX10_cubeRoot 39 = .ok (.l2i, 1) := by decide +kernel
theorem dX10_cubeRoot_40 : decode cX10_cubeRoot 40 = .ok (.ireturn, 1) := by decide +kernel
theorem dX10_turned_0 : decode cX10_turned 0 = .ok (.iload_n 0, 1) := by decide +kernel
theorem dX10_turned_1 : decode cX10_turned 1 = .ok (.iload_n 1, 1) := by decide +kernel
theorem dX10_turned_2 : decode cX10_turned 2 = .ok (.iushr, 1) := by decide +kernel
theorem dX10_turned_3 : decode cX10_turned 3 = .ok (.iload_n 0, 1) := by decide +kernel
theorem dX10_turned_4 : decode cX10_turned 4 = .ok (.bipush 32, 2) := by decide +kernel
theorem dX10_turned_6 : decode cX10_turned 6 = .ok (.iload_n 1, 1) := by decide +kernel
theorem dX10_turned_7 : decode cX10_turned 7 = .ok (.isub, 1) := by decide +kernel
theorem dX10_turned_8 : decode cX10_turned 8 = .ok (.ishl, 1) := by decide +kernel
theorem dX10_turned_9 : decode cX10_turned 9 = .ok (.ior, 1) := by decide +kernel
theorem dX10_turned_10 : decode cX10_turned 10 = .ok (.ireturn, 1) := by decide +kernel
theorem dX10_hashOf_0 : decode cX10_hashOf 0 = .ok (.iconst 0, 1) := by decide +kernel
theorem dX10_hashOf_1 : decode cX10_hashOf 1 = .ok (.istore_n 2, 1) := by decide +kernel
theorem dX10_hashOf_2 : decode cX10_hashOf 2 = .ok (.iload_n 2, 1) := by decide +kernel
theorem dX10_hashOf_3 : decode cX10_hashOf 3 = .ok (.bipush 16, 2) := by decide +kernel
theorem dX10_hashOf_5 : decode cX10_hashOf 5 = .ok (.if_icmp .ge 16, 3) := by decide +kernel
theorem dX10_hashOf_8 : decode cX10_hashOf 8 = .ok (.aload_n 0, 1) := by decide +kernel
theorem dX10_hashOf_9 : decode cX10_hashOf 9 = .ok (.getfield 106, 3) := by decide +kernel
theorem dX10_hashOf_12 : decode cX10_hashOf 12 = .ok (.iload_n 2, 1) := by decide +kernel
theorem dX10_hashOf_13 : decode cX10_hashOf 13 = .ok (.iconst 0, 1) := by decide +kernel
theorem dX10_hashOf_14 : decode cX10_hashOf 14 = .ok (.iastore, 1) := by decide +kernel
theorem dX10_hashOf_15 : decode cX10_hashOf 15 = .ok (.iinc 2 1, 3) := by decide +kernel
theorem dX10_hashOf_18 : decode cX10_hashOf 18 = .ok (.goto (-16), 3) := by decide +kernel
theorem dX10_hashOf_21 : decode cX10_hashOf 21 = .ok (.iconst 0, 1) := by decide +kernel
theorem dX10_hashOf_22 : decode cX10_hashOf 22 = .ok (.istore_n 2, 1) := by decide +kernel
theorem dX10_hashOf_23 : decode cX10_hashOf 23 = .ok (.iload_n 2, 1) := by decide +kernel
theorem dX10_hashOf_24 : decode cX10_hashOf 24 = .ok (.iload_n 1, 1) := by decide +kernel
theorem dX10_hashOf_25 : decode cX10_hashOf 25 = .ok (.if_icmp .ge 36, 3) := by decide +kernel
theorem dX10_hashOf_28 : decode cX10_hashOf 28 = .ok (.aload_n 0, 1) := by decide +kernel
theorem dX10_hashOf_29 : decode cX10_hashOf 29 = .ok (.getfield 106, 3) := by decide +kernel
theorem dX10_hashOf_32 : decode cX10_hashOf 32 = .ok (.iload_n 2, 1) := by decide +kernel
theorem dX10_hashOf_33 : decode cX10_hashOf 33 = .ok (.iconst 4, 1) := by decide +kernel
theorem dX10_hashOf_34 : decode cX10_hashOf 34 = .ok (.idiv, 1) := by decide +kernel
theorem dX10_hashOf_35 : decode cX10_hashOf 35 = .ok (.dup2, 1) := by decide +kernel
theorem dX10_hashOf_36 : decode cX10_hashOf 36 = .ok (.iaload, 1) := by decide +kernel
theorem dX10_hashOf_37 : decode cX10_hashOf 37 = .ok (.aload_n 0, 1) := by decide +kernel
theorem dX10_hashOf_38 : decode cX10_hashOf 38 = .ok (.getfield 13, 3) := by decide +kernel
theorem dX10_hashOf_41 : decode cX10_hashOf 41 = .ok (.iload_n 2, 1) := by decide +kernel
theorem dX10_hashOf_42 : decode cX10_hashOf 42 = .ok (.iaload, 1) := by decide +kernel
theorem dX10_hashOf_43 : decode cX10_hashOf 43 = .ok (.bipush 24, 2) := by decide +kernel
theorem dX10_hashOf_45 : decode cX10_hashOf 45 = .ok (.bipush 8, 2) := by decide +kernel
theorem dX10_hashOf_47 : decode cX10_hashOf 47 = .ok (.iload_n 2, 1) := by decide +kernel
theorem dX10_hashOf_48 : decode cX10_hashOf 48 = .ok (.iconst 4, 1) := by decide +kernel
theorem dX10_hashOf_49 : decode cX10_hashOf 49 = .ok (.irem, 1) := by decide +kernel
theorem dX10_hashOf_50 : decode cX10_hashOf 50 = .ok (.imul, 1) := by decide +kernel
theorem dX10_hashOf_51 : decode cX10_hashOf 51 = .ok (.isub, 1) := by decide +kernel
theorem dX10_hashOf_52 : decode cX10_hashOf 52 = .ok (.ishl, 1) := by decide +kernel
theorem dX10_hashOf_53 : decode cX10_hashOf 53 = .ok (.ior, 1) := by decide +kernel
theorem dX10_hashOf_54 : decode cX10_hashOf 54 = .ok (.iastore, 1) := by decide +kernel
theorem dX10_hashOf_55 : decode cX10_hashOf 55 = .ok (.iinc 2 1, 3) := by decide +kernel
theorem dX10_hashOf_58 : decode cX10_hashOf 58 = .ok (.goto (-35), 3) := by decide +kernel
theorem dX10_hashOf_61 : decode cX10_hashOf 61 = .ok (.aload_n 0, 1) := by decide +kernel
theorem dX10_hashOf_62 : decode cX10_hashOf 62 = .ok (.getfield 106, 3) := by decide +kernel
theorem dX10_hashOf_65 : decode cX10_hashOf 65 = .ok (.iload_n 1, 1) := by decide +kernel
theorem dX10_hashOf_66 : decode cX10_hashOf 66 = .ok (.iconst 4, 1) := by decide +kernel
theorem dX10_hashOf_67 : decode cX10_hashOf 67 = .ok (.idiv, 1) := by decide +kernel
theorem dX10_hashOf_68 : decode cX10_hashOf 68 = .ok (.dup2, 1) := by decide +kernel
theorem dX10_hashOf_69 : decode cX10_hashOf 69 = .ok (.iaload, 1) := by decide +kernel
theorem dX10_hashOf_70 : decode cX10_hashOf 70 = .ok (.sipush 128, 3) := by decide +kernel
theorem dX10_hashOf_73 : decode cX10_hashOf 73 = .ok (.bipush 24, 2) := by decide +kernel
theorem dX10_hashOf_75 : decode cX10_hashOf 75 = .ok (.bipush 8, 2) := by decide +kernel
theorem dX10_hashOf_77 : decode cX10_hashOf 77 = .ok (.iload_n 1, 1) := by decide +kernel
theorem dX10_hashOf_78 : decode cX10_hashOf 78 = .ok (.iconst 4, 1) := by decide +kernel
theorem dX10_hashOf_79 : decode cX10_hashOf 79 = .ok (.irem, 1) := by decide +kernel
theorem dX10_hashOf_80 : decode cX10_hashOf 80 = .ok (.imul, 1) := by decide +kernel
theorem dX10_hashOf_81 : decode cX10_hashOf 81 = .ok (.isub, 1) := by decide +kernel
theorem dX10_hashOf_82 : decode cX10_hashOf 82 = .ok (.ishl, 1) := by decide +kernel
theorem dX10_hashOf_83 : decode cX10_hashOf 83 = .ok (.ior, 1) := by decide +kernel
theorem dX10_hashOf_84 : decode cX10_hashOf 84 = .ok (.iastore, 1) := by decide +kernel
theorem dX10_hashOf_85 : decode cX10_hashOf 85 = .ok (.aload_n 0, 1) := by decide +kernel
theorem dX10_hashOf_86 : decode cX10_hashOf 86 = .ok (.getfield 106, 3) := by decide +kernel
theorem dX10_hashOf_89 : decode cX10_hashOf 89 = .ok (.bipush 15, 2) := by decide +kernel
theorem dX10_hashOf_91 : decode cX10_hashOf 91 = .ok (.bipush 8, 2) := by decide +kernel
theorem dX10_hashOf_93 : decode cX10_hashOf 93 = .ok (.iload_n 1, 1) := by decide +kernel
theorem dX10_hashOf_94 : decode cX10_hashOf 94 = .ok (.imul, 1) := by decide +kernel
theorem dX10_hashOf_95 : decode cX10_hashOf 95 = .ok (.iastore, 1) := by decide +kernel
theorem dX10_hashOf_96 : decode cX10_hashOf 96 = .ok (.bipush 16, 2) := by decide +kernel
theorem dX10_hashOf_98 : decode cX10_hashOf 98 = .ok (.istore_n 2, 1) := by decide +kernel
theorem dX10_hashOf_99 : decode cX10_hashOf 99 = .ok (.iload_n 2, 1) := by decide +kernel
theorem dX10_hashOf_100 : decode cX10_hashOf 100 = .ok (.bipush 64, 2) := by decide +kernel
theorem dX10_hashOf_102 : decode cX10_hashOf 102 = .ok (.if_icmp .ge 102, 3) := by decide +kernel
theorem dX10_hashOf_105 : decode cX10_hashOf 105 = .ok (.aload_n 0, 1) := by decide +kernel
theorem dX10_hashOf_106 : decode cX10_hashOf 106 = .ok (.getfield 106, 3) := by decide +kernel
theorem dX10_hashOf_109 : decode cX10_hashOf 109 = .ok (.iload_n 2, 1) := by decide +kernel
theorem dX10_hashOf_110 : decode cX10_hashOf 110 = .ok (.bipush 15, 2) := by decide +kernel
theorem dX10_hashOf_112 : decode cX10_hashOf 112 = .ok (.isub, 1) := by decide +kernel
theorem dX10_hashOf_113 : decode cX10_hashOf 113 = .ok (.iaload, 1) := by decide +kernel
theorem dX10_hashOf_114 : decode cX10_hashOf 114 = .ok (.istore_n 3, 1) := by decide +kernel
theorem dX10_hashOf_115 : decode cX10_hashOf 115 = .ok (.aload_n 0, 1) := by decide +kernel
theorem dX10_hashOf_116 : decode cX10_hashOf 116 = .ok (.getfield 106, 3) := by decide +kernel
theorem dX10_hashOf_119 : decode cX10_hashOf 119 = .ok (.iload_n 2, 1) := by decide +kernel
theorem dX10_hashOf_120 : decode cX10_hashOf 120 = .ok (.iconst 2, 1) := by decide +kernel
theorem dX10_hashOf_121 : decode cX10_hashOf 121 = .ok (.isub, 1) := by decide +kernel
theorem dX10_hashOf_122 : decode cX10_hashOf 122 = .ok (.iaload, 1) := by decide +kernel
theorem dX10_hashOf_123 : decode cX10_hashOf 123 = .ok (.istore 4, 2) := by decide +kernel
theorem dX10_hashOf_125 : decode cX10_hashOf 125 = .ok (.iload_n 3, 1) := by decide +kernel
theorem dX10_hashOf_126 : decode cX10_hashOf 126 = .ok (.bipush 7, 2) := by decide +kernel
theorem dX10_hashOf_128 : decode cX10_hashOf 128 = .ok (.invokestatic 165, 3) := by decide +kernel
theorem dX10_hashOf_131 : decode cX10_hashOf 131 = .ok (.iload_n 3, 1) := by decide +kernel
theorem dX10_hashOf_132 : decode cX10_hashOf 132 = .ok (.bipush 18, 2) := by decide +kernel
theorem dX10_hashOf_134 : decode cX10_hashOf 134 = .ok (.invokestatic 165, 3) := by decide +kernel
theorem dX10_hashOf_137 : decode cX10_hashOf 137 = .ok (.ixor, 1) := by decide +kernel
theorem dX10_hashOf_138 : decode cX10_hashOf 138 = .ok (.iload_n 3, 1) := by decide +kernel
theorem dX10_hashOf_139 : decode cX10_hashOf 139 = .ok (.iconst 3, 1) := by decide +kernel
theorem dX10_hashOf_140 : decode cX10_hashOf 140 = .ok (.iushr, 1) := by decide +kernel
theorem dX10_hashOf_141 : decode cX10_hashOf 141 = .ok (.ixor, 1) := by decide +kernel
theorem dX10_hashOf_142 : decode cX10_hashOf 142 = .ok (.istore 5, 2) := by decide +kernel
theorem dX10_hashOf_144 : decode cX10_hashOf 144 = .ok (.iload 4, 2) := by decide +kernel
theorem dX10_hashOf_146 : decode cX10_hashOf 146 = .ok (.bipush 17, 2) := by decide +kernel
theorem dX10_hashOf_148 : decode cX10_hashOf 148 = .ok (.invokestatic 165, 3) := by decide +kernel
theorem dX10_hashOf_151 : decode cX10_hashOf 151 = .ok (.iload 4, 2) := by decide +kernel
theorem dX10_hashOf_153 : decode cX10_hashOf 153 = .ok (.bipush 19, 2) := by decide +kernel
theorem dX10_hashOf_155 : decode cX10_hashOf 155 = .ok (.invokestatic 165, 3) := by decide +kernel
theorem dX10_hashOf_158 : decode cX10_hashOf 158 = .ok (.ixor, 1) := by decide +kernel
theorem dX10_hashOf_159 : decode cX10_hashOf 159 = .ok (.iload 4, 2) := by decide +kernel
theorem dX10_hashOf_161 : decode cX10_hashOf 161 = .ok (.bipush 10, 2) := by decide +kernel
theorem dX10_hashOf_163 : decode cX10_hashOf 163 = .ok (.iushr, 1) := by decide +kernel
theorem dX10_hashOf_164 : decode cX10_hashOf 164 = .ok (.ixor, 1) := by decide +kernel
theorem dX10_hashOf_165 : decode cX10_hashOf 165 = .ok (.istore 6, 2) := by decide +kernel
theorem dX10_hashOf_167 : decode cX10_hashOf 167 = .ok (.aload_n 0, 1) := by decide +kernel
theorem dX10_hashOf_168 : decode cX10_hashOf 168 = .ok (.getfield 106, 3) := by decide +kernel
theorem dX10_hashOf_171 : decode cX10_hashOf 171 = .ok (.iload_n 2, 1) := by decide +kernel
theorem dX10_hashOf_172 : decode cX10_hashOf 172 = .ok (.aload_n 0, 1) := by decide +kernel
theorem dX10_hashOf_173 : decode cX10_hashOf 173 = .ok (.getfield 106, 3) := by decide +kernel
theorem dX10_hashOf_176 : decode cX10_hashOf 176 = .ok (.iload_n 2, 1) := by decide +kernel
theorem dX10_hashOf_177 : decode cX10_hashOf 177 = .ok (.bipush 16, 2) := by decide +kernel
theorem dX10_hashOf_179 : decode cX10_hashOf 179 = .ok (.isub, 1) := by decide +kernel
theorem dX10_hashOf_180 : decode cX10_hashOf 180 = .ok (.iaload, 1) := by decide +kernel
theorem dX10_hashOf_181 : decode cX10_hashOf 181 = .ok (.iload 5, 2) := by decide +kernel
theorem dX10_hashOf_183 : decode cX10_hashOf 183 = .ok (.iadd, 1) := by decide +kernel
theorem dX10_hashOf_184 : decode cX10_hashOf 184 = .ok (.aload_n 0, 1) := by decide +kernel
theorem dX10_hashOf_185 : decode cX10_hashOf 185 = .ok (.getfield 106, 3) := by decide +kernel
theorem dX10_hashOf_188 : decode cX10_hashOf 188 = .ok (.iload_n 2, 1) := by decide +kernel
theorem dX10_hashOf_189 : decode cX10_hashOf 189 = .ok (.bipush 7, 2) := by decide +kernel
theorem dX10_hashOf_191 : decode cX10_hashOf 191 = .ok (.isub, 1) := by decide +kernel
theorem dX10_hashOf_192 : decode cX10_hashOf 192 = .ok (.iaload, 1) := by decide +kernel
theorem dX10_hashOf_193 : decode cX10_hashOf 193 = .ok (.iadd, 1) := by decide +kernel
theorem dX10_hashOf_194 : decode cX10_hashOf 194 = .ok (.iload 6, 2) := by decide +kernel
theorem dX10_hashOf_196 : decode cX10_hashOf 196 = .ok (.iadd, 1) := by decide +kernel
theorem dX10_hashOf_197 : decode cX10_hashOf 197 = .ok (.iastore, 1) := by decide +kernel
theorem dX10_hashOf_198 : decode cX10_hashOf 198 = .ok (.iinc 2 1, 3) := by decide +kernel
theorem dX10_hashOf_201 : decode cX10_hashOf 201 = .ok (.goto (-102), 3) := by decide +kernel
theorem dX10_hashOf_204 : decode cX10_hashOf 204 = .ok (.iconst 0, 1) := by decide +kernel
theorem dX10_hashOf_205 : decode cX10_hashOf 205 = .ok (.istore_n 2, 1) := by decide +kernel
theorem dX10_hashOf_206 : decode cX10_hashOf 206 = .ok (.iload_n 2, 1) := by decide +kernel
theorem dX10_hashOf_207 : decode cX10_hashOf 207 = .ok (.bipush 8, 2) := by decide +kernel
theorem dX10_hashOf_209 : decode cX10_hashOf 209 = .ok (.if_icmp .ge 21, 3) := by decide +kernel
theorem dX10_hashOf_212 : decode cX10_hashOf 212 = .ok (.aload_n 0, 1) := by decide +kernel
theorem dX10_hashOf_213 : decode cX10_hashOf 213 = .ok (.getfield 115, 3) := by decide +kernel
theorem dX10_hashOf_216 : decode cX10_hashOf 216 = .ok (.iload_n 2, 1) := by decide +kernel
theorem dX10_hashOf_217 : decode cX10_hashOf 217 = .ok (.aload_n 0, 1) := by decide +kernel
theorem dX10_hashOf_218 : decode cX10_hashOf 218 = .ok (.getfield 112, 3) := by decide +kernel
theorem dX10_hashOf_221 : decode cX10_hashOf 221 = .ok (.iload_n 2, 1) := by decide +kernel
theorem dX10_hashOf_222 : decode cX10_hashOf 222 = .ok (.iaload, 1) := by decide +kernel
theorem dX10_hashOf_223 : decode cX10_hashOf 223 = .ok (.iastore, 1) := by decide +kernel
theorem dX10_hashOf_224 : decode cX10_hashOf 224 = .ok (.iinc 2 1, 3) := by decide +kernel
theorem dX10_hashOf_227 : decode cX10_hashOf 227 = .ok (.goto (-21), 3) := by decide +kernel
theorem dX10_hashOf_230 : decode cX10_hashOf 230 = .ok (.iconst 0, 1) := by decide +kernel
theorem dX10_hashOf_231 : decode cX10_hashOf 231 = .ok (.istore_n 2, 1) := by decide +kernel
theorem dX10_hashOf_232 : decode cX10_hashOf 232 = .ok (.iload_n 2, 1) := by decide +kernel
theorem dX10_hashOf_233 : decode cX10_hashOf 233 = .ok (.bipush 64, 2) := by decide +kernel
theorem dX10_hashOf_235 : decode cX10_hashOf 235 = .ok (.if_icmp .ge 14, 3) := by decide +kernel
theorem dX10_hashOf_238 : decode cX10_hashOf 238 = .ok (.aload_n 0, 1) := by decide +kernel
theorem dX10_hashOf_239 : decode cX10_hashOf 239 = .ok (.iload_n 2, 1) := by decide +kernel
theorem dX10_hashOf_240 : decode cX10_hashOf 240 = .ok (.invokevirtual 169, 3) := by decide +kernel
theorem dX10_hashOf_243 : decode cX10_hashOf 243 = .ok (.iinc 2 1, 3) := by decide +kernel
theorem dX10_hashOf_246 : decode cX10_hashOf 246 = .ok (.goto (-14), 3) := by decide +kernel
theorem dX10_hashOf_249 : decode cX10_hashOf 249 = .ok (.aload_n 0, 1) := by decide +kernel
theorem dX10_hashOf_250 : decode cX10_hashOf 250 = .ok (.getfield 112, 3) := by decide +kernel
theorem dX10_hashOf_253 : decode cX10_hashOf 253 = .ok (.iconst 0, 1) := by decide +kernel
theorem dX10_hashOf_254 : decode cX10_hashOf 254 = .ok (.iaload, 1) := by decide +kernel
theorem dX10_hashOf_255 : decode cX10_hashOf 255 = .ok (.aload_n 0, 1) := by decide +kernel
theorem dX10_hashOf_256 : decode cX10_hashOf 256 = .ok (.getfield 115, 3) := by decide +kernel
theorem dX10_hashOf_259 : decode cX10_hashOf 259 = .ok (.iconst 0, 1) := by decide +kernel
theorem dX10_hashOf_260 : decode cX10_hashOf 260 = .ok (.iaload, 1) := by decide +kernel
theorem dX10_hashOf_261 : decode cX10_hashOf 261 = .ok (.iadd, 1) := by decide +kernel
theorem dX10_hashOf_262 : decode cX10_hashOf 262 = .ok (.ireturn, 1) := by decide +kernel
theorem dX10_mix_0 : decode cX10_mix 0 = .ok (.aload_n 0, 1) := by decide +kernel
theorem dX10_mix_1 : decode cX10_mix 1 = .ok (.getfield 115, 3) := by decide +kernel
theorem dX10_mix_4 : decode cX10_mix 4 = .ok (.iconst 0, 1) := by decide +kernel
theorem dX10_mix_5 : decode cX10_mix 5 = .ok (.iaload, 1) := by decide +kernel
theorem dX10_mix_6 : decode cX10_mix 6 = .ok (.istore_n 2, 1) := by decide +kernel
theorem dX10_mix_7 : decode cX10_mix 7 = .ok (.aload_n 0, 1) := by decide +kernel
theorem dX10_mix_8 : decode cX10_mix 8 = .ok (.getfield 115, 3) := by decide +kernel
theorem dX10_mix_11 : decode cX10_mix 11 = .ok (.iconst 4, 1) := by decide +kernel
theorem dX10_mix_12 : decode cX10_mix 12 = .ok (.iaload, 1) := by decide +kernel
theorem dX10_mix_13 : decode cX10_mix 13 = .ok (.istore_n 3, 1) := by decide +kernel
theorem dX10_mix_14 : decode cX10_mix 14 = .ok (.iload_n 3, 1) := by decide +kernel
theorem dX10_mix_15 : decode cX10_mix 15 = .ok (.bipush 6, 2) := by decide +kernel
theorem dX10_mix_17 : decode cX10_mix 17 = .ok (.invokestatic 165, 3) := by decide +kernel
theorem dX10_mix_20 : decode cX10_mix 20 = .ok (.iload_n 3, 1) := by decide +kernel
theorem dX10_mix_21 : decode cX10_mix 21 = .ok (.bipush 11, 2) := by decide +kernel
theorem dX10_mix_23 : decode cX10_mix 23 = .ok (.invokestatic 165, 3) := by decide +kernel
theorem dX10_mix_26 : decode cX10_mix 26 = .ok (.ixor, 1) := by decide +kernel
theorem dX10_mix_27 : decode cX10_mix 27 = .ok (.iload_n 3, 1) := by decide +kernel
theorem dX10_mix_28 : decode cX10_mix 28 = .ok (.bipush 25, 2) := by decide +kernel
theorem dX10_mix_30 : decode cX10_mix 30 = .ok (.invokestatic 165, 3) := by decide +kernel
theorem dX10_mix_33 : decode cX10_mix 33 = .ok (.ixor, 1) := by decide +kernel
theorem dX10_mix_34 : decode cX10_mix 34 = .ok (.istore 4, 2) := by decide +kernel
theorem dX10_mix_36 : decode cX10_mix 36 = .ok (.iload_n 3, 1) := by decide +kernel
theorem dX10_mix_37 : decode cX10_mix 37 = .ok (.aload_n 0, 1) := by decide +kernel
theorem dX10_mix_38 : decode cX10_mix 38 = .ok (.getfield 115, 3) := by decide +kernel
theorem dX10_mix_41 : decode cX10_mix 41 = .ok (.iconst 5, 1) := by decide +kernel
theorem dX10_mix_42 : decode cX10_mix 42 = .ok (.iaload, 1) := by decide +kernel
theorem dX10_mix_43 : decode cX10_mix 43 = .ok (.iand, 1) := by decide +kernel
theorem dX10_mix_44 : decode cX10_mix 44 = .ok (.iload_n 3, 1) := by decide +kernel
theorem dX10_mix_45 : decode cX10_mix 45 = .ok (.iconst (-1), 1) := by decide +kernel
theorem dX10_mix_46 : decode cX10_mix 46 = .ok (.ixor, 1) := by decide +kernel
theorem dX10_mix_47 : decode cX10_mix 47 = .ok (.aload_n 0, 1) := by decide +kernel
theorem dX10_mix_48 : decode cX10_mix 48 = .ok (.getfield 115, 3) := by decide +kernel
theorem dX10_mix_51 : decode cX10_mix 51 = .ok (.bipush 6, 2) := by decide +kernel
theorem dX10_mix_53 : decode cX10_mix 53 = .ok (.iaload, 1) := by decide +kernel
theorem dX10_mix_54 : decode cX10_mix 54 = .ok (.iand, 1) := by decide +kernel
theorem dX10_mix_55 : decode cX10_mix 55 = .ok (.ixor, 1) := by decide +kernel
theorem dX10_mix_56 : decode cX10_mix 56 = .ok (.istore 5, 2) := by decide +kernel
theorem dX10_mix_58 : decode cX10_mix 58 = .ok (.aload_n 0, 1) := by decide +kernel
theorem dX10_mix_59 : decode cX10_mix 59 = .ok (.getfield 115, 3) := by decide +kernel
theorem dX10_mix_62 : decode cX10_mix 62 = .ok (.bipush 7, 2) := by decide +kernel
theorem dX10_mix_64 : decode cX10_mix 64 = .ok (.iaload, 1) := by decide +kernel
theorem dX10_mix_65 : decode cX10_mix 65 = .ok (.iload 4, 2) := by decide +kernel
theorem dX10_mix_67 : decode cX10_mix 67 = .ok (.iadd, 1) := by decide +kernel
theorem dX10_mix_68 : decode cX10_mix 68 = .ok (.iload 5, 2) := by decide +kernel
theorem dX10_mix_70 : decode cX10_mix 70 = .ok (.iadd, 1) := by decide +kernel
theorem dX10_mix_71 : decode cX10_mix 71 = .ok (.aload_n 0, 1) := by decide +kernel
theorem dX10_mix_72 : decode cX10_mix 72 = .ok (.getfield 109, 3) := by decide +kernel
theorem dX10_mix_75 : decode cX10_mix 75 = .ok (.iload_n 1, 1) := by decide +kernel
theorem dX10_mix_76 : decode cX10_mix 76 = .ok (.iaload, 1) := by decide +kernel
theorem dX10_mix_77 : decode cX10_mix 77 = .ok (.iadd, 1) := by decide +kernel
theorem dX10_mix_78 : decode cX10_mix 78 = .ok (.aload_n 0, 1) := by decide +kernel
theorem dX10_mix_79 : decode cX10_mix 79 = .ok (.getfield 106, 3) := by decide +kernel
theorem dX10_mix_82 : decode cX10_mix 82 = .ok (.iload_n 1, 1) := by decide +kernel
theorem dX10_mix_83 : decode cX10_mix 83 = .ok (.iaload, 1) := by decide +kernel
theorem dX10_mix_84 : decode cX10_mix 84 = .ok (.iadd, 1) := by decide +kernel
theorem dX10_mix_85 : decode cX10_mix 85 = .ok (.istore 6, 2) := by decide +kernel
theorem dX10_mix_87 : decode cX10_mix 87 = .ok (.iload_n 2, 1) := by decide +kernel
theorem dX10_mix_88 : decode cX10_mix 88 = .ok (.iconst 2, 1) := by decide +kernel
theorem dX10_mix_89 : decode cX10_mix 89 = .ok (.invokestatic 165, 3) := by decide +kernel
theorem dX10_mix_92 : decode cX10_mix 92 = .ok (.iload_n 2, 1) := by decide +kernel
theorem dX10_mix_93 : decode cX10_mix 93 = .ok (.bipush 13, 2) := by decide +kernel
theorem dX10_mix_95 : decode cX10_mix 95 = .ok (.invokestatic 165, 3) := by decide +kernel
theorem dX10_mix_98 : decode cX10_mix 98 = .ok (.ixor, 1) := by decide +kernel
theorem dX10_mix_99 : decode cX10_mix 99 = .ok (.iload_n 2, 1) := by decide +kernel
theorem dX10_mix_100 : decode cX10_mix 100 = .ok (.bipush 22, 2) := by decide +kernel
theorem dX10_mix_102 : decode cX10_mix 102 = .ok (.invokestatic 165, 3) := by decide +kernel
theorem dX10_mix_105 : decode cX10_mix 105 = .ok (.ixor, 1) := by decide +kernel
theorem dX10_mix_106 : decode cX10_mix 106 = .ok (.istore 7, 2) := by decide +kernel
theorem dX10_mix_108 : decode cX10_mix 108 = .ok (.iload_n 2, 1) := by decide +kernel
theorem dX10_mix_109 : decode cX10_mix 109 = .ok (.aload_n 0, 1) := by decide +kernel
theorem dX10_mix_110 : decode cX10_mix 110 = .ok (.getfield 115, 3) := by decide +kernel
theorem dX10_mix_113 : decode cX10_mix 113 = .ok (.iconst 1, 1) := by decide +kernel
theorem dX10_mix_114 : decode cX10_mix 114 = .ok (.iaload, 1) := by decide +kernel
theorem dX10_mix_115 : decode cX10_mix 115 = .ok (.iand, 1) := by decide +kernel
theorem dX10_mix_116 : decode cX10_mix 116 = .ok (.iload_n 2, 1) := by decide +kernel
theorem dX10_mix_117 : decode cX10_mix 117 = .ok (.aload_n 0, 1) := by decide +kernel
theorem dX10_mix_118 : decode cX10_mix 118 = .ok (.getfield 115, 3) := by decide +kernel
theorem dX10_mix_121 : decode cX10_mix 121 = .ok (.iconst 2, 1) := by decide +kernel
theorem dX10_mix_122 : decode cX10_mix 122 = .ok (.iaload, 1) := by decide +kernel
theorem dX10_mix_123 : decode cX10_mix 123 = .ok (.iand, 1) := by decide +kernel
theorem dX10_mix_124 : decode cX10_mix 124 = .ok (.ixor, 1) := by decide +kernel
theorem dX10_mix_125 : decode cX10_mix 125 = .ok (.aload_n 0, 1) := by decide +kernel
theorem dX10_mix_126 : decode cX10_mix 126 = .ok (.getfield 115, 3) := by decide +kernel
theorem dX10_mix_129 : decode cX10_mix 129 = .ok (.iconst 1, 1) := by decide +kernel
theorem dX10_mix_130 : decode cX10_mix 130 = .ok (.iaload, 1) := by decide +kernel
theorem dX10_mix_131 : decode cX10_mix 131 = .ok (.aload_n 0, 1) := by decide +kernel
theorem dX10_mix_132 : decode cX10_mix 132 = .ok (.getfield 115, 3) := by decide +kernel
theorem dX10_mix_135 : decode cX10_mix 135 = .ok (.iconst 2, 1) := by decide +kernel
theorem dX10_mix_136 : decode cX10_mix 136 = .ok (.iaload, 1) := by decide +kernel
theorem dX10_mix_137 : decode cX10_mix 137 = .ok (.iand, 1) := by decide +kernel
theorem dX10_mix_138 : decode cX10_mix 138 = .ok (.ixor, 1) := by decide +kernel
theorem dX10_mix_139 : decode cX10_mix 139 = .ok (.istore 8, 2) := by decide +kernel
theorem dX10_mix_141 : decode cX10_mix 141 = .ok (.bipush 7, 2) := by decide +kernel
theorem dX10_mix_143 : decode cX10_mix 143 = .ok (.istore 9, 2) := by decide +kernel
theorem dX10_mix_145 : decode cX10_mix 145 = .ok (.iload 9, 2) := by decide +kernel
theorem dX10_mix_147 : decode cX10_mix 147 = .ok (.ifCond .le 25, 3) := by decide +kernel
theorem dX10_mix_150 : decode cX10_mix 150 = .ok (.aload_n 0, 1) := by decide +kernel
theorem dX10_mix_151 : decode cX10_mix 151 = .ok (.getfield 115, 3) := by decide +kernel
theorem dX10_mix_154 : decode cX10_mix 154 = .ok (.iload 9, 2) := by decide +kernel
theorem dX10_mix_156 : decode cX10_mix 156 = .ok (.aload_n 0, 1) := by decide +kernel
theorem dX10_mix_157 : decode cX10_mix 157 = .ok (.getfield 115, 3) := by decide +kernel
theorem dX10_mix_160 : decode cX10_mix 160 = .ok (.iload 9, 2) := by decide +kernel
theorem dX10_mix_162 : decode cX10_mix 162 = .ok (.iconst 1, 1) := by decide +kernel
theorem dX10_mix_163 : decode cX10_mix 163 = .ok (.isub, 1) := by decide +kernel
theorem dX10_mix_164 : decode cX10_mix 164 = .ok (.iaload, 1) := by decide +kernel
theorem dX10_mix_165 : decode cX10_mix 165 = .ok (.iastore, 1) := by decide +kernel
theorem dX10_mix_166 : decode cX10_mix 166 = .ok (.iinc 9 (-1), 3) := by decide +kernel
theorem dX10_mix_169 : decode cX10_mix 169 = .ok (.goto (-24), 3) := by decide +kernel
theorem dX10_mix_172 : decode cX10_mix 172 = .ok (.aload_n 0, 1) := by decide +kernel
theorem dX10_mix_173 : decode cX10_mix 173 = .ok (.getfield 115, 3) := by decide +kernel
theorem dX10_mix_176 : decode cX10_mix 176 = .ok (.iconst 4, 1) := by decide +kernel
theorem dX10_mix_177 : decode cX10_mix 177 = .ok (.aload_n 0, 1) := by decide +kernel
theorem dX10_mix_178 : decode cX10_mix 178 = .ok (.getfield 115, 3) := by decide +kernel
theorem dX10_mix_181 : decode cX10_mix 181 = .ok (.iconst 4, 1) := by decide +kernel
theorem dX10_mix_182 : decode cX10_mix 182 = .ok (.iaload, 1) := by decide +kernel
theorem dX10_mix_183 : decode cX10_mix 183 = .ok (.iload 6, 2) := by decide +kernel
theorem dX10_mix_185 : decode cX10_mix 185 = .ok (.iadd, 1) := by decide +kernel
theorem dX10_mix_186 : decode cX10_mix 186 = .ok (.iastore, 1) := by decide +kernel
theorem dX10_mix_187 : decode cX10_mix 187 = .ok (.aload_n 0, 1) := by decide +kernel
theorem dX10_mix_188 : decode cX10_mix 188 = .ok (.getfield 115, 3) := by decide +kernel
theorem dX10_mix_191 : decode cX10_mix 191 = .ok (.iconst 0, 1) := by decide +kernel
theorem dX10_mix_192 : decode cX10_mix 192 = .ok (.iload 6, 2) := by decide +kernel
theorem dX10_mix_194 : decode cX10_mix 194 = .ok (.iload 7, 2) := by decide +kernel
theorem dX10_mix_196 : decode cX10_mix 196 = .ok (.iadd, 1) := by decide +kernel
theorem dX10_mix_197 : decode cX10_mix 197 = .ok (.iload 8, 2) := by decide +kernel
theorem dX10_mix_199 : decode cX10_mix 199 = .ok (.iadd, 1) := by decide +kernel
theorem dX10_mix_200 : decode cX10_mix 200 = .ok (.iastore, 1) := by decide +kernel
theorem dX10_mix_201 : decode cX10_mix 201 = .ok (.return_, 1) := by decide +kernel
theorem dX10_weigh_0 : decode cX10_weigh 0 = .ok (.aload_n 0, 1) := by decide +kernel
theorem dX10_weigh_1 : decode cX10_weigh 1 = .ok (.iconst 0, 1) := by decide +kernel
theorem dX10_weigh_2 : decode cX10_weigh 2 = .ok (.putfield 145, 3) := by decide +kernel
theorem dX10_weigh_5 : decode cX10_weigh 5 = .ok (.iload_n 1, 1) := by decide +kernel
theorem dX10_weigh_6 : decode cX10_weigh 6 = .ok (.ifCond .lt 24, 3) := by decide +kernel
theorem dX10_weigh_9 : decode cX10_weigh 9 = .ok (.iload_n 1, 1) := by decide +kernel
theorem dX10_weigh_10 : decode cX10_weigh 10 = .ok (.bipush 20, 2) := by decide +kernel
theorem dX10_weigh_12 : decode cX10_weigh 12 = .ok (.if_icmp .ge 18, 3) := by decide +kernel
theorem dX10_weigh_15 : decode cX10_weigh 15 = .ok (.iload_n 2, 1) := by decide +kernel
theorem dX10_weigh_16 : decode cX10_weigh 16 = .ok (.ifCond .lt 14, 3) := by decide +kernel
theorem dX10_weigh_19 : decode cX10_weigh 19 = .ok (.iload_n 2, 1) := by decide +kernel
theorem dX10_weigh_20 : decode cX10_weigh 20 = .ok (.sipush 1000, 3) := by decide +kernel
theorem dX10_weigh_23 : decode cX10_weigh 23 = .ok (.if_icmp .gt 7, 3) := by decide +kernel
theorem dX10_weigh_26 : decode cX10_weigh 26 = .ok (.iconst 1, 1) := by decide +kernel
theorem dX10_weigh_27 : decode cX10_weigh 27 = .ok (.goto 4, 3) := by decide +kernel
theorem dX10_weigh_30 : decode cX10_weigh 30 = .ok (.iconst 0, 1) := by decide +kernel
theorem dX10_weigh_31 : decode cX10_weigh 31 = .ok (.istore_n 3, 1) := by decide +kernel
theorem dX10_weigh_32 : decode cX10_weigh 32 = .ok (.iload_n 3, 1) := by decide +kernel
theorem dX10_weigh_33 : decode cX10_weigh 33 = .ok (.ifCond .eq 10, 3) := by decide +kernel
theorem dX10_weigh_36 : decode cX10_weigh 36 = .ok (.aload_n 0, 1) := by decide +kernel
theorem dX10_weigh_37 : decode cX10_weigh 37 = .ok (.getfield 7, 3) := by decide +kernel
theorem dX10_weigh_40 : decode cX10_weigh 40 = .ok (.iload_n 1, 1) := by decide +kernel
theorem dX10_weigh_41 : decode cX10_weigh 41 = .ok (.iload_n 2, 1) := by decide +kernel
theorem dX10_weigh_42 : decode cX10_weigh 42 = .ok (.iastore, 1) := by decide +kernel
theorem dX10_weigh_43 : decode cX10_weigh 43 = .ok (.iload_n 3, 1) := by decide +kernel
theorem dX10_weigh_44 : decode cX10_weigh 44 = .ok (.ireturn, 1) := by decide +kernel
theorem dX10_feed_0 : decode cX10_feed 0 = .ok (.aload_n 0, 1) := by decide +kernel
theorem dX10_feed_1 : decode cX10_feed 1 = .ok (.iconst 0, 1) := by decide +kernel
theorem dX10_feed_2 : decode cX10_feed 2 = .ok (.putfield 145, 3) := by decide +kernel
theorem dX10_feed_5 : decode cX10_feed 5 = .ok (.aload_n 0, 1) := by decide +kernel
theorem dX10_feed_6 : decode cX10_feed 6 = .ok (.getfield 173, 3) := by decide +kernel
theorem dX10_feed_9 : decode cX10_feed 9 = .ok (.iconst 4, 1) := by decide +kernel
theorem dX10_feed_10 : decode cX10_feed 10 = .ok (.iadd, 1) := by decide +kernel
theorem dX10_feed_11 : decode cX10_feed 11 = .ok (.sipush 128, 3) := by decide +kernel
theorem dX10_feed_14 : decode cX10_feed 14 = .ok (.if_icmp .le 5, 3) := by decide +kernel
theorem dX10_feed_17 : decode cX10_feed 17 = .ok (.iconst 0, 1) := by decide +kernel
theorem dX10_feed_18 : decode cX10_feed 18 = .ok (.ireturn, 1) := by decide +kernel
theorem dX10_feed_19 : decode cX10_feed 19 = .ok (.bipush 24, 2) := by decide +kernel
theorem dX10_feed_21 : decode cX10_feed 21 = .ok (.istore_n 2, 1) := by decide +kernel
theorem dX10_feed_22 : decode cX10_feed 22 = .ok (.iload_n 2, 1) := by decide +kernel
theorem dX10_feed_23 : decode cX10_feed 23 = .ok (.ifCond .lt 35, 3) := by decide +kernel
theorem dX10_feed_26 : decode cX10_feed 26 = .ok (.aload_n 0, 1) := by decide +kernel
theorem dX10_feed_27 : decode cX10_feed 27 = .ok (.getfield 13, 3) := by decide +kernel
theorem dX10_feed_30 : decode cX10_feed 30 = .ok (.aload_n 0, 1) := by decide +kernel
theorem dX10_feed_31 : decode cX10_feed 31 = .ok (.getfield 173, 3) := by decide +kernel
theorem dX10_feed_34 : decode cX10_feed 34 = .ok (.iload_n 1, 1) := by decide +kernel
theorem dX10_feed_35 : decode cX10_feed 35 = .ok (.iload_n 2, 1) := by decide +kernel
theorem dX10_feed_36 : decode cX10_feed 36 = .ok (.ishr, 1) := by decide +kernel
theorem dX10_feed_37 : decode cX10_feed 37 = .ok (.sipush 255, 3) := by decide +kernel
theorem dX10_feed_40 : decode cX10_feed 40 = .ok (.iand, 1) := by decide +kernel
theorem dX10_feed_41 : decode cX10_feed 41 = .ok (.iastore, 1) := by decide +kernel
theorem dX10_feed_42 : decode cX10_feed 42 = .ok (.aload_n 0, 1) := by decide +kernel
theorem dX10_feed_43 : decode cX10_feed 43 = .ok (.dup, 1) := by decide +kernel
theorem dX10_feed_44 : decode cX10_feed 44 = .ok (.getfield 173, 3) := by decide +kernel
theorem dX10_feed_47 : decode cX10_feed 47 = .ok (.iconst 1, 1) := by decide +kernel
theorem dX10_feed_48 : decode cX10_feed 48 = .ok (.iadd, 1) := by decide +kernel
theorem dX10_feed_49 : decode cX10_feed 49 = .ok (.putfield 173, 3) := by decide +kernel
theorem dX10_feed_52 : decode cX10_feed 52 = .ok (.iinc 2 (-8), 3) := by decide +kernel
theorem dX10_feed_55 : decode cX10_feed 55 = .ok (.goto (-33), 3) := by decide +kernel
theorem dX10_feed_58 : decode cX10_feed 58 = .ok (.iconst 1, 1) := by decide +kernel
theorem dX10_feed_59 : decode cX10_feed 59 = .ok (.ireturn, 1) := by decide +kernel
theorem dX10_at_0 : decode cX10_at 0 = .ok (.aload_n 0, 1) := by decide +kernel
theorem dX10_at_1 : decode cX10_at 1 = .ok (.getfield 23, 3) := by decide +kernel
theorem dX10_at_4 : decode cX10_at 4 = .ok (.bipush 56, 2) := by decide +kernel
theorem dX10_at_6 : decode cX10_at 6 = .ok (.iload_n 1, 1) := by decide +kernel
theorem dX10_at_7 : decode cX10_at 7 = .ok (.imul, 1) := by decide +kernel
theorem dX10_at_8 : decode cX10_at 8 = .ok (.iload_n 2, 1) := by decide +kernel
theorem dX10_at_9 : decode cX10_at 9 = .ok (.iadd, 1) := by decide +kernel
theorem dX10_at_10 : decode cX10_at 10 = .ok (.baload, 1) := by decide +kernel
theorem dX10_at_11 : decode cX10_at 11 = .ok (.sipush 255, 3) := by decide +kernel
theorem dX10_at_14 : decode cX10_at 14 = .ok (.iand, 1) := by decide +kernel
theorem dX10_at_15 : decode cX10_at 15 = .ok (.ireturn, 1) := by decide +kernel
theorem dX10_four_0 : decode cX10_four 0 = .ok (.aload_n 0, 1) := by decide +kernel
theorem dX10_four_1 : decode cX10_four 1 = .ok (.iload_n 1, 1) := by decide +kernel
theorem dX10_four_2 : decode cX10_four 2 = .ok (.iload_n 2, 1) := by decide +kernel
theorem dX10_four_3 : decode cX10_four 3 = .ok (.invokevirtual 176, 3) := by decide +kernel
theorem dX10_four_6 : decode cX10_four 6 = .ok (.bipush 24, 2) := by decide +kernel
theorem dX10_four_8 : decode cX10_four 8 = .ok (.ishl, 1) := by decide +kernel
theorem dX10_four_9 : decode cX10_four 9 = .ok (.aload_n 0, 1) := by decide +kernel
theorem dX10_four_10 : decode cX10_four 10 = .ok (.iload_n 1, 1) := by decide +kernel
theorem dX10_four_11 : decode cX10_four 11 = .ok (.iload_n 2, 1) := by decide +kernel
theorem dX10_four_12 : decode cX10_four 12 = .ok (.iconst 1, 1) := by decide +kernel
theorem dX10_four_13 : decode cX10_four 13 = .ok (.iadd, 1) := by decide +kernel
theorem dX10_four_14 : decode cX10_four 14 = .ok (.invokevirtual 176, 3) := by decide +kernel
theorem dX10_four_17 : decode cX10_four 17 = .ok (.bipush 16, 2) := by decide +kernel
theorem dX10_four_19 : decode cX10_four 19 = .ok (.ishl, 1) := by decide +kernel
theorem dX10_four_20 : decode cX10_four 20 = .ok (.ior, 1) := by decide +kernel
theorem dX10_four_21 : decode cX10_four 21 = .ok (.aload_n 0, 1) := by decide +kernel
theorem dX10_four_22 : decode cX10_four 22 = .ok (.iload_n 1, 1) := by decide +kernel
theorem dX10_four_23 : decode cX10_four 23 = .ok (.iload_n 2, 1) := by decide +kernel
theorem dX10_four_24 : decode cX10_four 24 = .ok (.iconst 2, 1) := by decide +kernel
theorem dX10_four_25 : decode cX10_four 25 = .ok (.iadd, 1) := by decide +kernel
theorem dX10_four_26 : decode cX10_four 26 = .ok (.invokevirtual 176, 3) := by decide +kernel
theorem dX10_four_29 : decode cX10_four 29 = .ok (.bipush 8, 2) := by decide +kernel
theorem dX10_four_31 : decode cX10_four 31 = .ok (.ishl, 1) := by decide +kernel
theorem dX10_four_32 : decode cX10_four 32 = .ok (.ior, 1) := by decide +kernel
theorem dX10_four_33 : decode cX10_four 33 = .ok (.aload_n 0, 1) := by decide +kernel
theorem dX10_four_34 : decode cX10_four 34 = .ok (.iload_n 1, 1) := by decide +kernel
theorem dX10_four_35 : decode cX10_four 35 = .ok (.iload_n 2, 1) := by decide +kernel
theorem dX10_four_36 : decode cX10_four 36 = .ok (.iconst 3, 1) := by decide +kernel
theorem dX10_four_37 : decode cX10_four 37 = .ok (.iadd, 1) := by decide +kernel
theorem dX10_four_38 : decode cX10_four 38 = .ok (.invokevirtual 176, 3) := by decide +kernel
theorem dX10_four_41 : decode cX10_four 41 = .ok (.ior, 1) := by decide +kernel
theorem dX10_four_42 : decode cX10_four 42 = .ok (.ireturn, 1) := by decide +kernel
theorem dX10_parentsOf_0 : decode cX10_parentsOf 0 = .ok (.iload_n 1, 1) := by decide +kernel
theorem dX10_parentsOf_1 : decode cX10_parentsOf 1 = .ok (.ifCond .ne 7, 3) := by decide +kernel
theorem dX10_parentsOf_4 : decode cX10_parentsOf 4 = .ok (.iconst 0, 1) := by decide +kernel
theorem dX10_parentsOf_5 : decode cX10_parentsOf 5 = .ok (.goto 9, 3) := by decide +kernel
theorem dX10_parentsOf_8 : decode cX10_parentsOf 8 = .ok (.aload_n 0, 1) := by decide +kernel
theorem dX10_parentsOf_9 : decode cX10_parentsOf 9 = .ok (.iload_n 1, 1) := by decide +kernel
theorem dX10_parentsOf_10 : decode cX10_parentsOf 10 = .ok (.iconst 0, 1) := by decide +kernel
theorem dX10_parentsOf_11 : decode cX10_parentsOf 11 = .ok (.invokevirtual 176, 3) := by decide +kernel
theorem dX10_parentsOf_14 : decode cX10_parentsOf 14 = .ok (.ireturn, 1) := by decide +kernel
theorem dX10_parentId_0 : decode cX10_parentId 0 = .ok (.aload_n 0, 1) := by decide +kernel
theorem dX10_parentId_1 : decode cX10_parentId 1 = .ok (.iload_n 1, 1) := by decide +kernel
theorem dX10_parentId_2 : decode cX10_parentId 2 = .ok (.iconst 1, 1) := by decide +kernel
theorem dX10_parentId_3 : decode cX10_parentId 3 = .ok (.iconst 4, 1) := by decide +kernel
theorem dX10_parentId_4 : decode cX10_parentId 4 = .ok (.iload_n 2, 1) := by decide +kernel
theorem dX10_parentId_5 : decode cX10_parentId 5 = .ok (.imul, 1) := by decide +kernel
theorem dX10_parentId_6 : decode cX10_parentId 6 = .ok (.iadd, 1) := by decide +kernel
theorem dX10_parentId_7 : decode cX10_parentId 7 = .ok (.invokevirtual 179, 3) := by decide +kernel
theorem dX10_parentId_10 : decode cX10_parentId 10 = .ok (.ireturn, 1) := by decide +kernel
theorem dX10_inputsFrom_0 : decode cX10_inputsFrom 0 = .ok (.iconst 1, 1) := by decide +kernel
theorem dX10_inputsFrom_1 : decode cX10_inputsFrom 1 = .ok (.iconst 4, 1) := by decide +kernel
theorem dX10_inputsFrom_2 : decode cX10_inputsFrom 2 = .ok (.aload_n 0, 1) := by decide +kernel
theorem dX10_inputsFrom_3 : decode cX10_inputsFrom 3 = .ok (.iload_n 1, 1) := by decide +kernel
theorem dX10_inputsFrom_4 : decode cX10_inputsFrom 4 = .ok (.invokevirtual 182, 3) := by decide +kernel
theorem dX10_inputsFrom_7 : decode cX10_inputsFrom 7 = .ok (.imul, 1) := by decide +kernel
theorem dX10_inputsFrom_8 : decode cX10_inputsFrom 8 = .ok (.iadd, 1) := by decide +kernel
theorem dX10_inputsFrom_9 : decode cX10_inputsFrom 9 = .ok (.ireturn, 1) := by decide +kernel
theorem dX10_inputsOf_0 : decode cX10_inputsOf 0 = .ok (.iload_n 1, 1) := by decide +kernel
theorem dX10_inputsOf_1 : decode cX10_inputsOf 1 = .ok (.ifCond .ne 7, 3) := by decide +kernel
theorem dX10_inputsOf_4 : decode cX10_inputsOf 4 = .ok (.iconst 0, 1) := by decide +kernel
theorem dX10_inputsOf_5 : decode cX10_inputsOf 5 = .ok (.goto 13, 3) := by decide +kernel
theorem dX10_inputsOf_8 : decode cX10_inputsOf 8 = .ok (.aload_n 0, 1) := by decide +kernel
theorem dX10_inputsOf_9 : decode cX10_inputsOf 9 = .ok (.iload_n 1, 1) := by decide +kernel
theorem dX10_inputsOf_10 : decode cX10_inputsOf 10 = .ok (.aload_n 0, 1) := by decide +kernel
theorem dX10_inputsOf_11 : decode cX10_inputsOf 11 = .ok (.iload_n 1, 1) := by decide +kernel
theorem dX10_inputsOf_12 : decode cX10_inputsOf 12 = .ok (.invokevirtual 185, 3) := by decide +kernel
theorem dX10_inputsOf_15 : decode cX10_inputsOf 15 = .ok (.invokevirtual 176, 3) := by decide +kernel
theorem dX10_inputsOf_18 : decode cX10_inputsOf 18 = .ok (.ireturn, 1) := by decide +kernel
theorem dX10_inputId_0 : decode cX10_inputId 0 = .ok (.aload_n 0, 1) := by decide +kernel
theorem dX10_inputId_1 : decode cX10_inputId 1 = .ok (.iload_n 1, 1) := by decide +kernel
theorem dX10_inputId_2 : decode cX10_inputId 2 = .ok (.aload_n 0, 1) := by decide +kernel
theorem dX10_inputId_3 : decode cX10_inputId 3 = .ok (.iload_n 1, 1) := by decide +kernel
theorem dX10_inputId_4 : decode cX10_inputId 4 = .ok (.invokevirtual 185, 3) := by decide +kernel
theorem dX10_inputId_7 : decode cX10_inputId 7 = .ok (.iconst 1, 1) := by decide +kernel
theorem dX10_inputId_8 : decode cX10_inputId 8 = .ok (.iadd, 1) := by decide +kernel
theorem dX10_inputId_9 : decode cX10_inputId 9 = .ok (.iconst 5, 1) := by decide +kernel
theorem dX10_inputId_10 : decode cX10_inputId 10 = .ok (.iload_n 2, 1) := by decide +kernel
theorem dX10_inputId_11 : decode cX10_inputId 11 = .ok (.imul, 1) := by decide +kernel
theorem dX10_inputId_12 : decode cX10_inputId 12 = .ok (.iadd, 1) := by decide +kernel
theorem dX10_inputId_13 : decode cX10_inputId 13 = .ok (.invokevirtual 179, 3) := by decide +kernel
theorem dX10_inputId_16 : decode cX10_inputId 16 = .ok (.ireturn, 1) := by decide +kernel
theorem dX10_inputIndex_0 : decode cX10_inputIndex 0 = .ok (.aload_n 0, 1) := by decide +kernel
theorem dX10_inputIndex_1 : decode cX10_inputIndex 1 = .ok (.iload_n 1, 1) := by decide +kernel
theorem dX10_inputIndex_2 : decode cX10_inputIndex 2 = .ok (.aload_n 0, 1) := by decide +kernel
theorem dX10_inputIndex_3 : decode cX10_inputIndex 3 = .ok (.iload_n 1, 1) := by decide +kernel
theorem dX10_inputIndex_4 : decode cX10_inputIndex 4 = .ok (.invokevirtual 185, 3) := by decide +kernel
theorem dX10_inputIndex_7 : decode cX10_inputIndex 7 = .ok (.iconst 5, 1) := by decide +kernel
theorem dX10_inputIndex_8 : decode cX10_inputIndex 8 = .ok (.iadd, 1) := by decide +kernel
theorem dX10_inputIndex_9 : decode cX10_inputIndex 9 = .ok (.iconst 5, 1) := by decide +kernel
theorem dX10_inputIndex_10 : decode cX10_inputIndex 10 = .ok (.iload_n 2, 1) := by decide +kernel
theorem dX10_inputIndex_11 : decode cX10_inputIndex 11 = .ok (.imul, 1) := by decide +kernel
theorem dX10_inputIndex_12 : decode cX10_inputIndex 12 = .ok (.iadd, 1) := by decide +kernel
theorem dX10_inputIndex_13 : decode cX10_inputIndex 13 = .ok (.invokevirtual 176, 3) := by decide +kernel
theorem dX10_inputIndex_16 : decode cX10_inputIndex 16 = .ok (.ireturn, 1) := by decide +kernel
theorem dX10_outputsFrom_0 : decode cX10_outputsFrom 0 = .ok (.aload_n 0, 1) := by decide +kernel
