theorem dX0_init_0 : decode cX0_init 0 = .ok (.aload_n 0, 1) := by decide +kernel
theorem dX0_init_1 : decode cX0_init 1 = .ok (.invokespecial 3, 3) := by decide +kernel
theorem dX0_init_4 : decode cX0_init 4 = .ok (.aload_n 0, 1) := by decide +kernel
theorem dX0_init_5 : decode cX0_init 5 = .ok (.iload_n 1, 1) := by decide +kernel
theorem dX0_init_6 : decode cX0_init 6 = .ok (.putfield 9, 3) := by decide +kernel
theorem dX0_init_9 : decode cX0_init 9 = .ok (.aload_n 0, 1) := by decide +kernel
theorem dX0_init_10 : decode cX0_init 10 = .ok (.bipush 8, 2) := by decide +kernel
theorem dX0_init_12 : decode cX0_init 12 = .ok (.newarray .int, 2) := by decide +kernel
theorem dX0_init_14 : decode cX0_init 14 = .ok (.putfield 15, 3) := by decide +kernel
theorem dX0_init_17 : decode cX0_init 17 = .ok (.aload_n 0, 1) := by decide +kernel
theorem dX0_init_18 : decode cX0_init 18 = .ok (.bipush 8, 2) := by decide +kernel
theorem dX0_init_20 : decode cX0_init 20 = .ok (.newarray .int, 2) := by decide +kernel
theorem dX0_init_22 : decode cX0_init 22 = .ok (.putfield 19, 3) := by decide +kernel
theorem dX0_init_25 : decode cX0_init 25 = .ok (.return_, 1) := by decide +kernel
theorem dX0_restart_0 : decode cX0_restart 0 = .ok (.aload_n 0, 1) := by decide +kernel
theorem dX0_restart_1 : decode cX0_restart 1 = .ok (.iload_n 1, 1) := by decide +kernel
theorem dX0_restart_2 : decode cX0_restart 2 = .ok (.putfield 22, 3) := by decide +kernel
theorem dX0_restart_5 : decode cX0_restart 5 = .ok (.aload_n 0, 1) := by decide +kernel
theorem dX0_restart_6 : decode cX0_restart 6 = .ok (.iload_n 2, 1) := by decide +kernel
theorem dX0_restart_7 : decode cX0_restart 7 = .ok (.putfield 25, 3) := by decide +kernel
theorem dX0_restart_10 : decode cX0_restart 10 = .ok (.aload_n 0, 1) := by decide +kernel
theorem dX0_restart_11 : decode cX0_restart 11 = .ok (.iload_n 3, 1) := by decide +kernel
theorem dX0_restart_12 : decode cX0_restart 12 = .ok (.putfield 28, 3) := by decide +kernel
theorem dX0_restart_15 : decode cX0_restart 15 = .ok (.aload_n 0, 1) := by decide +kernel
theorem dX0_restart_16 : decode cX0_restart 16 = .ok (.iconst (-1), 1) := by decide +kernel
theorem dX0_restart_17 : decode cX0_restart 17 = .ok (.putfield 31, 3) := by decide +kernel
theorem dX0_restart_20 : decode cX0_restart 20 = .ok (.aload_n 0, 1) := by decide +kernel
theorem dX0_restart_21 : decode cX0_restart 21 = .ok (.iconst (-1), 1) := by decide +kernel
theorem dX0_restart_22 : decode cX0_restart 22 = .ok (.putfield 34, 3) := by decide +kernel
theorem dX0_restart_25 : decode cX0_restart 25 = .ok (.aload_n 0, 1) := by decide +kernel
theorem dX0_restart_26 : decode cX0_restart 26 = .ok (.iconst 0, 1) := by decide +kernel
theorem dX0_restart_27 : decode cX0_restart 27 = .ok (.putfield 37, 3) := by decide +kernel
theorem dX0_restart_30 : decode cX0_restart 30 = .ok (.aload_n 0, 1) := by decide +kernel
theorem dX0_restart_31 : decode cX0_restart 31 = .ok (.iconst 0, 1) := by decide +kernel
theorem dX0_restart_32 : decode cX0_restart 32 = .ok (.putfield 40, 3) := by decide +kernel
theorem dX0_restart_35 : decode cX0_restart 35 = .ok (.aload_n 0, 1) := by decide +kernel
theorem dX0_restart_36 : decode cX0_restart 36 = .ok (.getfield 19, 3) := by decide +kernel
theorem dX0_restart_39 : decode cX0_restart 39 = .ok (.iconst 0, 1) := by decide +kernel
theorem dX0_restart_40 : decode cX0_restart 40 = .ok (.invokestatic 44, 3) := by decide +kernel
theorem dX0_restart_43 : decode cX0_restart 43 = .ok (.aload_n 0, 1) := by decide +kernel
theorem dX0_restart_44 : decode cX0_restart 44 = .ok (.invokevirtual 50, 3) := by decide +kernel
theorem dX0_restart_47 : decode cX0_restart 47 = .ok (.return_, 1) := by decide +kernel
theorem dX0_hasColour_0 : decode cX0_hasColour 0 = .ok (.iload_n 1, 1) := by decide +kernel
theorem dX0_hasColour_1 : decode cX0_hasColour 1 = .ok (.ifCond .lt 15, 3) := by decide +kernel
theorem dX0_hasColour_4 : decode cX0_hasColour 4 = .ok (.iload_n 1, 1) := by decide +kernel
theorem dX0_hasColour_5 : decode cX0_hasColour 5 = .ok (.aload_n 0, 1) := by decide +kernel
theorem dX0_hasColour_6 : decode cX0_hasColour 6 = .ok (.getfield 25, 3) := by decide +kernel
theorem dX0_hasColour_9 : decode cX0_hasColour 9 = .ok (.if_icmp .ge 7, 3) := by decide +kernel
theorem dX0_hasColour_12 : decode cX0_hasColour 12 = .ok (.iconst 1, 1) := by decide +kernel
theorem dX0_hasColour_13 : decode cX0_hasColour 13 = .ok (.goto 4, 3) := by decide +kernel
theorem dX0_hasColour_16 : decode cX0_hasColour 16 = .ok (.iconst 0, 1) := by decide +kernel
theorem dX0_hasColour_17 : decode cX0_hasColour 17 = .ok (.ireturn, 1) := by decide +kernel
theorem dX0_weightAt_0 : decode cX0_weightAt 0 = .ok (.aload_n 0, 1) := by decide +kernel
theorem dX0_weightAt_1 : decode cX0_weightAt 1 = .ok (.iload_n 1, 1) := by decide +kernel
theorem dX0_weightAt_2 : decode cX0_weightAt 2 = .ok (.invokevirtual 53, 3) := by decide +kernel
theorem dX0_weightAt_5 : decode cX0_weightAt 5 = .ok (.ifCond .eq 12, 3) := by decide +kernel
theorem dX0_weightAt_8 : decode cX0_weightAt 8 = .ok (.aload_n 0, 1) := by decide +kernel
theorem dX0_weightAt_9 : decode cX0_weightAt 9 = .ok (.getfield 19, 3) := by decide +kernel
theorem dX0_weightAt_12 : decode cX0_weightAt 12 = .ok (.iload_n 1, 1) := by decide +kernel
theorem dX0_weightAt_13 : decode cX0_weightAt 13 = .ok (.iaload, 1) := by decide +kernel
theorem dX0_weightAt_14 : decode cX0_weightAt 14 = .ok (.goto 4, 3) := by decide +kernel
theorem dX0_weightAt_17 : decode cX0_weightAt 17 = .ok (.iconst (-1), 1) := by decide +kernel
theorem dX0_weightAt_18 : decode cX0_weightAt 18 = .ok (.ireturn, 1) := by decide +kernel
theorem dX0_addVotes_0 : decode cX0_addVotes 0 = .ok (.aload_n 0, 1) := by decide +kernel
theorem dX0_addVotes_1 : decode cX0_addVotes 1 = .ok (.getfield 15, 3) := by decide +kernel
theorem dX0_addVotes_4 : decode cX0_addVotes 4 = .ok (.iload_n 1, 1) := by decide +kernel
theorem dX0_addVotes_5 : decode cX0_addVotes 5 = .ok (.dup2, 1) := by decide +kernel
theorem dX0_addVotes_6 : decode cX0_addVotes 6 = .ok (.iaload, 1) := by decide +kernel
theorem dX0_addVotes_7 : decode cX0_addVotes 7 = .ok (.iload_n 2, 1) := by decide +kernel
theorem dX0_addVotes_8 : decode cX0_addVotes 8 = .ok (.iadd, 1) := by decide +kernel
theorem dX0_addVotes_9 : decode cX0_addVotes 9 = .ok (.iastore, 1) := by decide +kernel
theorem dX0_addVotes_10 : decode cX0_addVotes 10 = .ok (.aload_n 0, 1) := by decide +kernel
theorem dX0_addVotes_11 : decode cX0_addVotes 11 = .ok (.dup, 1) := by decide +kernel
theorem dX0_addVotes_12 : decode cX0_addVotes 12 = .ok (.getfield 57, 3) := by decide +kernel
theorem dX0_addVotes_15 : decode cX0_addVotes 15 = .ok (.iload_n 2, 1) := by decide +kernel
theorem dX0_addVotes_16 : decode cX0_addVotes 16 = .ok (.iadd, 1) := by decide +kernel
theorem dX0_addVotes_17 : decode cX0_addVotes 17 = .ok (.putfield 57, 3) := by decide +kernel
theorem dX0_addVotes_20 : decode cX0_addVotes 20 = .ok (.return_, 1) := by decide +kernel
theorem dX0_endRound_0 : decode cX0_endRound 0 = .ok (.aload_n 0, 1) := by decide +kernel
theorem dX0_endRound_1 : decode cX0_endRound 1 = .ok (.invokevirtual 60, 3) := by decide +kernel
theorem dX0_endRound_4 : decode cX0_endRound 4 = .ok (.istore_n 1, 1) := by decide +kernel
theorem dX0_endRound_5 : decode cX0_endRound 5 = .ok (.aload_n 0, 1) := by decide +kernel
theorem dX0_endRound_6 : decode cX0_endRound 6 = .ok (.invokevirtual 50, 3) := by decide +kernel
theorem dX0_endRound_9 : decode cX0_endRound 9 = .ok (.aload_n 0, 1) := by decide +kernel
theorem dX0_endRound_10 : decode cX0_endRound 10 = .ok (.getfield 22, 3) := by decide +kernel
theorem dX0_endRound_13 : decode cX0_endRound 13 = .ok (.lookupswitch 43 #[(0, 27), (1, 35)], 27) := by decide +kernel
theorem dX0_endRound_40 : decode cX0_endRound 40 = .ok (.aload_n 0, 1) := by decide +kernel
theorem dX0_endRound_41 : decode cX0_endRound 41 = .ok (.iload_n 1, 1) := by decide +kernel
theorem dX0_endRound_42 : decode cX0_endRound 42 = .ok (.invokevirtual 64, 3) := by decide +kernel
theorem dX0_endRound_45 : decode cX0_endRound 45 = .ok (.goto 16, 3) := by decide +kernel
theorem dX0_endRound_48 : decode cX0_endRound 48 = .ok (.aload_n 0, 1) := by decide +kernel
theorem dX0_endRound_49 : decode cX0_endRound 49 = .ok (.iload_n 1, 1) := by decide +kernel
theorem dX0_endRound_50 : decode cX0_endRound 50 = .ok (.invokevirtual 68, 3) := by decide +kernel
theorem dX0_endRound_53 : decode cX0_endRound 53 = .ok (.goto 8, 3) := by decide +kernel
theorem dX0_endRound_56 : decode cX0_endRound 56 = .ok (.aload_n 0, 1) := by decide +kernel
theorem dX0_endRound_57 : decode cX0_endRound 57 = .ok (.iload_n 1, 1) := by decide +kernel
theorem dX0_endRound_58 : decode cX0_endRound 58 = .ok (.invokevirtual 71, 3) := by decide +kernel
theorem dX0_endRound_61 : decode cX0_endRound 61 = .ok (.aload_n 0, 1) := by decide +kernel
theorem dX0_endRound_62 : decode cX0_endRound 62 = .ok (.aload_n 0, 1) := by decide +kernel
theorem dX0_endRound_63 : decode cX0_endRound 63 = .ok (.getfield 31, 3) := by decide +kernel
theorem dX0_endRound_66 : decode cX0_endRound 66 = .ok (.iconst (-1), 1) := by decide +kernel
theorem dX0_endRound_67 : decode cX0_endRound 67 = .ok (.if_icmp .eq 18, 3) := by decide +kernel
theorem dX0_endRound_70 : decode cX0_endRound 70 = .ok (.aload_n 0, 1) := by decide +kernel
theorem dX0_endRound_71 : decode cX0_endRound 71 = .ok (.getfield 37, 3) := by decide +kernel
theorem dX0_endRound_74 : decode cX0_endRound 74 = .ok (.aload_n 0, 1) := by decide +kernel
theorem dX0_endRound_75 : decode cX0_endRound 75 = .ok (.getfield 28, 3) := by decide +kernel
theorem dX0_endRound_78 : decode cX0_endRound 78 = .ok (.if_icmp .lt 7, 3) := by decide +kernel
theorem dX0_endRound_81 : decode cX0_endRound 81 = .ok (.iconst 1, 1) := by decide +kernel
theorem dX0_endRound_82 : decode cX0_endRound 82 = .ok (.goto 4, 3) := by decide +kernel
theorem dX0_endRound_85 : decode cX0_endRound 85 = .ok (.iconst 0, 1) := by decide +kernel
theorem dX0_endRound_86 : decode cX0_endRound 86 = .ok (.putfield 40, 3) := by decide +kernel
theorem dX0_endRound_89 : decode cX0_endRound 89 = .ok (.iload_n 1, 1) := by decide +kernel
theorem dX0_endRound_90 : decode cX0_endRound 90 = .ok (.iconst (-1), 1) := by decide +kernel
theorem dX0_endRound_91 : decode cX0_endRound 91 = .ok (.if_icmp .eq 7, 3) := by decide +kernel
theorem dX0_endRound_94 : decode cX0_endRound 94 = .ok (.iconst 1, 1) := by decide +kernel
theorem dX0_endRound_95 : decode cX0_endRound 95 = .ok (.goto 4, 3) := by decide +kernel
theorem dX0_endRound_98 : decode cX0_endRound 98 = .ok (.iconst 0, 1) := by decide +kernel
theorem dX0_endRound_99 : decode cX0_endRound 99 = .ok (.ireturn, 1) := by decide +kernel
theorem dX0_findWinner_0 : decode cX0_findWinner 0 = .ok (.iconst 0, 1) := by decide +kernel
theorem dX0_findWinner_1 : decode cX0_findWinner 1 = .ok (.istore_n 1, 1) := by decide +kernel
theorem dX0_findWinner_2 : decode cX0_findWinner 2 = .ok (.iload_n 1, 1) := by decide +kernel
theorem dX0_findWinner_3 : decode cX0_findWinner 3 = .ok (.aload_n 0, 1) := by decide +kernel
theorem dX0_findWinner_4 : decode cX0_findWinner 4 = .ok (.getfield 25, 3) := by decide +kernel
theorem dX0_findWinner_7 : decode cX0_findWinner 7 = .ok (.if_icmp .ge 24, 3) := by decide +kernel
theorem dX0_findWinner_10 : decode cX0_findWinner 10 = .ok (.aload_n 0, 1) := by decide +kernel
theorem dX0_findWinner_11 : decode cX0_findWinner 11 = .ok (.getfield 15, 3) := by decide +kernel
theorem dX0_findWinner_14 : decode cX0_findWinner 14 = .ok (.iload_n 1, 1) := by decide +kernel
theorem dX0_findWinner_15 : decode cX0_findWinner 15 = .ok (.iaload, 1) := by decide +kernel
theorem dX0_findWinner_16 : decode cX0_findWinner 16 = .ok (.aload_n 0, 1) := by decide +kernel
theorem dX0_findWinner_17 : decode cX0_findWinner 17 = .ok (.getfield 9, 3) := by decide +kernel
theorem dX0_findWinner_20 : decode cX0_findWinner 20 = .ok (.if_icmp .lt 5, 3) := by decide +kernel
theorem dX0_findWinner_23 : decode cX0_findWinner 23 = .ok (.iload_n 1, 1) := by decide +kernel
theorem dX0_findWinner_24 : decode cX0_findWinner 24 = .ok (.ireturn, 1) := by decide +kernel
theorem dX0_findWinner_25 : decode cX0_findWinner 25 = .ok (.iinc 1 1, 3) := by decide +kernel
theorem dX0_findWinner_28 : decode cX0_findWinner 28 = .ok (.goto (-26), 3) := by decide +kernel
theorem dX0_findWinner_31 : decode cX0_findWinner 31 = .ok (.iconst (-1), 1) := by decide +kernel
theorem dX0_findWinner_32 : decode cX0_findWinner 32 = .ok (.ireturn, 1) := by decide +kernel
theorem dX0_clearVotes_0 : decode cX0_clearVotes 0 = .ok (.aload_n 0, 1) := by decide +kernel
theorem dX0_clearVotes_1 : decode cX0_clearVotes 1 = .ok (.getfield 15, 3) := by decide +kernel
theorem dX0_clearVotes_4 : decode cX0_clearVotes 4 = .ok (.iconst 0, 1) := by decide +kernel
theorem dX0_clearVotes_5 : decode cX0_clearVotes 5 = .ok (.invokestatic 44, 3) := by decide +kernel
theorem dX0_clearVotes_8 : decode cX0_clearVotes 8 = .ok (.aload_n 0, 1) := by decide +kernel
theorem dX0_clearVotes_9 : decode cX0_clearVotes 9 = .ok (.iconst 0, 1) := by decide +kernel
theorem dX0_clearVotes_10 : decode cX0_clearVotes 10 = .ok (.putfield 57, 3) := by decide +kernel
theorem dX0_clearVotes_13 : decode cX0_clearVotes 13 = .ok (.return_, 1) := by decide +kernel
theorem dX0_followAny_0 : decode cX0_followAny 0 = .ok (.iload_n 1, 1) := by decide +kernel
theorem dX0_followAny_1 : decode cX0_followAny 1 = .ok (.iconst (-1), 1) := by decide +kernel
theorem dX0_followAny_2 : decode cX0_followAny 2 = .ok (.if_icmp .eq 18, 3) := by decide +kernel
theorem dX0_followAny_5 : decode cX0_followAny 5 = .ok (.aload_n 0, 1) := by decide +kernel
theorem dX0_followAny_6 : decode cX0_followAny 6 = .ok (.iload_n 1, 1) := by decide +kernel
theorem dX0_followAny_7 : decode cX0_followAny 7 = .ok (.putfield 31, 3) := by decide +kernel
theorem dX0_followAny_10 : decode cX0_followAny 10 = .ok (.aload_n 0, 1) := by decide +kernel
theorem dX0_followAny_11 : decode cX0_followAny 11 = .ok (.dup, 1) := by decide +kernel
theorem dX0_followAny_12 : decode cX0_followAny 12 = .ok (.getfield 37, 3) := by decide +kernel
theorem dX0_followAny_15 : decode cX0_followAny 15 = .ok (.iconst 1, 1) := by decide +kernel
theorem dX0_followAny_16 : decode cX0_followAny 16 = .ok (.iadd, 1) := by decide +kernel
theorem dX0_followAny_17 : decode cX0_followAny 17 = .ok (.putfield 37, 3) := by decide +kernel
theorem dX0_followAny_20 : decode cX0_followAny 20 = .ok (.return_, 1) := by decide +kernel
theorem dX0_followRow_0 : decode cX0_followRow 0 = .ok (.iload_n 1, 1) := by decide +kernel
theorem dX0_followRow_1 : decode cX0_followRow 1 = .ok (.iconst (-1), 1) := by decide +kernel
theorem dX0_followRow_2 : decode cX0_followRow 2 = .ok (.if_icmp .ne 11, 3) := by decide +kernel
theorem dX0_followRow_5 : decode cX0_followRow 5 = .ok (.aload_n 0, 1) := by decide +kernel
theorem dX0_followRow_6 : decode cX0_followRow 6 = .ok (.iconst 0, 1) := by decide +kernel
theorem dX0_followRow_7 : decode cX0_followRow 7 = .ok (.putfield 37, 3) := by decide +kernel
theorem dX0_followRow_10 : decode cX0_followRow 10 = .ok (.goto 30, 3) := by decide +kernel
theorem dX0_followRow_13 : decode cX0_followRow 13 = .ok (.aload_n 0, 1) := by decide +kernel
theorem dX0_followRow_14 : decode cX0_followRow 14 = .ok (.iload_n 1, 1) := by decide +kernel
theorem dX0_followRow_15 : decode cX0_followRow 15 = .ok (.aload_n 0, 1) := by decide +kernel
theorem dX0_followRow_16 : decode cX0_followRow 16 = .ok (.getfield 31, 3) := by decide +kernel
theorem dX0_followRow_19 : decode cX0_followRow 19 = .ok (.if_icmp .ne 12, 3) := by decide +kernel
theorem dX0_followRow_22 : decode cX0_followRow 22 = .ok (.aload_n 0, 1) := by decide +kernel
theorem dX0_followRow_23 : decode cX0_followRow 23 = .ok (.getfield 37, 3) := by decide +kernel
theorem dX0_followRow_26 : decode cX0_followRow 26 = .ok (.iconst 1, 1) := by decide +kernel
theorem dX0_followRow_27 : decode cX0_followRow 27 = .ok (.iadd, 1) := by decide +kernel
theorem dX0_followRow_28 : decode cX0_followRow 28 = .ok (.goto 4, 3) := by decide +kernel
theorem dX0_followRow_31 : decode cX0_followRow 31 = .ok (.iconst 1, 1) := by decide +kernel
theorem dX0_followRow_32 : decode cX0_followRow 32 = .ok (.putfield 37, 3) := by decide +kernel
theorem dX0_followRow_35 : decode cX0_followRow 35 = .ok (.aload_n 0, 1) := by decide +kernel
theorem dX0_followRow_36 : decode cX0_followRow 36 = .ok (.iload_n 1, 1) := by decide +kernel
theorem dX0_followRow_37 : decode cX0_followRow 37 = .ok (.putfield 31, 3) := by decide +kernel
theorem dX0_followRow_40 : decode cX0_followRow 40 = .ok (.return_, 1) := by decide +kernel
theorem dX0_followWeight_0 : decode cX0_followWeight 0 = .ok (.iload_n 1, 1) := by decide +kernel
theorem dX0_followWeight_1 : decode cX0_followWeight 1 = .ok (.iconst (-1), 1) := by decide +kernel
theorem dX0_followWeight_2 : decode cX0_followWeight 2 = .ok (.if_icmp .ne 11, 3) := by decide +kernel
theorem dX0_followWeight_5 : decode cX0_followWeight 5 = .ok (.aload_n 0, 1) := by decide +kernel
theorem dX0_followWeight_6 : decode cX0_followWeight 6 = .ok (.iconst 0, 1) := by decide +kernel
theorem dX0_followWeight_7 : decode cX0_followWeight 7 = .ok (.putfield 37, 3) := by decide +kernel
theorem dX0_followWeight_10 : decode cX0_followWeight 10 = .ok (.goto 66, 3) := by decide +kernel
theorem dX0_followWeight_13 : decode cX0_followWeight 13 = .ok (.aload_n 0, 1) := by decide +kernel
theorem dX0_followWeight_14 : decode cX0_followWeight 14 = .ok (.getfield 19, 3) := by decide +kernel
theorem dX0_followWeight_17 : decode cX0_followWeight 17 = .ok (.iload_n 1, 1) := by decide +kernel
theorem dX0_followWeight_18 : decode cX0_followWeight 18 = .ok (.dup2, 1) := by decide +kernel
theorem dX0_followWeight_19 : decode cX0_followWeight 19 = .ok (.iaload, 1) := by decide +kernel
theorem dX0_followWeight_20 : decode cX0_followWeight 20 = .ok (.iconst 1, 1) := by decide +kernel
theorem dX0_followWeight_21 : decode cX0_followWeight 21 = .ok (.iadd, 1) := by decide +kernel
theorem dX0_followWeight_22 : decode cX0_followWeight 22 = .ok (.iastore, 1) := by decide +kernel
theorem dX0_followWeight_23 : decode cX0_followWeight 23 = .ok (.aload_n 0, 1) := by decide +kernel
theorem dX0_followWeight_24 : decode cX0_followWeight 24 = .ok (.getfield 31, 3) := by decide +kernel
theorem dX0_followWeight_27 : decode cX0_followWeight 27 = .ok (.iconst (-1), 1) := by decide +kernel
theorem dX0_followWeight_28 : decode cX0_followWeight 28 = .ok (.if_icmp .eq 21, 3) := by decide +kernel
theorem dX0_followWeight_31 : decode cX0_followWeight 31 = .ok (.aload_n 0, 1) := by decide +kernel
theorem dX0_followWeight_32 : decode cX0_followWeight 32 = .ok (.getfield 19, 3) := by decide +kernel
theorem dX0_followWeight_35 : decode cX0_followWeight 35 = .ok (.iload_n 1, 1) := by decide +kernel
theorem dX0_followWeight_36 : decode cX0_followWeight 36 = .ok (.iaload, 1) := by decide +kernel
theorem dX0_followWeight_37 : decode cX0_followWeight 37 = .ok (.aload_n 0, 1) := by decide +kernel
theorem dX0_followWeight_38 : decode cX0_followWeight 38 = .ok (.getfield 19, 3) := by decide +kernel
theorem dX0_followWeight_41 : decode cX0_followWeight 41 = .ok (.aload_n 0, 1) := by decide +kernel
theorem dX0_followWeight_42 : decode cX0_followWeight 42 = .ok (.getfield 31, 3) := by decide +kernel
theorem dX0_followWeight_45 : decode cX0_followWeight 45 = .ok (.iaload, 1) := by decide +kernel
theorem dX0_followWeight_46 : decode cX0_followWeight 46 = .ok (.if_icmp .le 8, 3) := by decide +kernel
theorem dX0_followWeight_49 : decode cX0_followWeight 49 = .ok (.aload_n 0, 1) := by decide +kernel
theorem dX0_followWeight_50 : decode cX0_followWeight 50 = .ok (.iload_n 1, 1) := by decide +kernel
theorem dX0_followWeight_51 : decode cX0_followWeight 51 = .ok (.putfield 31, 3) := by decide +kernel
theorem dX0_followWeight_54 : decode cX0_followWeight 54 = .ok (.aload_n 0, 1) := by decide +kernel
theorem dX0_followWeight_55 : decode cX0_followWeight 55 = .ok (.iload_n 1, 1) := by decide +kernel
theorem dX0_followWeight_56 : decode cX0_followWeight 56 = .ok (.aload_n 0, 1) := by decide +kernel
theorem dX0_followWeight_57 : decode cX0_followWeight 57 = .ok (.getfield 34, 3) := by decide +kernel
theorem dX0_followWeight_60 : decode cX0_followWeight 60 = .ok (.if_icmp .ne 12, 3) := by decide +kernel
theorem dX0_followWeight_63 : decode cX0_followWeight 63 = .ok (.aload_n 0, 1) := by decide +kernel
theorem dX0_followWeight_64 : decode cX0_followWeight 64 = .ok (.getfield 37, 3) := by decide +kernel
theorem dX0_followWeight_67 : decode cX0_followWeight 67 = .ok (.iconst 1, 1) := by decide +kernel
theorem dX0_followWeight_68 : decode cX0_followWeight 68 = .ok (.iadd, 1) := by decide +kernel
theorem dX0_followWeight_69 : decode cX0_followWeight 69 = .ok (.goto 4, 3) := by decide +kernel
theorem dX0_followWeight_72 : decode cX0_followWeight 72 = .ok (.iconst 1, 1) := by decide +kernel
theorem dX0_followWeight_73 : decode cX0_followWeight 73 = .ok (.putfield 37, 3) := by decide +kernel
theorem dX0_followWeight_76 : decode cX0_followWeight 76 = .ok (.aload_n 0, 1) := by decide +kernel
theorem dX0_followWeight_77 : decode cX0_followWeight 77 = .ok (.iload_n 1, 1) := by decide +kernel
theorem dX0_followWeight_78 : decode cX0_followWeight 78 = .ok (.putfield 34, 3) := by decide +kernel
theorem dX0_followWeight_81 : decode cX0_followWeight 81 = .ok (.return_, 1) := by decide +kernel
theorem dX1_init_0 : decode cX1_init 0 = .ok (.aload_n 0, 1) := by decide +kernel
theorem dX1_init_1 : decode cX1_init 1 = .ok (.invokespecial 1, 3) := by decide +kernel
theorem dX1_init_4 : decode cX1_init 4 = .ok (.aload_n 0, 1) := by decide +kernel
theorem dX1_init_5 : decode cX1_init 5 = .ok (.bipush 64, 2) := by decide +kernel
theorem dX1_init_7 : decode cX1_init 7 = .ok (.newarray .int, 2) := by decide +kernel
theorem dX1_init_9 : decode cX1_init 9 = .ok (.putfield 7, 3) := by decide +kernel
theorem dX1_init_12 : decode cX1_init 12 = .ok (.aload_n 0, 1) := by decide +kernel
theorem dX1_init_13 : decode cX1_init 13 = .ok (.bipush 8, 2) := by decide +kernel
theorem dX1_init_15 : decode cX1_init 15 = .ok (.newarray .int, 2) := by decide +kernel
theorem dX1_init_17 : decode cX1_init 17 = .ok (.putfield 13, 3) := by decide +kernel
theorem dX1_init_20 : decode cX1_init 20 = .ok (.return_, 1) := by decide +kernel
theorem dX1_idOf_0 : decode cX1_idOf 0 = .ok (.aload_n 1, 1) := by decide +kernel
theorem dX1_idOf_1 : decode cX1_idOf 1 = .ok (.arraylength, 1) := by decide +kernel
theorem dX1_idOf_2 : decode cX1_idOf 2 = .ok (.bipush 55, 2) := by decide +kernel
theorem dX1_idOf_4 : decode cX1_idOf 4 = .ok (.invokestatic 16, 3) := by decide +kernel
theorem dX1_idOf_7 : decode cX1_idOf 7 = .ok (.istore_n 2, 1) := by decide +kernel
theorem dX1_idOf_8 : decode cX1_idOf 8 = .ok (.aload_n 0, 1) := by decide +kernel
theorem dX1_idOf_9 : decode cX1_idOf 9 = .ok (.aload_n 1, 1) := by decide +kernel
theorem dX1_idOf_10 : decode cX1_idOf 10 = .ok (.iload_n 2, 1) := by decide +kernel
theorem dX1_idOf_11 : decode cX1_idOf 11 = .ok (.invokevirtual 22, 3) := by decide +kernel
theorem dX1_idOf_14 : decode cX1_idOf 14 = .ok (.aload_n 0, 1) := by decide +kernel
theorem dX1_idOf_15 : decode cX1_idOf 15 = .ok (.invokevirtual 26, 3) := by decide +kernel
theorem dX1_idOf_18 : decode cX1_idOf 18 = .ok (.getstatic 29, 3) := by decide +kernel
theorem dX1_idOf_21 : decode cX1_idOf 21 = .ok (.iconst 0, 1) := by decide +kernel
theorem dX1_idOf_22 : decode cX1_idOf 22 = .ok (.aload_n 0, 1) := by decide +kernel
theorem dX1_idOf_23 : decode cX1_idOf 23 = .ok (.getfield 13, 3) := by decide +kernel
theorem dX1_idOf_26 : decode cX1_idOf 26 = .ok (.iconst 0, 1) := by decide +kernel
theorem dX1_idOf_27 : decode cX1_idOf 27 = .ok (.bipush 8, 2) := by decide +kernel
theorem dX1_idOf_29 : decode cX1_idOf 29 = .ok (.invokestatic 32, 3) := by decide +kernel
theorem dX1_idOf_32 : decode cX1_idOf 32 = .ok (.iconst 0, 1) := by decide +kernel
theorem dX1_idOf_33 : decode cX1_idOf 33 = .ok (.istore_n 3, 1) := by decide +kernel
theorem dX1_idOf_34 : decode cX1_idOf 34 = .ok (.iload_n 3, 1) := by decide +kernel
theorem dX1_idOf_35 : decode cX1_idOf 35 = .ok (.bipush 64, 2) := by decide +kernel
theorem dX1_idOf_37 : decode cX1_idOf 37 = .ok (.if_icmp .ge 25, 3) := by decide +kernel
theorem dX1_idOf_40 : decode cX1_idOf 40 = .ok (.aload_n 0, 1) := by decide +kernel
theorem dX1_idOf_41 : decode cX1_idOf 41 = .ok (.getstatic 38, 3) := by decide +kernel
theorem dX1_idOf_44 : decode cX1_idOf 44 = .ok (.iload_n 3, 1) := by decide +kernel
theorem dX1_idOf_45 : decode cX1_idOf 45 = .ok (.iaload, 1) := by decide +kernel
theorem dX1_idOf_46 : decode cX1_idOf 46 = .ok (.aload_n 0, 1) := by decide +kernel
theorem dX1_idOf_47 : decode cX1_idOf 47 = .ok (.getfield 7, 3) := by decide +kernel
theorem dX1_idOf_50 : decode cX1_idOf 50 = .ok (.iload_n 3, 1) := by decide +kernel
theorem dX1_idOf_51 : decode cX1_idOf 51 = .ok (.iaload, 1) := by decide +kernel
theorem dX1_idOf_52 : decode cX1_idOf 52 = .ok (.iadd, 1) := by decide +kernel
theorem dX1_idOf_53 : decode cX1_idOf 53 = .ok (.invokevirtual 41, 3) := by decide +kernel
theorem dX1_idOf_56 : decode cX1_idOf 56 = .ok (.iinc 3 1, 3) := by decide +kernel
theorem dX1_idOf_59 : decode cX1_idOf 59 = .ok (.goto (-25), 3) := by decide +kernel
theorem dX1_idOf_62 : decode cX1_idOf 62 = .ok (.getstatic 29, 3) := by decide +kernel
theorem dX1_idOf_65 : decode cX1_idOf 65 = .ok (.iconst 0, 1) := by decide +kernel
theorem dX1_idOf_66 : decode cX1_idOf 66 = .ok (.iaload, 1) := by decide +kernel
theorem dX1_idOf_67 : decode cX1_idOf 67 = .ok (.aload_n 0, 1) := by decide +kernel
theorem dX1_idOf_68 : decode cX1_idOf 68 = .ok (.getfield 13, 3) := by decide +kernel
theorem dX1_idOf_71 : decode cX1_idOf 71 = .ok (.iconst 0, 1) := by decide +kernel
theorem dX1_idOf_72 : decode cX1_idOf 72 = .ok (.iaload, 1) := by decide +kernel
theorem dX1_idOf_73 : decode cX1_idOf 73 = .ok (.iadd, 1) := by decide +kernel
theorem dX1_idOf_74 : decode cX1_idOf 74 = .ok (.ldc 45, 2) := by decide +kernel
theorem dX1_idOf_76 : decode cX1_idOf 76 = .ok (.iand, 1) := by decide +kernel
theorem dX1_idOf_77 : decode cX1_idOf 77 = .ok (.ireturn, 1) := by decide +kernel
theorem dX1_fillBlock_0 : decode cX1_fillBlock 0 = .ok (.aload_n 0, 1) := by decide +kernel
theorem dX1_fillBlock_1 : decode cX1_fillBlock 1 = .ok (.getfield 7, 3) := by decide +kernel
theorem dX1_fillBlock_4 : decode cX1_fillBlock 4 = .ok (.iconst 0, 1) := by decide +kernel
theorem dX1_fillBlock_5 : decode cX1_fillBlock 5 = .ok (.invokestatic 46, 3) := by decide +kernel
theorem dX1_fillBlock_8 : decode cX1_fillBlock 8 = .ok (.iconst 0, 1) := by decide +kernel
theorem dX1_fillBlock_9 : decode cX1_fillBlock 9 = .ok (.istore_n 3, 1) := by decide +kernel
theorem dX1_fillBlock_10 : decode cX1_fillBlock 10 = .ok (.iload_n 3, 1) := by decide +kernel
theorem dX1_fillBlock_11 : decode cX1_fillBlock 11 = .ok (.iload_n 2, 1) := by decide +kernel
theorem dX1_fillBlock_12 : decode cX1_fillBlock 12 = .ok (.if_icmp .ge 37, 3) := by decide +kernel
theorem dX1_fillBlock_15 : decode cX1_fillBlock 15 = .ok (.aload_n 0, 1) := by decide +kernel
theorem dX1_fillBlock_16 : decode cX1_fillBlock 16 = .ok (.getfield 7, 3) := by decide +kernel
theorem dX1_fillBlock_19 : decode cX1_fillBlock 19 = .ok (.iload_n 3, 1) := by decide +kernel
theorem dX1_fillBlock_20 : decode cX1_fillBlock 20 = .ok (.iconst 2, 1) := by decide +kernel
theorem dX1_fillBlock_21 : decode cX1_fillBlock 21 = .ok (.ishr, 1) := by decide +kernel
theorem dX1_fillBlock_22 : decode cX1_fillBlock 22 = .ok (.dup2, 1) := by decide +kernel
theorem dX1_fillBlock_23 : decode cX1_fillBlock 23 = .ok (.iaload, 1) := by decide +kernel
theorem dX1_fillBlock_24 : decode cX1_fillBlock 24 = .ok (.aload_n 1, 1) := by decide +kernel
theorem dX1_fillBlock_25 : decode cX1_fillBlock 25 = .ok (.iload_n 3, 1) := by decide +kernel
theorem dX1_fillBlock_26 : decode cX1_fillBlock 26 = .ok (.baload, 1) := by decide +kernel
theorem dX1_fillBlock_27 : decode cX1_fillBlock 27 = .ok (.sipush 255, 3) := by decide +kernel
theorem dX1_fillBlock_30 : decode cX1_fillBlock 30 = .ok (.iand, 1) := by decide +kernel
theorem dX1_fillBlock_31 : decode cX1_fillBlock 31 = .ok (.bipush 24, 2) := by decide +kernel
theorem dX1_fillBlock_33 : decode cX1_fillBlock 33 = .ok (.bipush 8, 2) := by decide +kernel
theorem dX1_fillBlock_35 : decode cX1_fillBlock 35 = .ok (.iload_n 3, 1) := by decide +kernel
theorem dX1_fillBlock_36 : decode cX1_fillBlock 36 = .ok (.iconst 3, 1) := by decide +kernel
theorem dX1_fillBlock_37 : decode cX1_fillBlock 37 = .ok (.iand, 1) := by decide +kernel
theorem dX1_fillBlock_38 : decode cX1_fillBlock 38 = .ok (.imul, 1) := by decide +kernel
theorem dX1_fillBlock_39 : decode cX1_fillBlock 39 = .ok (.isub, 1) := by decide +kernel
theorem dX1_fillBlock_40 : decode cX1_fillBlock 40 = .ok (.ishl, 1) := by decide +kernel
theorem dX1_fillBlock_41 : decode cX1_fillBlock 41 = .ok (.ior, 1) := by decide +kernel
theorem dX1_fillBlock_42 : decode cX1_fillBlock 42 = .ok (.iastore, 1) := by decide +kernel
theorem dX1_fillBlock_43 : decode cX1_fillBlock 43 = .ok (.iinc 3 1, 3) := by decide +kernel
theorem dX1_fillBlock_46 : decode cX1_fillBlock 46 = .ok (.goto (-36), 3) := by decide +kernel
theorem dX1_fillBlock_49 : decode cX1_fillBlock 49 = .ok (.aload_n 0, 1) := by decide +kernel
theorem dX1_fillBlock_50 : decode cX1_fillBlock 50 = .ok (.getfield 7, 3) := by decide +kernel
theorem dX1_fillBlock_53 : decode cX1_fillBlock 53 = .ok (.iload_n 2, 1) := by decide +kernel
theorem dX1_fillBlock_54 : decode cX1_fillBlock 54 = .ok (.iconst 2, 1) := by decide +kernel
theorem dX1_fillBlock_55 : decode cX1_fillBlock 55 = .ok (.ishr, 1) := by decide +kernel
theorem dX1_fillBlock_56 : decode cX1_fillBlock 56 = .ok (.dup2, 1) := by decide +kernel
theorem dX1_fillBlock_57 : decode cX1_fillBlock 57 = .ok (.iaload, 1) := by decide +kernel
theorem dX1_fillBlock_58 : decode cX1_fillBlock 58 = .ok (.sipush 128, 3) := by decide +kernel
theorem dX1_fillBlock_61 : decode cX1_fillBlock 61 = .ok (.bipush 24, 2) := by decide +kernel
theorem dX1_fillBlock_63 : decode cX1_fillBlock 63 = .ok (.bipush 8, 2) := by decide +kernel
theorem dX1_fillBlock_65 : decode cX1_fillBlock 65 = .ok (.iload_n 2, 1) := by decide +kernel
theorem dX1_fillBlock_66 : decode cX1_fillBlock 66 = .ok (.iconst 3, 1) := by decide +kernel
theorem dX1_fillBlock_67 : decode cX1_fillBlock 67 = .ok (.iand, 1) := by decide +kernel
theorem dX1_fillBlock_68 : decode cX1_fillBlock 68 = .ok (.imul, 1) := by decide +kernel
theorem dX1_fillBlock_69 : decode cX1_fillBlock 69 = .ok (.isub, 1) := by decide +kernel
theorem dX1_fillBlock_70 : decode cX1_fillBlock 70 = .ok (.ishl, 1) := by decide +kernel
theorem dX1_fillBlock_71 : decode cX1_fillBlock 71 = .ok (.ior, 1) := by decide +kernel
theorem dX1_fillBlock_72 : decode cX1_fillBlock 72 = .ok (.iastore, 1) := by decide +kernel
theorem dX1_fillBlock_73 : decode cX1_fillBlock 73 = .ok (.aload_n 0, 1) := by decide +kernel
theorem dX1_fillBlock_74 : decode cX1_fillBlock 74 = .ok (.getfield 7, 3) := by decide +kernel
theorem dX1_fillBlock_77 : decode cX1_fillBlock 77 = .ok (.bipush 15, 2) := by decide +kernel
theorem dX1_fillBlock_79 : decode cX1_fillBlock 79 = .ok (.bipush 8, 2) := by decide +kernel
theorem dX1_fillBlock_81 : decode cX1_fillBlock 81 = .ok (.iload_n 2, 1) := by decide +kernel
theorem dX1_fillBlock_82 : decode cX1_fillBlock 82 = .ok (.imul, 1) := by decide +kernel
theorem dX1_fillBlock_83 : decode cX1_fillBlock 83 = .ok (.iastore, 1) := by decide +kernel
theorem dX1_fillBlock_84 : decode cX1_fillBlock 84 = .ok (.return_, 1) := by decide +kernel
theorem dX1_rotate_0 : decode cX1_rotate 0 = .ok (.iload_n 0, 1) := by decide +kernel
theorem dX1_rotate_1 : decode cX1_rotate 1 = .ok (.iload_n 1, 1) := by decide +kernel
theorem dX1_rotate_2 : decode cX1_rotate 2 = .ok (.iushr, 1) := by decide +kernel
theorem dX1_rotate_3 : decode cX1_rotate 3 = .ok (.iload_n 0, 1) := by decide +kernel
theorem dX1_rotate_4 : decode cX1_rotate 4 = .ok (.bipush 32, 2) := by decide +kernel
theorem dX1_rotate_6 : decode cX1_rotate 6 = .ok (.iload_n 1, 1) := by decide +kernel
theorem dX1_rotate_7 : decode cX1_rotate 7 = .ok (.isub, 1) := by decide +kernel
theorem dX1_rotate_8 : decode cX1_rotate 8 = .ok (.ishl, 1) := by decide +kernel
theorem dX1_rotate_9 : decode cX1_rotate 9 = .ok (.ior, 1) := by decide +kernel
theorem dX1_rotate_10 : decode cX1_rotate 10 = .ok (.ireturn, 1) := by decide +kernel
theorem dX1_spreadBlock_0 : decode cX1_spreadBlock 0 = .ok (.bipush 16, 2) := by decide +kernel
theorem dX1_spreadBlock_2 : decode cX1_spreadBlock 2 = .ok (.istore_n 1, 1) := by decide +kernel
theorem dX1_spreadBlock_3 : decode cX1_spreadBlock 3 = .ok (.iload_n 1, 1) := by decide +kernel
theorem dX1_spreadBlock_4 : decode cX1_spreadBlock 4 = .ok (.bipush 64, 2) := by decide +kernel
theorem dX1_spreadBlock_6 : decode cX1_spreadBlock 6 = .ok (.if_icmp .ge 98, 3) := by decide +kernel
theorem dX1_spreadBlock_9 : decode cX1_spreadBlock 9 = .ok (.aload_n 0, 1) := by decide +kernel
theorem dX1_spreadBlock_10 : decode cX1_spreadBlock 10 = .ok (.getfield 7, 3) := by decide +kernel
theorem dX1_spreadBlock_13 : decode cX1_spreadBlock 13 = .ok (.iload_n 1, 1) := by decide +kernel
theorem dX1_spreadBlock_14 : decode cX1_spreadBlock 14 = .ok (.bipush 15, 2) := by decide +kernel
theorem dX1_spreadBlock_16 : decode cX1_spreadBlock 16 = .ok (.isub, 1) := by decide +kernel
theorem dX1_spreadBlock_17 : decode cX1_spreadBlock 17 = .ok (.iaload, 1) := by decide +kernel
theorem dX1_spreadBlock_18 : decode cX1_spreadBlock 18 = .ok (.istore_n 2, 1) := by decide +kernel
theorem dX1_spreadBlock_19 : decode cX1_spreadBlock 19 = .ok (.aload_n 0, 1) := by decide +kernel
theorem dX1_spreadBlock_20 : decode cX1_spreadBlock 20 = .ok (.getfield 7, 3) := by decide +kernel
theorem dX1_spreadBlock_23 : decode cX1_spreadBlock 23 = .ok (.iload_n 1, 1) := by decide +kernel
theorem dX1_spreadBlock_24 : decode cX1_spreadBlock 24 = .ok (.iconst 2, 1) := by decide +kernel
theorem dX1_spreadBlock_25 : decode cX1_spreadBlock 25 = .ok (.isub, 1) := by decide +kernel
theorem dX1_spreadBlock_26 : decode cX1_spreadBlock 26 = .ok (.iaload, 1) := by decide +kernel
theorem dX1_spreadBlock_27 : decode cX1_spreadBlock 27 = .ok (.istore_n 3, 1) := by decide +kernel
theorem dX1_spreadBlock_28 : decode cX1_spreadBlock 28 = .ok (.iload_n 2, 1) := by decide +kernel
theorem dX1_spreadBlock_29 : decode cX1_spreadBlock 29 = .ok (.bipush 7, 2) := by decide +kernel
theorem dX1_spreadBlock_31 : decode cX1_spreadBlock 31 = .ok (.invokestatic 52, 3) := by decide +kernel
theorem dX1_spreadBlock_34 : decode cX1_spreadBlock 34 = .ok (.iload_n 2, 1) := by decide +kernel
theorem dX1_spreadBlock_35 : decode cX1_spreadBlock 35 = .ok (.bipush 18, 2) := by decide +kernel
theorem dX1_spreadBlock_37 : decode cX1_spreadBlock 37 = .ok (.invokestatic 52, 3) := by decide +kernel
theorem dX1_spreadBlock_40 : decode cX1_spreadBlock 40 = .ok (.ixor, 1) := by decide +kernel
theorem dX1_spreadBlock_41 : decode cX1_spreadBlock 41 = .ok (.iload_n 2, 1) := by decide +kernel
theorem dX1_spreadBlock_42 : decode cX1_spreadBlock 42 = .ok (.iconst 3, 1) := by decide +kernel
theorem dX1_spreadBlock_43 : decode cX1_spreadBlock 43 = .ok (.iushr, 1) := by decide +kernel
theorem dX1_spreadBlock_44 : decode cX1_spreadBlock 44 = .ok (.ixor, 1) := by decide +kernel
theorem dX1_spreadBlock_45 : decode cX1_spreadBlock 45 = .ok (.istore 4, 2) := by decide +kernel
theorem dX1_spreadBlock_47 : decode cX1_spreadBlock 47 = .ok (.iload_n 3, 1) := by decide +kernel
theorem dX1_spreadBlock_48 : decode cX1_spreadBlock 48 = .ok (.bipush 17, 2) := by decide +kernel
theorem dX1_spreadBlock_50 : decode cX1_spreadBlock 50 = .ok (.invokestatic 52, 3) := by decide +kernel
theorem dX1_spreadBlock_53 : decode cX1_spreadBlock 53 = .ok (.iload_n 3, 1) := by decide +kernel
theorem dX1_spreadBlock_54 : decode cX1_spreadBlock 54 = .ok (.bipush 19, 2) := by decide +kernel
theorem dX1_spreadBlock_56 : decode cX1_spreadBlock 56 = .ok (.invokestatic 52, 3) := by decide +kernel
theorem dX1_spreadBlock_59 : decode cX1_spreadBlock 59 = .ok (.ixor, 1) := by decide +kernel
theorem dX1_spreadBlock_60 : decode cX1_spreadBlock 60 = .ok (.iload_n 3, 1) := by decide +kernel
theorem dX1_spreadBlock_61 : decode cX1_spreadBlock 61 = .ok (.bipush 10, 2) := by decide +kernel
theorem dX1_spreadBlock_63 : decode cX1_spreadBlock 63 = .ok (.iushr, 1) := by decide +kernel
theorem dX1_spreadBlock_64 : decode cX1_spreadBlock 64 = .ok (.ixor, 1) := by decide +kernel
theorem dX1_spreadBlock_65 : decode cX1_spreadBlock 65 = .ok (.istore 5, 2) := by decide +kernel
theorem dX1_spreadBlock_67 : decode cX1_spreadBlock 67 = .ok (.aload_n 0, 1) := by decide +kernel
theorem dX1_spreadBlock_68 : decode cX1_spreadBlock 68 = .ok (.getfield 7, 3) := by decide +kernel
theorem dX1_spreadBlock_71 : decode cX1_spreadBlock 71 = .ok (.iload_n 1, 1) := by decide +kernel
theorem dX1_spreadBlock_72 : decode cX1_spreadBlock 72 = .ok (.aload_n 0, 1) := by decide +kernel
theorem dX1_spreadBlock_73 : decode cX1_spreadBlock 73 = .ok (.getfield 7, 3) := by decide +kernel
theorem dX1_spreadBlock_76 : decode cX1_spreadBlock 76 = .ok (.iload_n 1, 1) := by decide +kernel
theorem dX1_spreadBlock_77 : decode cX1_spreadBlock 77 = .ok (.bipush 16, 2) := by decide +kernel
theorem dX1_spreadBlock_79 : decode cX1_spreadBlock 79 = .ok (.isub, 1) := by decide +kernel
theorem dX1_spreadBlock_80 : decode cX1_spreadBlock 80 = .ok (.iaload, 1) := by decide +kernel
theorem dX1_spreadBlock_81 : decode cX1_spreadBlock 81 = .ok (.iload 4, 2) := by decide +kernel
theorem dX1_spreadBlock_83 : decode cX1_spreadBlock 83 = .ok (.iadd, 1) := by decide +kernel
theorem dX1_spreadBlock_84 : decode cX1_spreadBlock 84 = .ok (.aload_n 0, 1) := by decide +kernel
theorem dX1_spreadBlock_85 : decode cX1_spreadBlock 85 = .ok (.getfield 7, 3) := by decide +kernel
theorem dX1_spreadBlock_88 : decode cX1_spreadBlock 88 = .ok (.iload_n 1, 1) := by decide +kernel
theorem dX1_spreadBlock_89 : decode cX1_spreadBlock 89 = .ok (.bipush 7, 2) := by decide +kernel
theorem dX1_spreadBlock_91 : decode cX1_spreadBlock 91 = .ok (.isub, 1) := by decide +kernel
theorem dX1_spreadBlock_92 : decode cX1_spreadBlock 92 = .ok (.iaload, 1) := by decide +kernel
theorem dX1_spreadBlock_93 : decode cX1_spreadBlock 93 = .ok (.iadd, 1) := by decide +kernel
theorem dX1_spreadBlock_94 : decode cX1_spreadBlock 94 = .ok (.iload 5, 2) := by decide +kernel
theorem dX1_spreadBlock_96 : decode cX1_spreadBlock 96 = .ok (.iadd, 1) := by decide +kernel
theorem dX1_spreadBlock_97 : decode cX1_spreadBlock 97 = .ok (.iastore, 1) := by decide +kernel
theorem dX1_spreadBlock_98 : decode cX1_spreadBlock 98 = .ok (.iinc 1 1, 3) := by decide +kernel
theorem dX1_spreadBlock_101 : decode cX1_spreadBlock 101 = .ok (.goto (-98), 3) := by decide +kernel
theorem dX1_spreadBlock_104 : decode cX1_spreadBlock 104 = .ok (.return_, 1) := by decide +kernel
theorem dX1_turn_0 : decode cX1_turn 0 = .ok (.aload_n 0, 1) := by decide +kernel
theorem dX1_turn_1 : decode cX1_turn 1 = .ok (.getfield 13, 3) := by decide +kernel
theorem dX1_turn_4 : decode cX1_turn 4 = .ok (.iconst 0, 1) := by decide +kernel
theorem dX1_turn_5 : decode cX1_turn 5 = .ok (.iaload, 1) := by decide +kernel
theorem dX1_turn_6 : decode cX1_turn 6 = .ok (.istore_n 2, 1) := by decide +kernel
theorem dX1_turn_7 : decode cX1_turn 7 = .ok (.aload_n 0, 1) := by decide +kernel
theorem dX1_turn_8 : decode cX1_turn 8 = .ok (.getfield 13, 3) := by decide +kernel
theorem dX1_turn_11 : decode cX1_turn 11 = .ok (.iconst 4, 1) := by decide +kernel
theorem dX1_turn_12 : decode cX1_turn 12 = .ok (.iaload, 1) := by decide +kernel
theorem dX1_turn_13 : decode cX1_turn 13 = .ok (.istore_n 3, 1) := by decide +kernel
theorem dX1_turn_14 : decode cX1_turn 14 = .ok (.iload_n 3, 1) := by decide +kernel
theorem dX1_turn_15 : decode cX1_turn 15 = .ok (.aload_n 0, 1) := by decide +kernel
theorem dX1_turn_16 : decode cX1_turn 16 = .ok (.getfield 13, 3) := by decide +kernel
theorem dX1_turn_19 : decode cX1_turn 19 = .ok (.iconst 5, 1) := by decide +kernel
theorem dX1_turn_20 : decode cX1_turn 20 = .ok (.iaload, 1) := by decide +kernel
theorem dX1_turn_21 : decode cX1_turn 21 = .ok (.iand, 1) := by decide +kernel
theorem dX1_turn_22 : decode cX1_turn 22 = .ok (.iload_n 3, 1) := by decide +kernel
theorem dX1_turn_23 : decode cX1_turn 23 = .ok (.iconst (-1), 1) := by decide +kernel
theorem dX1_turn_24 : decode cX1_turn 24 = .ok (.ixor, 1) := by decide +kernel
theorem dX1_turn_25 : decode cX1_turn 25 = .ok (.aload_n 0, 1) := by decide +kernel
theorem dX1_turn_26 : decode cX1_turn 26 = .ok (.getfield 13, 3) := by decide +kernel
theorem dX1_turn_29 : decode cX1_turn 29 = .ok (.bipush 6, 2) := by decide +kernel
theorem dX1_turn_31 : decode cX1_turn 31 = .ok (.iaload, 1) := by decide +kernel
theorem dX1_turn_32 : decode cX1_turn 32 = .ok (.iand, 1) := by decide +kernel
theorem dX1_turn_33 : decode cX1_turn 33 = .ok (.ixor, 1) := by decide +kernel
theorem dX1_turn_34 : decode cX1_turn 34 = .ok (.istore 4, 2) := by decide +kernel
theorem dX1_turn_36 : decode cX1_turn 36 = .ok (.iload_n 2, 1) := by decide +kernel
theorem dX1_turn_37 : decode cX1_turn 37 = .ok (.aload_n 0, 1) := by decide +kernel
theorem dX1_turn_38 : decode cX1_turn 38 = .ok (.getfield 13, 3) := by decide +kernel
theorem dX1_turn_41 : decode cX1_turn 41 = .ok (.iconst 1, 1) := by decide +kernel
theorem dX1_turn_42 : decode cX1_turn 42 = .ok (.iaload, 1) := by decide +kernel
theorem dX1_turn_43 : decode cX1_turn 43 = .ok (.iand, 1) := by decide +kernel
theorem dX1_turn_44 : decode cX1_turn 44 = .ok (.iload_n 2, 1) := by decide +kernel
theorem dX1_turn_45 : decode cX1_turn 45 = .ok (.aload_n 0, 1) := by decide +kernel
theorem dX1_turn_46 : decode cX1_turn 46 = .ok (.getfield 13, 3) := by decide +kernel
theorem dX1_turn_49 : decode cX1_turn 49 = .ok (.iconst 2, 1) := by decide +kernel
theorem dX1_turn_50 : decode cX1_turn 50 = .ok (.iaload, 1) := by decide +kernel
theorem dX1_turn_51 : decode cX1_turn 51 = .ok (.iand, 1) := by decide +kernel
theorem dX1_turn_52 : decode cX1_turn 52 = .ok (.ixor, 1) := by decide +kernel
theorem dX1_turn_53 : decode cX1_turn 53 = .ok (.aload_n 0, 1) := by decide +kernel
theorem dX1_turn_54 : decode cX1_turn 54 = .ok (.getfield 13, 3) := by decide +kernel
theorem dX1_turn_57 : decode cX1_turn 57 = .ok (.iconst 1, 1) := by decide +kernel
theorem dX1_turn_58 : decode cX1_turn 58 = .ok (.iaload, 1) := by decide +kernel
theorem dX1_turn_59 : decode cX1_turn 59 = .ok (.aload_n 0, 1) := by decide +kernel
theorem dX1_turn_60 : decode cX1_turn 60 = .ok (.getfield 13, 3) := by decide +kernel
theorem dX1_turn_63 : decode cX1_turn 63 = .ok (.iconst 2, 1) := by decide +kernel
theorem dX1_turn_64 : decode cX1_turn 64 = .ok (.iaload, 1) := by decide +kernel
theorem dX1_turn_65 : decode cX1_turn 65 = .ok (.iand, 1) := by decide +kernel
theorem dX1_turn_66 : decode cX1_turn 66 = .ok (.ixor, 1) := by decide +kernel
theorem dX1_turn_67 : decode cX1_turn 67 = .ok (.istore 5, 2) := by decide +kernel
theorem dX1_turn_69 : decode cX1_turn 69 = .ok (.iload_n 3, 1) := by decide +kernel
theorem dX1_turn_70 : decode cX1_turn 70 = .ok (.bipush 6, 2) := by decide +kernel
theorem dX1_turn_72 : decode cX1_turn 72 = .ok (.invokestatic 52, 3) := by decide +kernel
theorem dX1_turn_75 : decode cX1_turn 75 = .ok (.iload_n 3, 1) := by decide +kernel
theorem dX1_turn_76 : decode cX1_turn 76 = .ok (.bipush 11, 2) := by decide +kernel
theorem dX1_turn_78 : decode cX1_turn 78 = .ok (.invokestatic 52, 3) := by decide +kernel
theorem dX1_turn_81 : decode cX1_turn 81 = .ok (.ixor, 1) := by decide +kernel
theorem dX1_turn_82 : decode cX1_turn 82 = .ok (.iload_n 3, 1) := by decide +kernel
theorem dX1_turn_83 : decode cX1_turn 83 = .ok (.bipush 25, 2) := by decide +kernel
theorem dX1_turn_85 : decode cX1_turn 85 = .ok (.invokestatic 52, 3) := by decide +kernel
theorem dX1_turn_88 : decode cX1_turn 88 = .ok (.ixor, 1) := by decide +kernel
theorem dX1_turn_89 : decode cX1_turn 89 = .ok (.istore 6, 2) := by decide +kernel
theorem dX1_turn_91 : decode cX1_turn 91 = .ok (.iload_n 2, 1) := by decide +kernel
theorem dX1_turn_92 : decode cX1_turn 92 = .ok (.iconst 2, 1) := by decide +kernel
theorem dX1_turn_93 : decode cX1_turn 93 = .ok (.invokestatic 52, 3) := by decide +kernel
theorem dX1_turn_96 : decode cX1_turn 96 = .ok (.iload_n 2, 1) := by decide +kernel
theorem dX1_turn_97 : decode cX1_turn 97 = .ok (.bipush 13, 2) := by decide +kernel
theorem dX1_turn_99 : decode cX1_turn 99 = .ok (.invokestatic 52, 3) := by decide +kernel
theorem dX1_turn_102 : decode cX1_turn 102 = .ok (.ixor, 1) := by decide +kernel
theorem dX1_turn_103 : decode cX1_turn 103 = .ok (.iload_n 2, 1) := by decide +kernel
theorem dX1_turn_104 : decode cX1_turn 104 = .ok (.bipush 22, 2) := by decide +kernel
theorem dX1_turn_106 : decode cX1_turn 106 = .ok (.invokestatic 52, 3) := by decide +kernel
theorem dX1_turn_109 : decode cX1_turn 109 = .ok (.ixor, 1) := by decide +kernel
theorem dX1_turn_110 : decode cX1_turn 110 = .ok (.istore 7, 2) := by decide +kernel
theorem dX1_turn_112 : decode cX1_turn 112 = .ok (.aload_n 0, 1) := by decide +kernel
theorem dX1_turn_113 : decode cX1_turn 113 = .ok (.getfield 13, 3) := by decide +kernel
theorem dX1_turn_116 : decode cX1_turn 116 = .ok (.bipush 7, 2) := by decide +kernel
theorem dX1_turn_118 : decode cX1_turn 118 = .ok (.iaload, 1) := by decide +kernel
theorem dX1_turn_119 : decode cX1_turn 119 = .ok (.iload 6, 2) := by decide +kernel
theorem dX1_turn_121 : decode cX1_turn 121 = .ok (.iadd, 1) := by decide +kernel
theorem dX1_turn_122 : decode cX1_turn 122 = .ok (.iload 4, 2) := by decide +kernel
theorem dX1_turn_124 : decode cX1_turn 124 = .ok (.iadd, 1) := by decide +kernel
theorem dX1_turn_125 : decode cX1_turn 125 = .ok (.iload_n 1, 1) := by decide +kernel
theorem dX1_turn_126 : decode cX1_turn 126 = .ok (.iadd, 1) := by decide +kernel
theorem dX1_turn_127 : decode cX1_turn 127 = .ok (.istore 8, 2) := by decide +kernel
theorem dX1_turn_129 : decode cX1_turn 129 = .ok (.bipush 7, 2) := by decide +kernel
theorem dX1_turn_131 : decode cX1_turn 131 = .ok (.istore 9, 2) := by decide +kernel
theorem dX1_turn_133 : decode cX1_turn 133 = .ok (.iload 9, 2) := by decide +kernel
theorem dX1_turn_135 : decode cX1_turn 135 = .ok (.ifCond .le 25, 3) := by decide +kernel
theorem dX1_turn_138 : decode cX1_turn 138 = .ok (.aload_n 0, 1) := by decide +kernel
theorem dX1_turn_139 : decode cX1_turn 139 = .ok (.getfield 13, 3) := by decide +kernel
theorem dX1_turn_142 : decode cX1_turn 142 = .ok (.iload 9, 2) := by decide +kernel
theorem dX1_turn_144 : decode cX1_turn 144 = .ok (.aload_n 0, 1) := by decide +kernel
theorem dX1_turn_145 : decode cX1_turn 145 = .ok (.getfield 13, 3) := by decide +kernel
theorem dX1_turn_148 : decode cX1_turn 148 = .ok (.iload 9, 2) := by decide +kernel
theorem dX1_turn_150 : decode cX1_turn 150 = .ok (.iconst 1, 1) := by decide +kernel
theorem dX1_turn_151 : decode cX1_turn 151 = .ok (.isub, 1) := by decide +kernel
theorem dX1_turn_152 : decode cX1_turn 152 = .ok (.iaload, 1) := by decide +kernel
theorem dX1_turn_153 : decode cX1_turn 153 = .ok (.iastore, 1) := by decide +kernel
theorem dX1_turn_154 : decode cX1_turn 154 = .ok (.iinc 9 (-1), 3) := by decide +kernel
theorem dX1_turn_157 : decode cX1_turn 157 = .ok (.goto (-24), 3) := by decide +kernel
theorem dX1_turn_160 : decode cX1_turn 160 = .ok (.aload_n 0, 1) := by decide +kernel
theorem dX1_turn_161 : decode cX1_turn 161 = .ok (.getfield 13, 3) := by decide +kernel
theorem dX1_turn_164 : decode cX1_turn 164 = .ok (.iconst 4, 1) := by decide +kernel
theorem dX1_turn_165 : decode cX1_turn 165 = .ok (.dup2, 1) := by decide +kernel
theorem dX1_turn_166 : decode cX1_turn 166 = .ok (.iaload, 1) := by decide +kernel
theorem dX1_turn_167 : decode cX1_turn 167 = .ok (.iload 8, 2) := by decide +kernel
theorem dX1_turn_169 : decode cX1_turn 169 = .ok (.iadd, 1) := by decide +kernel
theorem dX1_turn_170 : decode cX1_turn 170 = .ok (.iastore, 1) := by decide +kernel
theorem dX1_turn_171 : decode cX1_turn 171 = .ok (.aload_n 0, 1) := by decide +kernel
theorem dX1_turn_172 : decode cX1_turn 172 = .ok (.getfield 13, 3) := by decide +kernel
theorem dX1_turn_175 : decode cX1_turn 175 = .ok (.iconst 0, 1) := by decide +kernel
theorem dX1_turn_176 : decode cX1_turn 176 = .ok (.iload 8, 2) := by decide +kernel
theorem dX1_turn_178 : decode cX1_turn 178 = .ok (.iload 7, 2) := by decide +kernel
theorem dX1_turn_180 : decode cX1_turn 180 = .ok (.iadd, 1) := by decide +kernel
theorem dX1_turn_181 : decode cX1_turn 181 = .ok (.iload 5, 2) := by decide +kernel
theorem dX1_turn_183 : decode cX1_turn 183 = .ok (.iadd, 1) := by decide +kernel
theorem dX1_turn_184 : decode cX1_turn 184 = .ok (.iastore, 1) := by decide +kernel
theorem dX1_turn_185 : decode cX1_turn 185 = .ok (.return_, 1) := by decide +kernel
theorem dX2_init_0 : decode cX2_init 0 = .ok (.aload_n 0, 1) := by decide +kernel
theorem dX2_init_1 : decode cX2_init 1 = .ok (.invokespecial 3, 3) := by decide +kernel
theorem dX2_init_4 : decode cX2_init 4 = .ok (.aload_n 0, 1) := by decide +kernel
theorem dX2_init_5 : decode cX2_init 5 = .ok (.iload_n 1, 1) := by decide +kernel
theorem dX2_init_6 : decode cX2_init 6 = .ok (.putfield 9, 3) := by decide +kernel
theorem dX2_init_9 : decode cX2_init 9 = .ok (.aload_n 0, 1) := by decide +kernel
theorem dX2_init_10 : decode cX2_init 10 = .ok (.iload_n 2, 1) := by decide +kernel
theorem dX2_init_11 : decode cX2_init 11 = .ok (.putfield 15, 3) := by decide +kernel
theorem dX2_init_14 : decode cX2_init 14 = .ok (.aload_n 0, 1) := by decide +kernel
theorem dX2_init_15 : decode cX2_init 15 = .ok (.new 18, 3) := by decide +kernel
theorem dX2_init_18 : decode cX2_init 18 = .ok (.dup, 1) := by decide +kernel
theorem dX2_init_19 : decode cX2_init 19 = .ok (.invokespecial 20, 3) := by decide +kernel
theorem dX2_init_22 : decode cX2_init 22 = .ok (.putfield 21, 3) := by decide +kernel
theorem dX2_init_25 : decode cX2_init 25 = .ok (.aload_n 0, 1) := by decide +kernel
theorem dX2_init_26 : decode cX2_init 26 = .ok (.new 18, 3) := by decide +kernel
theorem dX2_init_29 : decode cX2_init 29 = .ok (.dup, 1) := by decide +kernel
theorem dX2_init_30 : decode cX2_init 30 = .ok (.invokespecial 20, 3) := by decide +kernel
theorem dX2_init_33 : decode cX2_init 33 = .ok (.putfield 25, 3) := by decide +kernel
theorem dX2_init_36 : decode cX2_init 36 = .ok (.aload_n 0, 1) := by decide +kernel
theorem dX2_init_37 : decode cX2_init 37 = .ok (.new 18, 3) := by decide +kernel
theorem dX2_init_40 : decode cX2_init 40 = .ok (.dup, 1) := by decide +kernel
theorem dX2_init_41 : decode cX2_init 41 = .ok (.invokespecial 20, 3) := by decide +kernel
theorem dX2_init_44 : decode cX2_init 44 = .ok (.putfield 28, 3) := by decide +kernel
theorem dX2_init_47 : decode cX2_init 47 = .ok (.aload_n 0, 1) := by decide +kernel
theorem dX2_init_48 : decode cX2_init 48 = .ok (.sipush 560, 3) := by decide +kernel
theorem dX2_init_51 : decode cX2_init 51 = .ok (.newarray .int, 2) := by decide +kernel
theorem dX2_init_53 : decode cX2_init 53 = .ok (.putfield 31, 3) := by decide +kernel
theorem dX2_init_56 : decode cX2_init 56 = .ok (.invokestatic 35, 3) := by decide +kernel
theorem dX2_init_59 : decode cX2_init 59 = .ok (.astore_n 3, 1) := by decide +kernel
theorem dX2_init_60 : decode cX2_init 60 = .ok (.aload_n 0, 1) := by decide +kernel
theorem dX2_init_61 : decode cX2_init 61 = .ok (.getfield 21, 3) := by decide +kernel
theorem dX2_init_64 : decode cX2_init 64 = .ok (.aload_n 3, 1) := by decide +kernel
theorem dX2_init_65 : decode cX2_init 65 = .ok (.invokevirtual 39, 3) := by decide +kernel
theorem dX2_init_68 : decode cX2_init 68 = .ok (.pop, 1) := by decide +kernel
theorem dX2_init_69 : decode cX2_init 69 = .ok (.aload_n 0, 1) := by decide +kernel
theorem dX2_init_70 : decode cX2_init 70 = .ok (.getfield 25, 3) := by decide +kernel
theorem dX2_init_73 : decode cX2_init 73 = .ok (.aload_n 3, 1) := by decide +kernel
theorem dX2_init_74 : decode cX2_init 74 = .ok (.invokevirtual 39, 3) := by decide +kernel
theorem dX2_init_77 : decode cX2_init 77 = .ok (.pop, 1) := by decide +kernel
theorem dX2_init_78 : decode cX2_init 78 = .ok (.aload_n 0, 1) := by decide +kernel
theorem dX2_init_79 : decode cX2_init 79 = .ok (.getfield 28, 3) := by decide +kernel
theorem dX2_init_82 : decode cX2_init 82 = .ok (.aload_n 3, 1) := by decide +kernel
theorem dX2_init_83 : decode cX2_init 83 = .ok (.invokevirtual 39, 3) := by decide +kernel
theorem dX2_init_86 : decode cX2_init 86 = .ok (.pop, 1) := by decide +kernel
theorem dX2_init_87 : decode cX2_init 87 = .ok (.return_, 1) := by decide +kernel
theorem dX2_makeGenesis_0 : decode cX2_makeGenesis 0 = .ok (.bipush 8, 2) := by decide +kernel
theorem dX2_makeGenesis_2 : decode cX2_makeGenesis 2 = .ok (.anewarray 43, 3) := by decide +kernel
theorem dX2_makeGenesis_5 : decode cX2_makeGenesis 5 = .ok (.astore_n 0, 1) := by decide +kernel
theorem dX2_makeGenesis_6 : decode cX2_makeGenesis 6 = .ok (.iconst 0, 1) := by decide +kernel
theorem dX2_makeGenesis_7 : decode cX2_makeGenesis 7 = .ok (.istore_n 1, 1) := by decide +kernel
theorem dX2_makeGenesis_8 : decode cX2_makeGenesis 8 = .ok (.iload_n 1, 1) := by decide +kernel
theorem dX2_makeGenesis_9 : decode cX2_makeGenesis 9 = .ok (.bipush 8, 2) := by decide +kernel
theorem dX2_makeGenesis_11 : decode cX2_makeGenesis 11 = .ok (.if_icmp .ge 21, 3) := by decide +kernel
theorem dX2_makeGenesis_14 : decode cX2_makeGenesis 14 = .ok (.aload_n 0, 1) := by decide +kernel
theorem dX2_makeGenesis_15 : decode cX2_makeGenesis 15 = .ok (.iload_n 1, 1) := by decide +kernel
theorem dX2_makeGenesis_16 : decode cX2_makeGenesis 16 = .ok (.new 43, 3) := by decide +kernel
theorem dX2_makeGenesis_19 : decode cX2_makeGenesis 19 = .ok (.dup, 1) := by decide +kernel
theorem dX2_makeGenesis_20 : decode cX2_makeGenesis 20 = .ok (.ldc 45, 2) := by decide +kernel
theorem dX2_makeGenesis_22 : decode cX2_makeGenesis 22 = .ok (.invokespecial 46, 3) := by decide +kernel
theorem dX2_makeGenesis_25 : decode cX2_makeGenesis 25 = .ok (.aastore, 1) := by decide +kernel
theorem dX2_makeGenesis_26 : decode cX2_makeGenesis 26 = .ok (.iinc 1 1, 3) := by decide +kernel
theorem dX2_makeGenesis_29 : decode cX2_makeGenesis 29 = .ok (.goto (-21), 3) := by decide +kernel
theorem dX2_makeGenesis_32 : decode cX2_makeGenesis 32 = .ok (.iconst 0, 1) := by decide +kernel
theorem dX2_makeGenesis_33 : decode cX2_makeGenesis 33 = .ok (.newarray .int, 2) := by decide +kernel
theorem dX2_makeGenesis_35 : decode cX2_makeGenesis 35 = .ok (.astore_n 1, 1) := by decide +kernel
theorem dX2_makeGenesis_36 : decode cX2_makeGenesis 36 = .ok (.new 49, 3) := by decide +kernel
theorem dX2_makeGenesis_39 : decode cX2_makeGenesis 39 = .ok (.dup, 1) := by decide +kernel
theorem dX2_makeGenesis_40 : decode cX2_makeGenesis 40 = .ok (.iconst 0, 1) := by decide +kernel
theorem dX2_makeGenesis_41 : decode cX2_makeGenesis 41 = .ok (.iconst 0, 1) := by decide +kernel
theorem dX2_makeGenesis_42 : decode cX2_makeGenesis 42 = .ok (.newarray .byte, 2) := by decide +kernel
theorem dX2_makeGenesis_44 : decode cX2_makeGenesis 44 = .ok (.aload_n 1, 1) := by decide +kernel
theorem dX2_makeGenesis_45 : decode cX2_makeGenesis 45 = .ok (.aload_n 1, 1) := by decide +kernel
theorem dX2_makeGenesis_46 : decode cX2_makeGenesis 46 = .ok (.aload_n 1, 1) := by decide +kernel
theorem dX2_makeGenesis_47 : decode cX2_makeGenesis 47 = .ok (.aload_n 0, 1) := by decide +kernel
theorem dX2_makeGenesis_48 : decode cX2_makeGenesis 48 = .ok (.invokespecial 51, 3) := by decide +kernel
theorem dX2_makeGenesis_51 : decode cX2_makeGenesis 51 = .ok (.astore_n 2, 1) := by decide +kernel
theorem dX2_makeGenesis_52 : decode cX2_makeGenesis 52 = .ok (.aload_n 2, 1) := by decide +kernel
theorem dX2_makeGenesis_53 : decode cX2_makeGenesis 53 = .ok (.iconst 0, 1) := by decide +kernel
theorem dX2_makeGenesis_54 : decode cX2_makeGenesis 54 = .ok (.putfield 54, 3) := by decide +kernel
theorem dX2_makeGenesis_57 : decode cX2_makeGenesis 57 = .ok (.aload_n 2, 1) := by decide +kernel
theorem dX2_makeGenesis_58 : decode cX2_makeGenesis 58 = .ok (.iconst 3, 1) := by decide +kernel
theorem dX2_makeGenesis_59 : decode cX2_makeGenesis 59 = .ok (.putfield 57, 3) := by decide +kernel
theorem dX2_makeGenesis_62 : decode cX2_makeGenesis 62 = .ok (.aload_n 2, 1) := by decide +kernel
theorem dX2_makeGenesis_63 : decode cX2_makeGenesis 63 = .ok (.areturn, 1) := by decide +kernel
theorem dX2_find_0 : decode cX2_find 0 = .ok (.iconst 0, 1) := by decide +kernel
theorem dX2_find_1 : decode cX2_find 1 = .ok (.istore_n 2, 1) := by decide +kernel
theorem dX2_find_2 : decode cX2_find 2 = .ok (.iload_n 2, 1) := by decide +kernel
theorem dX2_find_3 : decode cX2_find 3 = .ok (.aload_n 0, 1) := by decide +kernel
theorem dX2_find_4 : decode cX2_find 4 = .ok (.getfield 21, 3) := by decide +kernel
theorem dX2_find_7 : decode cX2_find 7 = .ok (.invokevirtual 60, 3) := by decide +kernel
theorem dX2_find_10 : decode cX2_find 10 = .ok (.if_icmp .ge 39, 3) := by decide +kernel
theorem dX2_find_13 : decode cX2_find 13 = .ok (.aload_n 0, 1) := by decide +kernel
theorem dX2_find_14 : decode cX2_find 14 = .ok (.getfield 21, 3) := by decide +kernel
theorem dX2_find_17 : decode cX2_find 17 = .ok (.iload_n 2, 1) := by decide +kernel
theorem dX2_find_18 : decode cX2_find 18 = .ok (.invokevirtual 64, 3) := by decide +kernel
theorem dX2_find_21 : decode cX2_find 21 = .ok (.checkcast 49, 3) := by decide +kernel
theorem dX2_find_24 : decode cX2_find 24 = .ok (.getfield 68, 3) := by decide +kernel
theorem dX2_find_27 : decode cX2_find 27 = .ok (.iload_n 1, 1) := by decide +kernel
theorem dX2_find_28 : decode cX2_find 28 = .ok (.if_icmp .ne 15, 3) := by decide +kernel
theorem dX2_find_31 : decode cX2_find 31 = .ok (.aload_n 0, 1) := by decide +kernel
theorem dX2_find_32 : decode cX2_find 32 = .ok (.getfield 21, 3) := by decide +kernel
theorem dX2_find_35 : decode cX2_find 35 = .ok (.iload_n 2, 1) := by decide +kernel
theorem dX2_find_36 : decode cX2_find 36 = .ok (.invokevirtual 64, 3) := by decide +kernel
theorem dX2_find_39 : decode cX2_find 39 = .ok (.checkcast 49, 3) := by decide +kernel
theorem dX2_find_42 : decode cX2_find 42 = .ok (.areturn, 1) := by decide +kernel
theorem dX2_find_43 : decode cX2_find 43 = .ok (.iinc 2 1, 3) := by decide +kernel
theorem dX2_find_46 : decode cX2_find 46 = .ok (.goto (-44), 3) := by decide +kernel
theorem dX2_find_49 : decode cX2_find 49 = .ok (.aconst_null, 1) := by decide +kernel
theorem dX2_find_50 : decode cX2_find 50 = .ok (.areturn, 1) := by decide +kernel
theorem dX2_isFull_0 : decode cX2_isFull 0 = .ok (.aload_n 0, 1) := by decide +kernel
theorem dX2_isFull_1 : decode cX2_isFull 1 = .ok (.getfield 21, 3) := by decide +kernel
theorem dX2_isFull_4 : decode cX2_isFull 4 = .ok (.invokevirtual 60, 3) := by decide +kernel
theorem dX2_isFull_7 : decode cX2_isFull 7 = .ok (.sipush 140, 3) := by decide +kernel
theorem dX2_isFull_10 : decode cX2_isFull 10 = .ok (.if_icmp .lt 7, 3) := by decide +kernel
theorem dX2_isFull_13 : decode cX2_isFull 13 = .ok (.iconst 1, 1) := by decide +kernel
theorem dX2_isFull_14 : decode cX2_isFull 14 = .ok (.goto 4, 3) := by decide +kernel
theorem dX2_isFull_17 : decode cX2_isFull 17 = .ok (.iconst 0, 1) := by decide +kernel
theorem dX2_isFull_18 : decode cX2_isFull 18 = .ok (.ireturn, 1) := by decide +kernel
theorem dX2_admit_0 : decode cX2_admit 0 = .ok (.aload_n 0, 1) := by decide +kernel
theorem dX2_admit_1 : decode cX2_admit 1 = .ok (.getfield 21, 3) := by decide +kernel
theorem dX2_admit_4 : decode cX2_admit 4 = .ok (.aload_n 1, 1) := by decide +kernel
theorem dX2_admit_5 : decode cX2_admit 5 = .ok (.invokevirtual 39, 3) := by decide +kernel
theorem dX2_admit_8 : decode cX2_admit 8 = .ok (.pop, 1) := by decide +kernel
theorem dX2_admit_9 : decode cX2_admit 9 = .ok (.aload_n 0, 1) := by decide +kernel
theorem dX2_admit_10 : decode cX2_admit 10 = .ok (.aload_n 1, 1) := by decide +kernel
theorem dX2_admit_11 : decode cX2_admit 11 = .ok (.invokevirtual 71, 3) := by decide +kernel
theorem dX2_admit_14 : decode cX2_admit 14 = .ok (.istore_n 2, 1) := by decide +kernel
theorem dX2_admit_15 : decode cX2_admit 15 = .ok (.iconst 0, 1) := by decide +kernel
theorem dX2_admit_16 : decode cX2_admit 16 = .ok (.istore_n 3, 1) := by decide +kernel
theorem dX2_admit_17 : decode cX2_admit 17 = .ok (.iload_n 3, 1) := by decide +kernel
theorem dX2_admit_18 : decode cX2_admit 18 = .ok (.sipush 140, 3) := by decide +kernel
theorem dX2_admit_21 : decode cX2_admit 21 = .ok (.if_icmp .ge 18, 3) := by decide +kernel
theorem dX2_admit_24 : decode cX2_admit 24 = .ok (.iload_n 2, 1) := by decide +kernel
theorem dX2_admit_25 : decode cX2_admit 25 = .ok (.ifCond .eq 14, 3) := by decide +kernel
theorem dX2_admit_28 : decode cX2_admit 28 = .ok (.aload_n 0, 1) := by decide +kernel
theorem dX2_admit_29 : decode cX2_admit 29 = .ok (.invokevirtual 75, 3) := by decide +kernel
theorem dX2_admit_32 : decode cX2_admit 32 = .ok (.istore_n 2, 1) := by decide +kernel
theorem dX2_admit_33 : decode cX2_admit 33 = .ok (.iinc 3 1, 3) := by decide +kernel
theorem dX2_admit_36 : decode cX2_admit 36 = .ok (.goto (-19), 3) := by decide +kernel
theorem dX2_admit_39 : decode cX2_admit 39 = .ok (.return_, 1) := by decide +kernel
theorem dX2_lookAtWaiting_0 : decode cX2_lookAtWaiting 0 = .ok (.iconst 0, 1) := by decide +kernel
theorem dX2_lookAtWaiting_1 : decode cX2_lookAtWaiting 1 = .ok (.istore_n 1, 1) := by decide +kernel
theorem dX2_lookAtWaiting_2 : decode cX2_lookAtWaiting 2 = .ok (.iload_n 1, 1) := by decide +kernel
theorem dX2_lookAtWaiting_3 : decode cX2_lookAtWaiting 3 = .ok (.aload_n 0, 1) := by decide +kernel
theorem dX2_lookAtWaiting_4 : decode cX2_lookAtWaiting 4 = .ok (.getfield 21, 3) := by decide +kernel
theorem dX2_lookAtWaiting_7 : decode cX2_lookAtWaiting 7 = .ok (.invokevirtual 60, 3) := by decide +kernel
theorem dX2_lookAtWaiting_10 : decode cX2_lookAtWaiting 10 = .ok (.if_icmp .ge 39, 3) := by decide +kernel
theorem dX2_lookAtWaiting_13 : decode cX2_lookAtWaiting 13 = .ok (.aload_n 0, 1) := by decide +kernel
theorem dX2_lookAtWaiting_14 : decode cX2_lookAtWaiting 14 = .ok (.getfield 21, 3) := by decide +kernel
theorem dX2_lookAtWaiting_17 : decode cX2_lookAtWaiting 17 = .ok (.iload_n 1, 1) := by decide +kernel
theorem dX2_lookAtWaiting_18 : decode cX2_lookAtWaiting 18 = .ok (.invokevirtual 64, 3) := by decide +kernel
theorem dX2_lookAtWaiting_21 : decode cX2_lookAtWaiting 21 = .ok (.checkcast 49, 3) := by decide +kernel
theorem dX2_lookAtWaiting_24 : decode cX2_lookAtWaiting 24 = .ok (.astore_n 2, 1) := by decide +kernel
theorem dX2_lookAtWaiting_25 : decode cX2_lookAtWaiting 25 = .ok (.aload_n 2, 1) := by decide +kernel
theorem dX2_lookAtWaiting_26 : decode cX2_lookAtWaiting 26 = .ok (.getfield 57, 3) := by decide +kernel
theorem dX2_lookAtWaiting_29 : decode cX2_lookAtWaiting 29 = .ok (.iconst 1, 1) := by decide +kernel
theorem dX2_lookAtWaiting_30 : decode cX2_lookAtWaiting 30 = .ok (.if_icmp .ne 13, 3) := by decide +kernel
theorem dX2_lookAtWaiting_33 : decode cX2_lookAtWaiting 33 = .ok (.aload_n 0, 1) := by decide +kernel
theorem dX2_lookAtWaiting_34 : decode cX2_lookAtWaiting 34 = .ok (.aload_n 2, 1) := by decide +kernel
theorem dX2_lookAtWaiting_35 : decode cX2_lookAtWaiting 35 = .ok (.invokevirtual 71, 3) := by decide +kernel
theorem dX2_lookAtWaiting_38 : decode cX2_lookAtWaiting 38 = .ok (.ifCond .eq 5, 3) := by decide +kernel
theorem dX2_lookAtWaiting_41 : decode cX2_lookAtWaiting 41 = .ok (.iconst 1, 1) := by decide +kernel
theorem dX2_lookAtWaiting_42 : decode cX2_lookAtWaiting 42 = .ok (.ireturn, 1) := by decide +kernel
theorem dX2_lookAtWaiting_43 : decode cX2_lookAtWaiting 43 = .ok (.iinc 1 1, 3) := by decide +kernel
theorem dX2_lookAtWaiting_46 : decode cX2_lookAtWaiting 46 = .ok (.goto (-44), 3) := by decide +kernel
theorem dX2_lookAtWaiting_49 : decode cX2_lookAtWaiting 49 = .ok (.iconst 0, 1) := by decide +kernel
theorem dX2_lookAtWaiting_50 : decode cX2_lookAtWaiting 50 = .ok (.ireturn, 1) := by decide +kernel
theorem dX2_lookAt_0 : decode cX2_lookAt 0 = .ok (.aload_n 0, 1) := by decide +kernel
theorem dX2_lookAt_1 : decode cX2_lookAt 1 = .ok (.aload_n 1, 1) := by decide +kernel
theorem dX2_lookAt_2 : decode cX2_lookAt 2 = .ok (.invokevirtual 79, 3) := by decide +kernel
theorem dX2_lookAt_5 : decode cX2_lookAt 5 = .ok (.istore_n 2, 1) := by decide +kernel
theorem dX2_lookAt_6 : decode cX2_lookAt 6 = .ok (.iload_n 2, 1) := by decide +kernel
theorem dX2_lookAt_7 : decode cX2_lookAt 7 = .ok (.iconst 1, 1) := by decide +kernel
theorem dX2_lookAt_8 : decode cX2_lookAt 8 = .ok (.if_icmp .ne 5, 3) := by decide +kernel
theorem dX2_lookAt_11 : decode cX2_lookAt 11 = .ok (.iconst 0, 1) := by decide +kernel
theorem dX2_lookAt_12 : decode cX2_lookAt 12 = .ok (.ireturn, 1) := by decide +kernel
theorem dX2_lookAt_13 : decode cX2_lookAt 13 = .ok (.iload_n 2, 1) := by decide +kernel
theorem dX2_lookAt_14 : decode cX2_lookAt 14 = .ok (.iconst 2, 1) := by decide +kernel
theorem dX2_lookAt_15 : decode cX2_lookAt 15 = .ok (.if_icmp .ne 7, 3) := by decide +kernel
theorem dX2_lookAt_18 : decode cX2_lookAt 18 = .ok (.aload_n 1, 1) := by decide +kernel
theorem dX2_lookAt_19 : decode cX2_lookAt 19 = .ok (.invokevirtual 83, 3) := by decide +kernel
theorem dX2_lookAt_22 : decode cX2_lookAt 22 = .ok (.iload_n 2, 1) := by decide +kernel
theorem dX2_lookAt_23 : decode cX2_lookAt 23 = .ok (.iconst 2, 1) := by decide +kernel
theorem dX2_lookAt_24 : decode cX2_lookAt 24 = .ok (.if_icmp .ne 29, 3) := by decide +kernel
theorem dX2_lookAt_27 : decode cX2_lookAt 27 = .ok (.aload_n 1, 1) := by decide +kernel
theorem dX2_lookAt_28 : decode cX2_lookAt 28 = .ok (.invokevirtual 86, 3) := by decide +kernel
theorem dX2_lookAt_31 : decode cX2_lookAt 31 = .ok (.ifCond .ne 22, 3) := by decide +kernel
theorem dX2_lookAt_34 : decode cX2_lookAt 34 = .ok (.aload_n 0, 1) := by decide +kernel
theorem dX2_lookAt_35 : decode cX2_lookAt 35 = .ok (.aload_n 1, 1) := by decide +kernel
theorem dX2_lookAt_36 : decode cX2_lookAt 36 = .ok (.invokevirtual 89, 3) := by decide +kernel
theorem dX2_lookAt_39 : decode cX2_lookAt 39 = .ok (.ifCond .eq 14, 3) := by decide +kernel
theorem dX2_lookAt_42 : decode cX2_lookAt 42 = .ok (.aload_n 1, 1) := by decide +kernel
theorem dX2_lookAt_43 : decode cX2_lookAt 43 = .ok (.invokevirtual 92, 3) := by decide +kernel
theorem dX2_lookAt_46 : decode cX2_lookAt 46 = .ok (.ifCond .eq 7, 3) := by decide +kernel
theorem dX2_lookAt_49 : decode cX2_lookAt 49 = .ok (.iconst 1, 1) := by decide +kernel
theorem dX2_lookAt_50 : decode cX2_lookAt 50 = .ok (.goto 4, 3) := by decide +kernel
theorem dX2_lookAt_53 : decode cX2_lookAt 53 = .ok (.iconst 0, 1) := by decide +kernel
theorem dX2_lookAt_54 : decode cX2_lookAt 54 = .ok (.istore_n 3, 1) := by decide +kernel
theorem dX2_lookAt_55 : decode cX2_lookAt 55 = .ok (.iload_n 3, 1) := by decide +kernel
theorem dX2_lookAt_56 : decode cX2_lookAt 56 = .ok (.ifCond .ne 10, 3) := by decide +kernel
theorem dX2_lookAt_59 : decode cX2_lookAt 59 = .ok (.aload_n 1, 1) := by decide +kernel
theorem dX2_lookAt_60 : decode cX2_lookAt 60 = .ok (.iconst 5, 1) := by decide +kernel
theorem dX2_lookAt_61 : decode cX2_lookAt 61 = .ok (.putfield 57, 3) := by decide +kernel
theorem dX2_lookAt_64 : decode cX2_lookAt 64 = .ok (.iconst 1, 1) := by decide +kernel
theorem dX2_lookAt_65 : decode cX2_lookAt 65 = .ok (.ireturn, 1) := by decide +kernel
theorem dX2_lookAt_66 : decode cX2_lookAt 66 = .ok (.aload_n 0, 1) := by decide +kernel
theorem dX2_lookAt_67 : decode cX2_lookAt 67 = .ok (.aload_n 1, 1) := by decide +kernel
theorem dX2_lookAt_68 : decode cX2_lookAt 68 = .ok (.invokevirtual 95, 3) := by decide +kernel
theorem dX2_lookAt_71 : decode cX2_lookAt 71 = .ok (.aload_n 1, 1) := by decide +kernel
theorem dX2_lookAt_72 : decode cX2_lookAt 72 = .ok (.invokevirtual 99, 3) := by decide +kernel
theorem dX2_lookAt_75 : decode cX2_lookAt 75 = .ok (.ifCond .ne 10, 3) := by decide +kernel
theorem dX2_lookAt_78 : decode cX2_lookAt 78 = .ok (.aload_n 1, 1) := by decide +kernel
theorem dX2_lookAt_79 : decode cX2_lookAt 79 = .ok (.invokevirtual 102, 3) := by decide +kernel
theorem dX2_lookAt_82 : decode cX2_lookAt 82 = .ok (.ifCond .eq 8, 3) := by decide +kernel
theorem dX2_lookAt_85 : decode cX2_lookAt 85 = .ok (.aload_n 0, 1) := by decide +kernel
theorem dX2_lookAt_86 : decode cX2_lookAt 86 = .ok (.aload_n 1, 1) := by decide +kernel
theorem dX2_lookAt_87 : decode cX2_lookAt 87 = .ok (.invokevirtual 105, 3) := by decide +kernel
theorem dX2_lookAt_90 : decode cX2_lookAt 90 = .ok (.iconst 1, 1) := by decide +kernel
theorem dX2_lookAt_91 : decode cX2_lookAt 91 = .ok (.ireturn, 1) := by decide +kernel
theorem dX2_findParents_0 : decode cX2_findParents 0 = .ok (.iconst 2, 1) := by decide +kernel
theorem dX2_findParents_1 : decode cX2_findParents 1 = .ok (.istore_n 2, 1) := by decide +kernel
theorem dX2_findParents_2 : decode cX2_findParents 2 = .ok (.iconst 0, 1) := by decide +kernel
theorem dX2_findParents_3 : decode cX2_findParents 3 = .ok (.istore_n 3, 1) := by decide +kernel
theorem dX2_findParents_4 : decode cX2_findParents 4 = .ok (.iload_n 3, 1) := by decide +kernel
theorem dX2_findParents_5 : decode cX2_findParents 5 = .ok (.aload_n 1, 1) := by decide +kernel
theorem dX2_findParents_6 : decode cX2_findParents 6 = .ok (.getfield 108, 3) := by decide +kernel
theorem dX2_findParents_9 : decode cX2_findParents 9 = .ok (.arraylength, 1) := by decide +kernel
theorem dX2_findParents_10 : decode cX2_findParents 10 = .ok (.if_icmp .ge 59, 3) := by decide +kernel
theorem dX2_findParents_13 : decode cX2_findParents 13 = .ok (.aload_n 0, 1) := by decide +kernel
theorem dX2_findParents_14 : decode cX2_findParents 14 = .ok (.aload_n 1, 1) := by decide +kernel
theorem dX2_findParents_15 : decode cX2_findParents 15 = .ok (.getfield 108, 3) := by decide +kernel
theorem dX2_findParents_18 : decode cX2_findParents 18 = .ok (.iload_n 3, 1) := by decide +kernel
theorem dX2_findParents_19 : decode cX2_findParents 19 = .ok (.iaload, 1) := by decide +kernel
theorem dX2_findParents_20 : decode cX2_findParents 20 = .ok (.invokevirtual 111, 3) := by decide +kernel
theorem dX2_findParents_23 : decode cX2_findParents 23 = .ok (.astore 4, 2) := by decide +kernel
theorem dX2_findParents_25 : decode cX2_findParents 25 = .ok (.aload_n 1, 1) := by decide +kernel
theorem dX2_findParents_26 : decode cX2_findParents 26 = .ok (.getfield 115, 3) := by decide +kernel
theorem dX2_findParents_29 : decode cX2_findParents 29 = .ok (.iload_n 3, 1) := by decide +kernel
theorem dX2_findParents_30 : decode cX2_findParents 30 = .ok (.aload 4, 2) := by decide +kernel
theorem dX2_findParents_32 : decode cX2_findParents 32 = .ok (.aastore, 1) := by decide +kernel
theorem dX2_findParents_33 : decode cX2_findParents 33 = .ok (.aload 4, 2) := by decide +kernel
theorem dX2_findParents_35 : decode cX2_findParents 35 = .ok (.ifnull 12, 3) := by decide +kernel
theorem dX2_findParents_38 : decode cX2_findParents 38 = .ok (.aload 4, 2) := by decide +kernel
theorem dX2_findParents_40 : decode cX2_findParents 40 = .ok (.getfield 57, 3) := by decide +kernel
theorem dX2_findParents_43 : decode cX2_findParents 43 = .ok (.iconst 1, 1) := by decide +kernel
theorem dX2_findParents_44 : decode cX2_findParents 44 = .ok (.if_icmp .ne 8, 3) := by decide +kernel
theorem dX2_findParents_47 : decode cX2_findParents 47 = .ok (.iconst 1, 1) := by decide +kernel
theorem dX2_findParents_48 : decode cX2_findParents 48 = .ok (.istore_n 2, 1) := by decide +kernel
theorem dX2_findParents_49 : decode cX2_findParents 49 = .ok (.goto 14, 3) := by decide +kernel
theorem dX2_findParents_52 : decode cX2_findParents 52 = .ok (.aload 4, 2) := by decide +kernel
theorem dX2_findParents_54 : decode cX2_findParents 54 = .ok (.getfield 57, 3) := by decide +kernel
theorem dX2_findParents_57 : decode cX2_findParents 57 = .ok (.iconst 5, 1) := by decide +kernel
theorem dX2_findParents_58 : decode cX2_findParents 58 = .ok (.if_icmp .ne 5, 3) := by decide +kernel
theorem dX2_findParents_61 : decode cX2_findParents 61 = .ok (.iconst 5, 1) := by decide +kernel
theorem dX2_findParents_62 : decode cX2_findParents 62 = .ok (.ireturn, 1) := by decide +kernel
theorem dX2_findParents_63 : decode cX2_findParents 63 = .ok (.iinc 3 1, 3) := by decide +kernel
theorem dX2_findParents_66 : decode cX2_findParents 66 = .ok (.goto (-62), 3) := by decide +kernel
theorem dX2_findParents_69 : decode cX2_findParents 69 = .ok (.iload_n 2, 1) := by decide +kernel
theorem dX2_findParents_70 : decode cX2_findParents 70 = .ok (.ireturn, 1) := by decide +kernel
theorem dX2_findSpent_0 : decode cX2_findSpent 0 = .ok (.iconst 0, 1) := by decide +kernel
theorem dX2_findSpent_1 : decode cX2_findSpent 1 = .ok (.istore_n 2, 1) := by decide +kernel
theorem dX2_findSpent_2 : decode cX2_findSpent 2 = .ok (.iload_n 2, 1) := by decide +kernel
theorem dX2_findSpent_3 : decode cX2_findSpent 3 = .ok (.aload_n 1, 1) := by decide +kernel
theorem dX2_findSpent_4 : decode cX2_findSpent 4 = .ok (.getfield 119, 3) := by decide +kernel
theorem dX2_findSpent_7 : decode cX2_findSpent 7 = .ok (.arraylength, 1) := by decide +kernel
theorem dX2_findSpent_8 : decode cX2_findSpent 8 = .ok (.if_icmp .ge 70, 3) := by decide +kernel
theorem dX2_findSpent_11 : decode cX2_findSpent 11 = .ok (.aload_n 0, 1) := by decide +kernel
theorem dX2_findSpent_12 : decode cX2_findSpent 12 = .ok (.aload_n 1, 1) := by decide +kernel
theorem dX2_findSpent_13 : decode cX2_findSpent 13 = .ok (.getfield 119, 3) := by decide +kernel
theorem dX2_findSpent_16 : decode cX2_findSpent 16 = .ok (.iload_n 2, 1) := by decide +kernel
theorem dX2_findSpent_17 : decode cX2_findSpent 17 = .ok (.iaload, 1) := by decide +kernel
theorem dX2_findSpent_18 : decode cX2_findSpent 18 = .ok (.invokevirtual 111, 3) := by decide +kernel
theorem dX2_findSpent_21 : decode cX2_findSpent 21 = .ok (.astore_n 3, 1) := by decide +kernel
theorem dX2_findSpent_22 : decode cX2_findSpent 22 = .ok (.aload_n 3, 1) := by decide +kernel
theorem dX2_findSpent_23 : decode cX2_findSpent 23 = .ok (.ifnull 11, 3) := by decide +kernel
theorem dX2_findSpent_26 : decode cX2_findSpent 26 = .ok (.aload_n 1, 1) := by decide +kernel
theorem dX2_findSpent_27 : decode cX2_findSpent 27 = .ok (.aload_n 3, 1) := by decide +kernel
theorem dX2_findSpent_28 : decode cX2_findSpent 28 = .ok (.invokevirtual 122, 3) := by decide +kernel
theorem dX2_findSpent_31 : decode cX2_findSpent 31 = .ok (.ifCond .ne 5, 3) := by decide +kernel
theorem dX2_findSpent_34 : decode cX2_findSpent 34 = .ok (.iconst 0, 1) := by decide +kernel
theorem dX2_findSpent_35 : decode cX2_findSpent 35 = .ok (.ireturn, 1) := by decide +kernel
theorem dX2_findSpent_36 : decode cX2_findSpent 36 = .ok (.aload_n 3, 1) := by decide +kernel
theorem dX2_findSpent_37 : decode cX2_findSpent 37 = .ok (.aload_n 1, 1) := by decide +kernel
theorem dX2_findSpent_38 : decode cX2_findSpent 38 = .ok (.getfield 125, 3) := by decide +kernel
theorem dX2_findSpent_41 : decode cX2_findSpent 41 = .ok (.iload_n 2, 1) := by decide +kernel
theorem dX2_findSpent_42 : decode cX2_findSpent 42 = .ok (.iaload, 1) := by decide +kernel
theorem dX2_findSpent_43 : decode cX2_findSpent 43 = .ok (.invokevirtual 128, 3) := by decide +kernel
theorem dX2_findSpent_46 : decode cX2_findSpent 46 = .ok (.astore 4, 2) := by decide +kernel
theorem dX2_findSpent_48 : decode cX2_findSpent 48 = .ok (.aload 4, 2) := by decide +kernel
theorem dX2_findSpent_50 : decode cX2_findSpent 50 = .ok (.ifnull 12, 3) := by decide +kernel
theorem dX2_findSpent_53 : decode cX2_findSpent 53 = .ok (.aload 4, 2) := by decide +kernel
theorem dX2_findSpent_55 : decode cX2_findSpent 55 = .ok (.aload_n 1, 1) := by decide +kernel
theorem dX2_findSpent_56 : decode cX2_findSpent 56 = .ok (.invokevirtual 132, 3) := by decide +kernel
theorem dX2_findSpent_59 : decode cX2_findSpent 59 = .ok (.ifCond .eq 5, 3) := by decide +kernel
theorem dX2_findSpent_62 : decode cX2_findSpent 62 = .ok (.iconst 0, 1) := by decide +kernel
theorem dX2_findSpent_63 : decode cX2_findSpent 63 = .ok (.ireturn, 1) := by decide +kernel
theorem dX2_findSpent_64 : decode cX2_findSpent 64 = .ok (.aload_n 1, 1) := by decide +kernel
theorem dX2_findSpent_65 : decode cX2_findSpent 65 = .ok (.getfield 135, 3) := by decide +kernel
theorem dX2_findSpent_68 : decode cX2_findSpent 68 = .ok (.iload_n 2, 1) := by decide +kernel
theorem dX2_findSpent_69 : decode cX2_findSpent 69 = .ok (.aload 4, 2) := by decide +kernel
theorem dX2_findSpent_71 : decode cX2_findSpent 71 = .ok (.aastore, 1) := by decide +kernel
theorem dX2_findSpent_72 : decode cX2_findSpent 72 = .ok (.iinc 2 1, 3) := by decide +kernel
theorem dX2_findSpent_75 : decode cX2_findSpent 75 = .ok (.goto (-73), 3) := by decide +kernel
theorem dX2_findSpent_78 : decode cX2_findSpent 78 = .ok (.iconst 1, 1) := by decide +kernel
theorem dX2_findSpent_79 : decode cX2_findSpent 79 = .ok (.ireturn, 1) := by decide +kernel
theorem dX2_hold_0 : decode cX2_hold 0 = .ok (.aload_n 1, 1) := by decide +kernel
theorem dX2_hold_1 : decode cX2_hold 1 = .ok (.iconst 2, 1) := by decide +kernel
theorem dX2_hold_2 : decode cX2_hold 2 = .ok (.putfield 57, 3) := by decide +kernel
theorem dX2_hold_5 : decode cX2_hold 5 = .ok (.aload_n 1, 1) := by decide +kernel
theorem dX2_hold_6 : decode cX2_hold 6 = .ok (.aload_n 0, 1) := by decide +kernel
theorem dX2_hold_7 : decode cX2_hold 7 = .ok (.getfield 25, 3) := by decide +kernel
theorem dX2_hold_10 : decode cX2_hold 10 = .ok (.invokevirtual 60, 3) := by decide +kernel
theorem dX2_hold_13 : decode cX2_hold 13 = .ok (.putfield 54, 3) := by decide +kernel
theorem dX2_hold_16 : decode cX2_hold 16 = .ok (.aload_n 0, 1) := by decide +kernel
theorem dX2_hold_17 : decode cX2_hold 17 = .ok (.getfield 25, 3) := by decide +kernel
theorem dX2_hold_20 : decode cX2_hold 20 = .ok (.aload_n 1, 1) := by decide +kernel
theorem dX2_hold_21 : decode cX2_hold 21 = .ok (.invokevirtual 39, 3) := by decide +kernel
theorem dX2_hold_24 : decode cX2_hold 24 = .ok (.pop, 1) := by decide +kernel
theorem dX2_hold_25 : decode cX2_hold 25 = .ok (.iconst 0, 1) := by decide +kernel
theorem dX2_hold_26 : decode cX2_hold 26 = .ok (.istore_n 2, 1) := by decide +kernel
theorem dX2_hold_27 : decode cX2_hold 27 = .ok (.iload_n 2, 1) := by decide +kernel
theorem dX2_hold_28 : decode cX2_hold 28 = .ok (.aload_n 1, 1) := by decide +kernel
theorem dX2_hold_29 : decode cX2_hold 29 = .ok (.getfield 135, 3) := by decide +kernel
theorem dX2_hold_32 : decode cX2_hold 32 = .ok (.arraylength, 1) := by decide +kernel
theorem dX2_hold_33 : decode cX2_hold 33 = .ok (.if_icmp .ge 19, 3) := by decide +kernel
theorem dX2_hold_36 : decode cX2_hold 36 = .ok (.aload_n 1, 1) := by decide +kernel
theorem dX2_hold_37 : decode cX2_hold 37 = .ok (.getfield 135, 3) := by decide +kernel
theorem dX2_hold_40 : decode cX2_hold 40 = .ok (.iload_n 2, 1) := by decide +kernel
theorem dX2_hold_41 : decode cX2_hold 41 = .ok (.aaload, 1) := by decide +kernel
theorem dX2_hold_42 : decode cX2_hold 42 = .ok (.aload_n 1, 1) := by decide +kernel
theorem dX2_hold_43 : decode cX2_hold 43 = .ok (.invokevirtual 139, 3) := by decide +kernel
theorem dX2_hold_46 : decode cX2_hold 46 = .ok (.iinc 2 1, 3) := by decide +kernel
theorem dX2_hold_49 : decode cX2_hold 49 = .ok (.goto (-22), 3) := by decide +kernel
theorem dX2_hold_52 : decode cX2_hold 52 = .ok (.return_, 1) := by decide +kernel
theorem dX2_reject_0 : decode cX2_reject 0 = .ok (.aload_n 1, 1) := by decide +kernel
theorem dX2_reject_1 : decode cX2_reject 1 = .ok (.iconst 4, 1) := by decide +kernel
theorem dX2_reject_2 : decode cX2_reject 2 = .ok (.putfield 57, 3) := by decide +kernel
theorem dX2_reject_5 : decode cX2_reject 5 = .ok (.iconst 0, 1) := by decide +kernel
theorem dX2_reject_6 : decode cX2_reject 6 = .ok (.istore_n 2, 1) := by decide +kernel
theorem dX2_reject_7 : decode cX2_reject 7 = .ok (.iload_n 2, 1) := by decide +kernel
theorem dX2_reject_8 : decode cX2_reject 8 = .ok (.aload_n 1, 1) := by decide +kernel
theorem dX2_reject_9 : decode cX2_reject 9 = .ok (.getfield 135, 3) := by decide +kernel
theorem dX2_reject_12 : decode cX2_reject 12 = .ok (.arraylength, 1) := by decide +kernel
theorem dX2_reject_13 : decode cX2_reject 13 = .ok (.if_icmp .ge 31, 3) := by decide +kernel
theorem dX2_reject_16 : decode cX2_reject 16 = .ok (.aload_n 1, 1) := by decide +kernel
theorem dX2_reject_17 : decode cX2_reject 17 = .ok (.getfield 135, 3) := by decide +kernel
theorem dX2_reject_20 : decode cX2_reject 20 = .ok (.iload_n 2, 1) := by decide +kernel
theorem dX2_reject_21 : decode cX2_reject 21 = .ok (.aaload, 1) := by decide +kernel
theorem dX2_reject_22 : decode cX2_reject 22 = .ok (.getfield 142, 3) := by decide +kernel
theorem dX2_reject_25 : decode cX2_reject 25 = .ok (.aload_n 1, 1) := by decide +kernel
theorem dX2_reject_26 : decode cX2_reject 26 = .ok (.if_acmp .ne 12, 3) := by decide +kernel
theorem dX2_reject_29 : decode cX2_reject 29 = .ok (.aload_n 1, 1) := by decide +kernel
theorem dX2_reject_30 : decode cX2_reject 30 = .ok (.getfield 135, 3) := by decide +kernel
theorem dX2_reject_33 : decode cX2_reject 33 = .ok (.iload_n 2, 1) := by decide +kernel
theorem dX2_reject_34 : decode cX2_reject 34 = .ok (.aaload, 1) := by decide +kernel
theorem dX2_reject_35 : decode cX2_reject 35 = .ok (.invokevirtual 146, 3) := by decide +kernel
theorem dX2_reject_38 : decode cX2_reject 38 = .ok (.iinc 2 1, 3) := by decide +kernel
theorem dX2_reject_41 : decode cX2_reject 41 = .ok (.goto (-34), 3) := by decide +kernel
theorem dX2_reject_44 : decode cX2_reject 44 = .ok (.return_, 1) := by decide +kernel
theorem dX2_learn_0 : decode cX2_learn 0 = .ok (.aload_n 1, 1) := by decide +kernel
theorem dX2_learn_1 : decode cX2_learn 1 = .ok (.getfield 57, 3) := by decide +kernel
theorem dX2_learn_4 : decode cX2_learn 4 = .ok (.iconst 4, 1) := by decide +kernel
theorem dX2_learn_5 : decode cX2_learn 5 = .ok (.if_icmp .ne 4, 3) := by decide +kernel
theorem dX2_learn_8 : decode cX2_learn 8 = .ok (.return_, 1) := by decide +kernel
theorem dX2_learn_9 : decode cX2_learn 9 = .ok (.iload_n 2, 1) := by decide +kernel
theorem dX2_learn_10 : decode cX2_learn 10 = .ok (.ifCond .eq 8, 3) := by decide +kernel
theorem dX2_learn_13 : decode cX2_learn 13 = .ok (.aload_n 0, 1) := by decide +kernel
theorem dX2_learn_14 : decode cX2_learn 14 = .ok (.aload_n 1, 1) := by decide +kernel
theorem dX2_learn_15 : decode cX2_learn 15 = .ok (.invokevirtual 149, 3) := by decide +kernel
theorem dX2_learn_18 : decode cX2_learn 18 = .ok (.iconst 0, 1) := by decide +kernel
theorem dX2_learn_19 : decode cX2_learn 19 = .ok (.istore_n 3, 1) := by decide +kernel
theorem dX2_learn_20 : decode cX2_learn 20 = .ok (.iload_n 3, 1) := by decide +kernel
theorem dX2_learn_21 : decode cX2_learn 21 = .ok (.aload_n 0, 1) := by decide +kernel
theorem dX2_learn_22 : decode cX2_learn 22 = .ok (.getfield 25, 3) := by decide +kernel
theorem dX2_learn_25 : decode cX2_learn 25 = .ok (.invokevirtual 60, 3) := by decide +kernel
theorem dX2_learn_28 : decode cX2_learn 28 = .ok (.if_icmp .ge 44, 3) := by decide +kernel
theorem dX2_learn_31 : decode cX2_learn 31 = .ok (.aload_n 0, 1) := by decide +kernel
theorem dX2_learn_32 : decode cX2_learn 32 = .ok (.getfield 25, 3) := by decide +kernel
theorem dX2_learn_35 : decode cX2_learn 35 = .ok (.iload_n 3, 1) := by decide +kernel
theorem dX2_learn_36 : decode cX2_learn 36 = .ok (.invokevirtual 64, 3) := by decide +kernel
theorem dX2_learn_39 : decode cX2_learn 39 = .ok (.checkcast 49, 3) := by decide +kernel
theorem dX2_learn_42 : decode cX2_learn 42 = .ok (.astore 4, 2) := by decide +kernel
theorem dX2_learn_44 : decode cX2_learn 44 = .ok (.aload 4, 2) := by decide +kernel
theorem dX2_learn_46 : decode cX2_learn 46 = .ok (.aload_n 1, 1) := by decide +kernel
theorem dX2_learn_47 : decode cX2_learn 47 = .ok (.if_acmp .eq 12, 3) := by decide +kernel
theorem dX2_learn_50 : decode cX2_learn 50 = .ok (.aload_n 1, 1) := by decide +kernel
theorem dX2_learn_51 : decode cX2_learn 51 = .ok (.aload 4, 2) := by decide +kernel
theorem dX2_learn_53 : decode cX2_learn 53 = .ok (.invokevirtual 122, 3) := by decide +kernel
theorem dX2_learn_56 : decode cX2_learn 56 = .ok (.ifCond .eq 10, 3) := by decide +kernel
theorem dX2_learn_59 : decode cX2_learn 59 = .ok (.aload_n 0, 1) := by decide +kernel
theorem dX2_learn_60 : decode cX2_learn 60 = .ok (.aload 4, 2) := by decide +kernel
theorem dX2_learn_62 : decode cX2_learn 62 = .ok (.iload_n 2, 1) := by decide +kernel
theorem dX2_learn_63 : decode cX2_learn 63 = .ok (.invokevirtual 152, 3) := by decide +kernel
theorem dX2_learn_66 : decode cX2_learn 66 = .ok (.iinc 3 1, 3) := by decide +kernel
theorem dX2_learn_69 : decode cX2_learn 69 = .ok (.goto (-49), 3) := by decide +kernel
theorem dX2_learn_72 : decode cX2_learn 72 = .ok (.aload_n 0, 1) := by decide +kernel
theorem dX2_learn_73 : decode cX2_learn 73 = .ok (.invokevirtual 156, 3) := by decide +kernel
theorem dX2_learn_76 : decode cX2_learn 76 = .ok (.return_, 1) := by decide +kernel
theorem dX2_giveChit_0 : decode cX2_giveChit 0 = .ok (.aload_n 1, 1) := by decide +kernel
theorem dX2_giveChit_1 : decode cX2_giveChit 1 = .ok (.iconst 1, 1) := by decide +kernel
theorem dX2_giveChit_2 : decode cX2_giveChit 2 = .ok (.putfield 159, 3) := by decide +kernel
theorem dX2_giveChit_5 : decode cX2_giveChit 5 = .ok (.aload_n 1, 1) := by decide +kernel
theorem dX2_giveChit_6 : decode cX2_giveChit 6 = .ok (.dup, 1) := by decide +kernel
theorem dX2_giveChit_7 : decode cX2_giveChit 7 = .ok (.getfield 163, 3) := by decide +kernel
theorem dX2_giveChit_10 : decode cX2_giveChit 10 = .ok (.iconst 1, 1) := by decide +kernel
theorem dX2_giveChit_11 : decode cX2_giveChit 11 = .ok (.iadd, 1) := by decide +kernel
theorem dX2_giveChit_12 : decode cX2_giveChit 12 = .ok (.putfield 163, 3) := by decide +kernel
theorem dX2_giveChit_15 : decode cX2_giveChit 15 = .ok (.iconst 0, 1) := by decide +kernel
theorem dX2_giveChit_16 : decode cX2_giveChit 16 = .ok (.istore_n 2, 1) := by decide +kernel
theorem dX2_giveChit_17 : decode cX2_giveChit 17 = .ok (.iload_n 2, 1) := by decide +kernel
theorem dX2_giveChit_18 : decode cX2_giveChit 18 = .ok (.aload_n 0, 1) := by decide +kernel
theorem dX2_giveChit_19 : decode cX2_giveChit 19 = .ok (.getfield 25, 3) := by decide +kernel
theorem dX2_giveChit_22 : decode cX2_giveChit 22 = .ok (.invokevirtual 60, 3) := by decide +kernel
theorem dX2_giveChit_25 : decode cX2_giveChit 25 = .ok (.if_icmp .ge 39, 3) := by decide +kernel
theorem dX2_giveChit_28 : decode cX2_giveChit 28 = .ok (.aload_n 0, 1) := by decide +kernel
theorem dX2_giveChit_29 : decode cX2_giveChit 29 = .ok (.getfield 25, 3) := by decide +kernel
theorem dX2_giveChit_32 : decode cX2_giveChit 32 = .ok (.iload_n 2, 1) := by decide +kernel
theorem dX2_giveChit_33 : decode cX2_giveChit 33 = .ok (.invokevirtual 64, 3) := by decide +kernel
theorem dX2_giveChit_36 : decode cX2_giveChit 36 = .ok (.checkcast 49, 3) := by decide +kernel
theorem dX2_giveChit_39 : decode cX2_giveChit 39 = .ok (.astore_n 3, 1) := by decide +kernel
theorem dX2_giveChit_40 : decode cX2_giveChit 40 = .ok (.aload_n 1, 1) := by decide +kernel
theorem dX2_giveChit_41 : decode cX2_giveChit 41 = .ok (.aload_n 3, 1) := by decide +kernel
theorem dX2_giveChit_42 : decode cX2_giveChit 42 = .ok (.invokevirtual 122, 3) := by decide +kernel
theorem dX2_giveChit_45 : decode cX2_giveChit 45 = .ok (.ifCond .eq 13, 3) := by decide +kernel
theorem dX2_giveChit_48 : decode cX2_giveChit 48 = .ok (.aload_n 3, 1) := by decide +kernel
theorem dX2_giveChit_49 : decode cX2_giveChit 49 = .ok (.dup, 1) := by decide +kernel
theorem dX2_giveChit_50 : decode cX2_giveChit 50 = .ok (.getfield 163, 3) := by decide +kernel
theorem dX2_giveChit_53 : decode cX2_giveChit 53 = .ok (.iconst 1, 1) := by decide +kernel
theorem dX2_giveChit_54 : decode cX2_giveChit 54 = .ok (.iadd, 1) := by decide +kernel
theorem dX2_giveChit_55 : decode cX2_giveChit 55 = .ok (.putfield 163, 3) := by decide +kernel
theorem dX2_giveChit_58 : decode cX2_giveChit 58 = .ok (.iinc 2 1, 3) := by decide +kernel
theorem dX2_giveChit_61 : decode cX2_giveChit 61 = .ok (.goto (-44), 3) := by decide +kernel
theorem dX2_giveChit_64 : decode cX2_giveChit 64 = .ok (.return_, 1) := by decide +kernel
theorem dX2_moveSets_0 : decode cX2_moveSets 0 = .ok (.iconst 0, 1) := by decide +kernel
theorem dX2_moveSets_1 : decode cX2_moveSets 1 = .ok (.istore_n 3, 1) := by decide +kernel
theorem dX2_moveSets_2 : decode cX2_moveSets 2 = .ok (.iload_n 3, 1) := by decide +kernel
theorem dX2_moveSets_3 : decode cX2_moveSets 3 = .ok (.aload_n 1, 1) := by decide +kernel
theorem dX2_moveSets_4 : decode cX2_moveSets 4 = .ok (.getfield 135, 3) := by decide +kernel
theorem dX2_moveSets_7 : decode cX2_moveSets 7 = .ok (.arraylength, 1) := by decide +kernel
theorem dX2_moveSets_8 : decode cX2_moveSets 8 = .ok (.if_icmp .ge 36, 3) := by decide +kernel
theorem dX2_moveSets_11 : decode cX2_moveSets 11 = .ok (.iload_n 2, 1) := by decide +kernel
theorem dX2_moveSets_12 : decode cX2_moveSets 12 = .ok (.ifCond .eq 16, 3) := by decide +kernel
theorem dX2_moveSets_15 : decode cX2_moveSets 15 = .ok (.aload_n 1, 1) := by decide +kernel
theorem dX2_moveSets_16 : decode cX2_moveSets 16 = .ok (.getfield 135, 3) := by decide +kernel
theorem dX2_moveSets_19 : decode cX2_moveSets 19 = .ok (.iload_n 3, 1) := by decide +kernel
theorem dX2_moveSets_20 : decode cX2_moveSets 20 = .ok (.aaload, 1) := by decide +kernel
theorem dX2_moveSets_21 : decode cX2_moveSets 21 = .ok (.aload_n 1, 1) := by decide +kernel
theorem dX2_moveSets_22 : decode cX2_moveSets 22 = .ok (.invokevirtual 166, 3) := by decide +kernel
theorem dX2_moveSets_25 : decode cX2_moveSets 25 = .ok (.goto 13, 3) := by decide +kernel
theorem dX2_moveSets_28 : decode cX2_moveSets 28 = .ok (.aload_n 1, 1) := by decide +kernel
theorem dX2_moveSets_29 : decode cX2_moveSets 29 = .ok (.getfield 135, 3) := by decide +kernel
theorem dX2_moveSets_32 : decode cX2_moveSets 32 = .ok (.iload_n 3, 1) := by decide +kernel
theorem dX2_moveSets_33 : decode cX2_moveSets 33 = .ok (.aaload, 1) := by decide +kernel
theorem dX2_moveSets_34 : decode cX2_moveSets 34 = .ok (.iconst 0, 1) := by decide +kernel
theorem dX2_moveSets_35 : decode cX2_moveSets 35 = .ok (.putfield 169, 3) := by decide +kernel
theorem dX2_moveSets_38 : decode cX2_moveSets 38 = .ok (.iinc 3 1, 3) := by decide +kernel
theorem dX2_moveSets_41 : decode cX2_moveSets 41 = .ok (.goto (-39), 3) := by decide +kernel
theorem dX2_moveSets_44 : decode cX2_moveSets 44 = .ok (.return_, 1) := by decide +kernel
theorem dX2_acceptWhatIsReady_0 : decode cX2_acceptWhatIsReady 0 = .ok (.iconst 0, 1) := by decide +kernel
theorem dX2_acceptWhatIsReady_1 : decode cX2_acceptWhatIsReady 1 = .ok (.istore_n 1, 1) := by decide +kernel
theorem dX2_acceptWhatIsReady_2 : decode cX2_acceptWhatIsReady 2 = .ok (.iload_n 1, 1) := by decide +kernel
theorem dX2_acceptWhatIsReady_3 : decode cX2_acceptWhatIsReady 3 = .ok (.aload_n 0, 1) := by decide +kernel
theorem dX2_acceptWhatIsReady_4 : decode cX2_acceptWhatIsReady 4 = .ok (.getfield 25, 3) := by decide +kernel
theorem dX2_acceptWhatIsReady_7 : decode cX2_acceptWhatIsReady 7 = .ok (.invokevirtual 60, 3) := by decide +kernel
theorem dX2_acceptWhatIsReady_10 : decode cX2_acceptWhatIsReady 10 = .ok (.if_icmp .ge 41, 3) := by decide +kernel
theorem dX2_acceptWhatIsReady_13 : decode cX2_acceptWhatIsReady 13 = .ok (.aload_n 0, 1) := by decide +kernel
theorem dX2_acceptWhatIsReady_14 : decode cX2_acceptWhatIsReady 14 = .ok (.getfield 25, 3) := by decide +kernel
theorem dX2_acceptWhatIsReady_17 : decode cX2_acceptWhatIsReady 17 = .ok (.iload_n 1, 1) := by decide +kernel
theorem dX2_acceptWhatIsReady_18 : decode cX2_acceptWhatIsReady 18 = .ok (.invokevirtual 64, 3) := by decide +kernel
theorem dX2_acceptWhatIsReady_21 : decode cX2_acceptWhatIsReady 21 = .ok (.checkcast 49, 3) := by decide +kernel
theorem dX2_acceptWhatIsReady_24 : decode cX2_acceptWhatIsReady 24 = .ok (.astore_n 2, 1) := by decide +kernel
theorem dX2_acceptWhatIsReady_25 : decode cX2_acceptWhatIsReady 25 = .ok (.aload_n 2, 1) := by decide +kernel
theorem dX2_acceptWhatIsReady_26 : decode cX2_acceptWhatIsReady 26 = .ok (.invokevirtual 172, 3) := by decide +kernel
theorem dX2_acceptWhatIsReady_29 : decode cX2_acceptWhatIsReady 29 = .ok (.ifCond .eq 16, 3) := by decide +kernel
theorem dX2_acceptWhatIsReady_32 : decode cX2_acceptWhatIsReady 32 = .ok (.aload_n 0, 1) := by decide +kernel
theorem dX2_acceptWhatIsReady_33 : decode cX2_acceptWhatIsReady 33 = .ok (.aload_n 2, 1) := by decide +kernel
theorem dX2_acceptWhatIsReady_34 : decode cX2_acceptWhatIsReady 34 = .ok (.invokevirtual 175, 3) := by decide +kernel
theorem dX2_acceptWhatIsReady_37 : decode cX2_acceptWhatIsReady 37 = .ok (.ifCond .eq 8, 3) := by decide +kernel
theorem dX2_acceptWhatIsReady_40 : decode cX2_acceptWhatIsReady 40 = .ok (.aload_n 0, 1) := by decide +kernel
theorem dX2_acceptWhatIsReady_41 : decode cX2_acceptWhatIsReady 41 = .ok (.aload_n 2, 1) := by decide +kernel
theorem dX2_acceptWhatIsReady_42 : decode cX2_acceptWhatIsReady 42 = .ok (.invokevirtual 178, 3) := by decide +kernel
theorem dX2_acceptWhatIsReady_45 : decode cX2_acceptWhatIsReady 45 = .ok (.iinc 1 1, 3) := by decide +kernel
theorem dX2_acceptWhatIsReady_48 : decode cX2_acceptWhatIsReady 48 = .ok (.goto (-46), 3) := by decide +kernel
theorem dX2_acceptWhatIsReady_51 : decode cX2_acceptWhatIsReady 51 = .ok (.return_, 1) := by decide +kernel
theorem dX2_isReady_0 : decode cX2_isReady 0 = .ok (.aload_n 1, 1) := by decide +kernel
theorem dX2_isReady_1 : decode cX2_isReady 1 = .ok (.invokevirtual 181, 3) := by decide +kernel
theorem dX2_isReady_4 : decode cX2_isReady 4 = .ok (.ifCond .eq 10, 3) := by decide +kernel
theorem dX2_isReady_7 : decode cX2_isReady 7 = .ok (.aload_n 1, 1) := by decide +kernel
theorem dX2_isReady_8 : decode cX2_isReady 8 = .ok (.invokevirtual 184, 3) := by decide +kernel
theorem dX2_isReady_11 : decode cX2_isReady 11 = .ok (.ifCond .ne 5, 3) := by decide +kernel
theorem dX2_isReady_14 : decode cX2_isReady 14 = .ok (.iconst 0, 1) := by decide +kernel
theorem dX2_isReady_15 : decode cX2_isReady 15 = .ok (.ireturn, 1) := by decide +kernel
theorem dX2_isReady_16 : decode cX2_isReady 16 = .ok (.iconst 0, 1) := by decide +kernel
theorem dX2_isReady_17 : decode cX2_isReady 17 = .ok (.istore_n 2, 1) := by decide +kernel
theorem dX2_isReady_18 : decode cX2_isReady 18 = .ok (.iload_n 2, 1) := by decide +kernel
theorem dX2_isReady_19 : decode cX2_isReady 19 = .ok (.aload_n 1, 1) := by decide +kernel
theorem dX2_isReady_20 : decode cX2_isReady 20 = .ok (.getfield 135, 3) := by decide +kernel
theorem dX2_isReady_23 : decode cX2_isReady 23 = .ok (.arraylength, 1) := by decide +kernel
theorem dX2_isReady_24 : decode cX2_isReady 24 = .ok (.if_icmp .ge 59, 3) := by decide +kernel
theorem dX2_isReady_27 : decode cX2_isReady 27 = .ok (.aload_n 1, 1) := by decide +kernel
theorem dX2_isReady_28 : decode cX2_isReady 28 = .ok (.getfield 135, 3) := by decide +kernel
theorem dX2_isReady_31 : decode cX2_isReady 31 = .ok (.iload_n 2, 1) := by decide +kernel
theorem dX2_isReady_32 : decode cX2_isReady 32 = .ok (.aaload, 1) := by decide +kernel
theorem dX2_isReady_33 : decode cX2_isReady 33 = .ok (.astore_n 3, 1) := by decide +kernel
theorem dX2_isReady_34 : decode cX2_isReady 34 = .ok (.aload_n 3, 1) := by decide +kernel
theorem dX2_isReady_35 : decode cX2_isReady 35 = .ok (.getfield 187, 3) := by decide +kernel
theorem dX2_isReady_38 : decode cX2_isReady 38 = .ok (.invokevirtual 60, 3) := by decide +kernel
theorem dX2_isReady_41 : decode cX2_isReady 41 = .ok (.iconst 1, 1) := by decide +kernel
theorem dX2_isReady_42 : decode cX2_isReady 42 = .ok (.if_icmp .ne 10, 3) := by decide +kernel
theorem dX2_isReady_45 : decode cX2_isReady 45 = .ok (.aload_n 0, 1) := by decide +kernel
theorem dX2_isReady_46 : decode cX2_isReady 46 = .ok (.getfield 9, 3) := by decide +kernel
theorem dX2_isReady_49 : decode cX2_isReady 49 = .ok (.goto 7, 3) := by decide +kernel
theorem dX2_isReady_52 : decode cX2_isReady 52 = .ok (.aload_n 0, 1) := by decide +kernel
theorem dX2_isReady_53 : decode cX2_isReady 53 = .ok (.getfield 15, 3) := by decide +kernel
theorem dX2_isReady_56 : decode cX2_isReady 56 = .ok (.istore 4, 2) := by decide +kernel
theorem dX2_isReady_58 : decode cX2_isReady 58 = .ok (.aload_n 3, 1) := by decide +kernel
theorem dX2_isReady_59 : decode cX2_isReady 59 = .ok (.getfield 190, 3) := by decide +kernel
theorem dX2_isReady_62 : decode cX2_isReady 62 = .ok (.aload_n 1, 1) := by decide +kernel
theorem dX2_isReady_63 : decode cX2_isReady 63 = .ok (.if_acmp .ne 12, 3) := by decide +kernel
theorem dX2_isReady_66 : decode cX2_isReady 66 = .ok (.aload_n 3, 1) := by decide +kernel
theorem dX2_isReady_67 : decode cX2_isReady 67 = .ok (.getfield 169, 3) := by decide +kernel
theorem dX2_isReady_70 : decode cX2_isReady 70 = .ok (.iload 4, 2) := by decide +kernel
theorem dX2_isReady_72 : decode cX2_isReady 72 = .ok (.if_icmp .ge 5, 3) := by decide +kernel
theorem dX2_isReady_75 : decode cX2_isReady 75 = .ok (.iconst 0, 1) := by decide +kernel
theorem dX2_isReady_76 : decode cX2_isReady 76 = .ok (.ireturn, 1) := by decide +kernel
theorem dX2_isReady_77 : decode cX2_isReady 77 = .ok (.iinc 2 1, 3) := by decide +kernel
theorem dX2_isReady_80 : decode cX2_isReady 80 = .ok (.goto (-62), 3) := by decide +kernel
theorem dX2_isReady_83 : decode cX2_isReady 83 = .ok (.iconst 1, 1) := by decide +kernel
theorem dX2_isReady_84 : decode cX2_isReady 84 = .ok (.ireturn, 1) := by decide +kernel
theorem dX2_accept_0 : decode cX2_accept 0 = .ok (.aload_n 1, 1) := by decide +kernel
theorem dX2_accept_1 : decode cX2_accept 1 = .ok (.iconst 3, 1) := by decide +kernel
theorem dX2_accept_2 : decode cX2_accept 2 = .ok (.putfield 57, 3) := by decide +kernel
theorem dX2_accept_5 : decode cX2_accept 5 = .ok (.aload_n 0, 1) := by decide +kernel
theorem dX2_accept_6 : decode cX2_accept 6 = .ok (.getfield 28, 3) := by decide +kernel
theorem dX2_accept_9 : decode cX2_accept 9 = .ok (.aload_n 1, 1) := by decide +kernel
theorem dX2_accept_10 : decode cX2_accept 10 = .ok (.invokevirtual 39, 3) := by decide +kernel
theorem dX2_accept_13 : decode cX2_accept 13 = .ok (.pop, 1) := by decide +kernel
theorem dX2_accept_14 : decode cX2_accept 14 = .ok (.iconst 0, 1) := by decide +kernel
theorem dX2_accept_15 : decode cX2_accept 15 = .ok (.istore_n 2, 1) := by decide +kernel
theorem dX2_accept_16 : decode cX2_accept 16 = .ok (.iload_n 2, 1) := by decide +kernel
theorem dX2_accept_17 : decode cX2_accept 17 = .ok (.aload_n 1, 1) := by decide +kernel
theorem dX2_accept_18 : decode cX2_accept 18 = .ok (.getfield 135, 3) := by decide +kernel
theorem dX2_accept_21 : decode cX2_accept 21 = .ok (.arraylength, 1) := by decide +kernel
theorem dX2_accept_22 : decode cX2_accept 22 = .ok (.if_icmp .ge 19, 3) := by decide +kernel
theorem dX2_accept_25 : decode cX2_accept 25 = .ok (.aload_n 1, 1) := by decide +kernel
theorem dX2_accept_26 : decode cX2_accept 26 = .ok (.getfield 135, 3) := by decide +kernel
theorem dX2_accept_29 : decode cX2_accept 29 = .ok (.iload_n 2, 1) := by decide +kernel
theorem dX2_accept_30 : decode cX2_accept 30 = .ok (.aaload, 1) := by decide +kernel
theorem dX2_accept_31 : decode cX2_accept 31 = .ok (.aload_n 1, 1) := by decide +kernel
theorem dX2_accept_32 : decode cX2_accept 32 = .ok (.putfield 193, 3) := by decide +kernel
theorem dX2_accept_35 : decode cX2_accept 35 = .ok (.iinc 2 1, 3) := by decide +kernel
theorem dX2_accept_38 : decode cX2_accept 38 = .ok (.goto (-22), 3) := by decide +kernel
theorem dX2_accept_41 : decode cX2_accept 41 = .ok (.iconst 0, 1) := by decide +kernel
theorem dX2_accept_42 : decode cX2_accept 42 = .ok (.istore_n 2, 1) := by decide +kernel
theorem dX2_accept_43 : decode cX2_accept 43 = .ok (.iload_n 2, 1) := by decide +kernel
theorem dX2_accept_44 : decode cX2_accept 44 = .ok (.aload_n 0, 1) := by decide +kernel
theorem dX2_accept_45 : decode cX2_accept 45 = .ok (.getfield 25, 3) := by decide +kernel
theorem dX2_accept_48 : decode cX2_accept 48 = .ok (.invokevirtual 60, 3) := by decide +kernel
theorem dX2_accept_51 : decode cX2_accept 51 = .ok (.if_icmp .ge 48, 3) := by decide +kernel
theorem dX2_accept_54 : decode cX2_accept 54 = .ok (.aload_n 0, 1) := by decide +kernel
theorem dX2_accept_55 : decode cX2_accept 55 = .ok (.getfield 25, 3) := by decide +kernel
theorem dX2_accept_58 : decode cX2_accept 58 = .ok (.iload_n 2, 1) := by decide +kernel
theorem dX2_accept_59 : decode cX2_accept 59 = .ok (.invokevirtual 64, 3) := by decide +kernel
theorem dX2_accept_62 : decode cX2_accept 62 = .ok (.checkcast 49, 3) := by decide +kernel
theorem dX2_accept_65 : decode cX2_accept 65 = .ok (.astore_n 3, 1) := by decide +kernel
theorem dX2_accept_66 : decode cX2_accept 66 = .ok (.aload_n 3, 1) := by decide +kernel
theorem dX2_accept_67 : decode cX2_accept 67 = .ok (.invokevirtual 172, 3) := by decide +kernel
theorem dX2_accept_70 : decode cX2_accept 70 = .ok (.ifCond .eq 23, 3) := by decide +kernel
theorem dX2_accept_73 : decode cX2_accept 73 = .ok (.aload_n 3, 1) := by decide +kernel
theorem dX2_accept_74 : decode cX2_accept 74 = .ok (.aload_n 1, 1) := by decide +kernel
theorem dX2_accept_75 : decode cX2_accept 75 = .ok (.invokevirtual 195, 3) := by decide +kernel
theorem dX2_accept_78 : decode cX2_accept 78 = .ok (.ifCond .ne 10, 3) := by decide +kernel
theorem dX2_accept_81 : decode cX2_accept 81 = .ok (.aload_n 3, 1) := by decide +kernel
theorem dX2_accept_82 : decode cX2_accept 82 = .ok (.invokevirtual 99, 3) := by decide +kernel
theorem dX2_accept_85 : decode cX2_accept 85 = .ok (.ifCond .eq 8, 3) := by decide +kernel
theorem dX2_accept_88 : decode cX2_accept 88 = .ok (.aload_n 0, 1) := by decide +kernel
theorem dX2_accept_89 : decode cX2_accept 89 = .ok (.aload_n 3, 1) := by decide +kernel
theorem dX2_accept_90 : decode cX2_accept 90 = .ok (.invokevirtual 105, 3) := by decide +kernel
theorem dX2_accept_93 : decode cX2_accept 93 = .ok (.iinc 2 1, 3) := by decide +kernel
theorem dX2_accept_96 : decode cX2_accept 96 = .ok (.goto (-53), 3) := by decide +kernel
theorem dX2_accept_99 : decode cX2_accept 99 = .ok (.return_, 1) := by decide +kernel
theorem dX2_markStrong_0 : decode cX2_markStrong 0 = .ok (.iconst 0, 1) := by decide +kernel
theorem dX2_markStrong_1 : decode cX2_markStrong 1 = .ok (.istore_n 1, 1) := by decide +kernel
theorem dX2_markStrong_2 : decode cX2_markStrong 2 = .ok (.iload_n 1, 1) := by decide +kernel
theorem dX2_markStrong_3 : decode cX2_markStrong 3 = .ok (.aload_n 0, 1) := by decide +kernel
theorem dX2_markStrong_4 : decode cX2_markStrong 4 = .ok (.getfield 25, 3) := by decide +kernel
theorem dX2_markStrong_7 : decode cX2_markStrong 7 = .ok (.invokevirtual 60, 3) := by decide +kernel
theorem dX2_markStrong_10 : decode cX2_markStrong 10 = .ok (.if_icmp .ge 83, 3) := by decide +kernel
theorem dX2_markStrong_13 : decode cX2_markStrong 13 = .ok (.aload_n 0, 1) := by decide +kernel
theorem dX2_markStrong_14 : decode cX2_markStrong 14 = .ok (.getfield 25, 3) := by decide +kernel
theorem dX2_markStrong_17 : decode cX2_markStrong 17 = .ok (.iload_n 1, 1) := by decide +kernel
theorem dX2_markStrong_18 : decode cX2_markStrong 18 = .ok (.invokevirtual 64, 3) := by decide +kernel
theorem dX2_markStrong_21 : decode cX2_markStrong 21 = .ok (.checkcast 49, 3) := by decide +kernel
theorem dX2_markStrong_24 : decode cX2_markStrong 24 = .ok (.astore_n 2, 1) := by decide +kernel
theorem dX2_markStrong_25 : decode cX2_markStrong 25 = .ok (.aload_n 2, 1) := by decide +kernel
theorem dX2_markStrong_26 : decode cX2_markStrong 26 = .ok (.iconst 0, 1) := by decide +kernel
theorem dX2_markStrong_27 : decode cX2_markStrong 27 = .ok (.putfield 198, 3) := by decide +kernel
theorem dX2_markStrong_30 : decode cX2_markStrong 30 = .ok (.aload_n 2, 1) := by decide +kernel
theorem dX2_markStrong_31 : decode cX2_markStrong 31 = .ok (.aload_n 2, 1) := by decide +kernel
theorem dX2_markStrong_32 : decode cX2_markStrong 32 = .ok (.invokevirtual 184, 3) := by decide +kernel
theorem dX2_markStrong_35 : decode cX2_markStrong 35 = .ok (.ifCond .eq 14, 3) := by decide +kernel
theorem dX2_markStrong_38 : decode cX2_markStrong 38 = .ok (.aload_n 2, 1) := by decide +kernel
theorem dX2_markStrong_39 : decode cX2_markStrong 39 = .ok (.invokevirtual 201, 3) := by decide +kernel
theorem dX2_markStrong_42 : decode cX2_markStrong 42 = .ok (.ifCond .eq 7, 3) := by decide +kernel
theorem dX2_markStrong_45 : decode cX2_markStrong 45 = .ok (.iconst 1, 1) := by decide +kernel
theorem dX2_markStrong_46 : decode cX2_markStrong 46 = .ok (.goto 4, 3) := by decide +kernel
theorem dX2_markStrong_49 : decode cX2_markStrong 49 = .ok (.iconst 0, 1) := by decide +kernel
theorem dX2_markStrong_50 : decode cX2_markStrong 50 = .ok (.putfield 204, 3) := by decide +kernel
theorem dX2_markStrong_53 : decode cX2_markStrong 53 = .ok (.iconst 0, 1) := by decide +kernel
theorem dX2_markStrong_54 : decode cX2_markStrong 54 = .ok (.istore_n 3, 1) := by decide +kernel
theorem dX2_markStrong_55 : decode cX2_markStrong 55 = .ok (.iload_n 3, 1) := by decide +kernel
theorem dX2_markStrong_56 : decode cX2_markStrong 56 = .ok (.aload_n 2, 1) := by decide +kernel
theorem dX2_markStrong_57 : decode cX2_markStrong 57 = .ok (.getfield 115, 3) := by decide +kernel
theorem dX2_markStrong_60 : decode cX2_markStrong 60 = .ok (.arraylength, 1) := by decide +kernel
theorem dX2_markStrong_61 : decode cX2_markStrong 61 = .ok (.if_icmp .ge 26, 3) := by decide +kernel
theorem dX2_markStrong_64 : decode cX2_markStrong 64 = .ok (.aload_n 2, 1) := by decide +kernel
theorem dX2_markStrong_65 : decode cX2_markStrong 65 = .ok (.getfield 204, 3) := by decide +kernel
theorem dX2_markStrong_68 : decode cX2_markStrong 68 = .ok (.ifCond .eq 19, 3) := by decide +kernel
theorem dX2_markStrong_71 : decode cX2_markStrong 71 = .ok (.aload_n 2, 1) := by decide +kernel
theorem dX2_markStrong_72 : decode cX2_markStrong 72 = .ok (.getfield 115, 3) := by decide +kernel
theorem dX2_markStrong_75 : decode cX2_markStrong 75 = .ok (.iload_n 3, 1) := by decide +kernel
theorem dX2_markStrong_76 : decode cX2_markStrong 76 = .ok (.aaload, 1) := by decide +kernel
theorem dX2_markStrong_77 : decode cX2_markStrong 77 = .ok (.iconst 1, 1) := by decide +kernel
theorem dX2_markStrong_78 : decode cX2_markStrong 78 = .ok (.putfield 198, 3) := by decide +kernel
theorem dX2_markStrong_81 : decode cX2_markStrong 81 = .ok (.iinc 3 1, 3) := by decide +kernel
theorem dX2_markStrong_84 : decode cX2_markStrong 84 = .ok (.goto (-29), 3) := by decide +kernel
theorem dX2_markStrong_87 : decode cX2_markStrong 87 = .ok (.iinc 1 1, 3) := by decide +kernel
theorem dX2_markStrong_90 : decode cX2_markStrong 90 = .ok (.goto (-88), 3) := by decide +kernel
theorem dX2_markStrong_93 : decode cX2_markStrong 93 = .ok (.return_, 1) := by decide +kernel
theorem dX2_firstToPoll_0 : decode cX2_firstToPoll 0 = .ok (.iconst 0, 1) := by decide +kernel
theorem dX2_firstToPoll_1 : decode cX2_firstToPoll 1 = .ok (.istore_n 1, 1) := by decide +kernel
theorem dX2_firstToPoll_2 : decode cX2_firstToPoll 2 = .ok (.iload_n 1, 1) := by decide +kernel
theorem dX2_firstToPoll_3 : decode cX2_firstToPoll 3 = .ok (.aload_n 0, 1) := by decide +kernel
theorem dX2_firstToPoll_4 : decode cX2_firstToPoll 4 = .ok (.getfield 25, 3) := by decide +kernel
theorem dX2_firstToPoll_7 : decode cX2_firstToPoll 7 = .ok (.invokevirtual 60, 3) := by decide +kernel
theorem dX2_firstToPoll_10 : decode cX2_firstToPoll 10 = .ok (.if_icmp .ge 37, 3) := by decide +kernel
theorem dX2_firstToPoll_13 : decode cX2_firstToPoll 13 = .ok (.aload_n 0, 1) := by decide +kernel
theorem dX2_firstToPoll_14 : decode cX2_firstToPoll 14 = .ok (.getfield 25, 3) := by decide +kernel
theorem dX2_firstToPoll_17 : decode cX2_firstToPoll 17 = .ok (.iload_n 1, 1) := by decide +kernel
theorem dX2_firstToPoll_18 : decode cX2_firstToPoll 18 = .ok (.invokevirtual 64, 3) := by decide +kernel
theorem dX2_firstToPoll_21 : decode cX2_firstToPoll 21 = .ok (.checkcast 49, 3) := by decide +kernel
theorem dX2_firstToPoll_24 : decode cX2_firstToPoll 24 = .ok (.astore_n 2, 1) := by decide +kernel
theorem dX2_firstToPoll_25 : decode cX2_firstToPoll 25 = .ok (.aload_n 2, 1) := by decide +kernel
theorem dX2_firstToPoll_26 : decode cX2_firstToPoll 26 = .ok (.invokevirtual 172, 3) := by decide +kernel
theorem dX2_firstToPoll_29 : decode cX2_firstToPoll 29 = .ok (.ifCond .eq 12, 3) := by decide +kernel
theorem dX2_firstToPoll_32 : decode cX2_firstToPoll 32 = .ok (.aload_n 2, 1) := by decide +kernel
theorem dX2_firstToPoll_33 : decode cX2_firstToPoll 33 = .ok (.getfield 207, 3) := by decide +kernel
theorem dX2_firstToPoll_36 : decode cX2_firstToPoll 36 = .ok (.ifCond .ne 5, 3) := by decide +kernel
theorem dX2_firstToPoll_39 : decode cX2_firstToPoll 39 = .ok (.aload_n 2, 1) := by decide +kernel
theorem dX2_firstToPoll_40 : decode cX2_firstToPoll 40 = .ok (.areturn, 1) := by decide +kernel
theorem dX2_firstToPoll_41 : decode cX2_firstToPoll 41 = .ok (.iinc 1 1, 3) := by decide +kernel
theorem dX2_firstToPoll_44 : decode cX2_firstToPoll 44 = .ok (.goto (-42), 3) := by decide +kernel
theorem dX2_firstToPoll_47 : decode cX2_firstToPoll 47 = .ok (.aconst_null, 1) := by decide +kernel
theorem dX2_firstToPoll_48 : decode cX2_firstToPoll 48 = .ok (.areturn, 1) := by decide +kernel
theorem dX2_countDescendants_0 : decode cX2_countDescendants 0 = .ok (.iconst 0, 1) := by decide +kernel
theorem dX2_countDescendants_1 : decode cX2_countDescendants 1 = .ok (.istore_n 2, 1) := by decide +kernel
theorem dX2_countDescendants_2 : decode cX2_countDescendants 2 = .ok (.iconst 0, 1) := by decide +kernel
theorem dX2_countDescendants_3 : decode cX2_countDescendants 3 = .ok (.istore_n 3, 1) := by decide +kernel
theorem dX2_countDescendants_4 : decode cX2_countDescendants 4 = .ok (.iload_n 3, 1) := by decide +kernel
theorem dX2_countDescendants_5 : decode cX2_countDescendants 5 = .ok (.aload_n 0, 1) := by decide +kernel
theorem dX2_countDescendants_6 : decode cX2_countDescendants 6 = .ok (.getfield 25, 3) := by decide +kernel
theorem dX2_countDescendants_9 : decode cX2_countDescendants 9 = .ok (.invokevirtual 60, 3) := by decide +kernel
theorem dX2_countDescendants_12 : decode cX2_countDescendants 12 = .ok (.if_icmp .ge 30, 3) := by decide +kernel
theorem dX2_countDescendants_15 : decode cX2_countDescendants 15 = .ok (.aload_n 0, 1) := by decide +kernel
theorem dX2_countDescendants_16 : decode cX2_countDescendants 16 = .ok (.getfield 25, 3) := by decide +kernel
theorem dX2_countDescendants_19 : decode cX2_countDescendants 19 = .ok (.iload_n 3, 1) := by decide +kernel
theorem dX2_countDescendants_20 : decode cX2_countDescendants 20 = .ok (.invokevirtual 64, 3) := by decide +kernel
theorem dX2_countDescendants_23 : decode cX2_countDescendants 23 = .ok (.checkcast 49, 3) := by decide +kernel
theorem dX2_countDescendants_26 : decode cX2_countDescendants 26 = .ok (.aload_n 1, 1) := by decide +kernel
theorem dX2_countDescendants_27 : decode cX2_countDescendants 27 = .ok (.invokevirtual 122, 3) := by decide +kernel
theorem dX2_countDescendants_30 : decode cX2_countDescendants 30 = .ok (.ifCond .eq 6, 3) := by decide +kernel
theorem dX2_countDescendants_33 : decode cX2_countDescendants 33 = .ok (.iinc 2 1, 3) := by decide +kernel
theorem dX2_countDescendants_36 : decode cX2_countDescendants 36 = .ok (.iinc 3 1, 3) := by decide +kernel
theorem dX2_countDescendants_39 : decode cX2_countDescendants 39 = .ok (.goto (-35), 3) := by decide +kernel
theorem dX2_countDescendants_42 : decode cX2_countDescendants 42 = .ok (.iload_n 2, 1) := by decide +kernel
theorem dX2_countDescendants_43 : decode cX2_countDescendants 43 = .ok (.ireturn, 1) := by decide +kernel
theorem dX2_countStatus_0 : decode cX2_countStatus 0 = .ok (.iconst 0, 1) := by decide +kernel
theorem dX2_countStatus_1 : decode cX2_countStatus 1 = .ok (.istore_n 2, 1) := by decide +kernel
theorem dX2_countStatus_2 : decode cX2_countStatus 2 = .ok (.iconst 0, 1) := by decide +kernel
theorem dX2_countStatus_3 : decode cX2_countStatus 3 = .ok (.istore_n 3, 1) := by decide +kernel
theorem dX2_countStatus_4 : decode cX2_countStatus 4 = .ok (.iload_n 3, 1) := by decide +kernel
theorem dX2_countStatus_5 : decode cX2_countStatus 5 = .ok (.aload_n 0, 1) := by decide +kernel
theorem dX2_countStatus_6 : decode cX2_countStatus 6 = .ok (.getfield 21, 3) := by decide +kernel
theorem dX2_countStatus_9 : decode cX2_countStatus 9 = .ok (.invokevirtual 60, 3) := by decide +kernel
theorem dX2_countStatus_12 : decode cX2_countStatus 12 = .ok (.if_icmp .ge 30, 3) := by decide +kernel
theorem dX2_countStatus_15 : decode cX2_countStatus 15 = .ok (.aload_n 0, 1) := by decide +kernel
theorem dX2_countStatus_16 : decode cX2_countStatus 16 = .ok (.getfield 21, 3) := by decide +kernel
theorem dX2_countStatus_19 : decode cX2_countStatus 19 = .ok (.iload_n 3, 1) := by decide +kernel
theorem dX2_countStatus_20 : decode cX2_countStatus 20 = .ok (.invokevirtual 64, 3) := by decide +kernel
theorem dX2_countStatus_23 : decode cX2_countStatus 23 = .ok (.checkcast 49, 3) := by decide +kernel
theorem dX2_countStatus_26 : decode cX2_countStatus 26 = .ok (.getfield 57, 3) := by decide +kernel
theorem dX2_countStatus_29 : decode cX2_countStatus 29 = .ok (.iload_n 1, 1) := by decide +kernel
theorem dX2_countStatus_30 : decode cX2_countStatus 30 = .ok (.if_icmp .ne 6, 3) := by decide +kernel
theorem dX2_countStatus_33 : decode cX2_countStatus 33 = .ok (.iinc 2 1, 3) := by decide +kernel
theorem dX2_countStatus_36 : decode cX2_countStatus 36 = .ok (.iinc 3 1, 3) := by decide +kernel
theorem dX2_countStatus_39 : decode cX2_countStatus 39 = .ok (.goto (-35), 3) := by decide +kernel
theorem dX2_countStatus_42 : decode cX2_countStatus 42 = .ok (.iload_n 2, 1) := by decide +kernel
theorem dX2_countStatus_43 : decode cX2_countStatus 43 = .ok (.ireturn, 1) := by decide +kernel
theorem dX2_newParent_0 : decode cX2_newParent 0 = .ok (.iload_n 1, 1) := by decide +kernel
theorem dX2_newParent_1 : decode cX2_newParent 1 = .ok (.ifCond .lt 8, 3) := by decide +kernel
theorem dX2_newParent_4 : decode cX2_newParent 4 = .ok (.iload_n 1, 1) := by decide +kernel
theorem dX2_newParent_5 : decode cX2_newParent 5 = .ok (.iconst 4, 1) := by decide +kernel
theorem dX2_newParent_6 : decode cX2_newParent 6 = .ok (.if_icmp .lt 5, 3) := by decide +kernel
theorem dX2_newParent_9 : decode cX2_newParent 9 = .ok (.aconst_null, 1) := by decide +kernel
theorem dX2_newParent_10 : decode cX2_newParent 10 = .ok (.areturn, 1) := by decide +kernel
theorem dX2_newParent_11 : decode cX2_newParent 11 = .ok (.aload_n 0, 1) := by decide +kernel
theorem dX2_newParent_12 : decode cX2_newParent 12 = .ok (.invokevirtual 210, 3) := by decide +kernel
theorem dX2_newParent_15 : decode cX2_newParent 15 = .ok (.iload_n 1, 1) := by decide +kernel
theorem dX2_newParent_16 : decode cX2_newParent 16 = .ok (.istore_n 2, 1) := by decide +kernel
theorem dX2_newParent_17 : decode cX2_newParent 17 = .ok (.aload_n 0, 1) := by decide +kernel
theorem dX2_newParent_18 : decode cX2_newParent 18 = .ok (.getfield 25, 3) := by decide +kernel
theorem dX2_newParent_21 : decode cX2_newParent 21 = .ok (.invokevirtual 60, 3) := by decide +kernel
theorem dX2_newParent_24 : decode cX2_newParent 24 = .ok (.iconst 1, 1) := by decide +kernel
theorem dX2_newParent_25 : decode cX2_newParent 25 = .ok (.isub, 1) := by decide +kernel
theorem dX2_newParent_26 : decode cX2_newParent 26 = .ok (.istore_n 3, 1) := by decide +kernel
theorem dX2_newParent_27 : decode cX2_newParent 27 = .ok (.iload_n 3, 1) := by decide +kernel
theorem dX2_newParent_28 : decode cX2_newParent 28 = .ok (.ifCond .lt 48, 3) := by decide +kernel
theorem dX2_newParent_31 : decode cX2_newParent 31 = .ok (.aload_n 0, 1) := by decide +kernel
theorem dX2_newParent_32 : decode cX2_newParent 32 = .ok (.getfield 25, 3) := by decide +kernel
theorem dX2_newParent_35 : decode cX2_newParent 35 = .ok (.iload_n 3, 1) := by decide +kernel
theorem dX2_newParent_36 : decode cX2_newParent 36 = .ok (.invokevirtual 64, 3) := by decide +kernel
theorem dX2_newParent_39 : decode cX2_newParent 39 = .ok (.checkcast 49, 3) := by decide +kernel
theorem dX2_newParent_42 : decode cX2_newParent 42 = .ok (.astore 4, 2) := by decide +kernel
theorem dX2_newParent_44 : decode cX2_newParent 44 = .ok (.aload 4, 2) := by decide +kernel
theorem dX2_newParent_46 : decode cX2_newParent 46 = .ok (.getfield 204, 3) := by decide +kernel
theorem dX2_newParent_49 : decode cX2_newParent 49 = .ok (.ifCond .eq 21, 3) := by decide +kernel
theorem dX2_newParent_52 : decode cX2_newParent 52 = .ok (.aload 4, 2) := by decide +kernel
theorem dX2_newParent_54 : decode cX2_newParent 54 = .ok (.getfield 198, 3) := by decide +kernel
theorem dX2_newParent_57 : decode cX2_newParent 57 = .ok (.ifCond .ne 13, 3) := by decide +kernel
theorem dX2_newParent_60 : decode cX2_newParent 60 = .ok (.iload_n 2, 1) := by decide +kernel
theorem dX2_newParent_61 : decode cX2_newParent 61 = .ok (.ifCond .ne 6, 3) := by decide +kernel
theorem dX2_newParent_64 : decode cX2_newParent 64 = .ok (.aload 4, 2) := by decide +kernel
theorem dX2_newParent_66 : decode cX2_newParent 66 = .ok (.areturn, 1) := by decide +kernel
theorem dX2_newParent_67 : decode cX2_newParent 67 = .ok (.iinc 2 (-1), 3) := by decide +kernel
theorem dX2_newParent_70 : decode cX2_newParent 70 = .ok (.iinc 3 (-1), 3) := by decide +kernel
theorem dX2_newParent_73 : decode cX2_newParent 73 = .ok (.goto (-46), 3) := by decide +kernel
theorem dX2_newParent_76 : decode cX2_newParent 76 = .ok (.aconst_null, 1) := by decide +kernel
theorem dX2_newParent_77 : decode cX2_newParent 77 = .ok (.areturn, 1) := by decide +kernel
theorem dX2_acceptedAt_0 : decode cX2_acceptedAt 0 = .ok (.iload_n 1, 1) := by decide +kernel
theorem dX2_acceptedAt_1 : decode cX2_acceptedAt 1 = .ok (.ifCond .lt 14, 3) := by decide +kernel
theorem dX2_acceptedAt_4 : decode cX2_acceptedAt 4 = .ok (.iload_n 1, 1) := by decide +kernel
theorem dX2_acceptedAt_5 : decode cX2_acceptedAt 5 = .ok (.aload_n 0, 1) := by decide +kernel
theorem dX2_acceptedAt_6 : decode cX2_acceptedAt 6 = .ok (.getfield 28, 3) := by decide +kernel
theorem dX2_acceptedAt_9 : decode cX2_acceptedAt 9 = .ok (.invokevirtual 60, 3) := by decide +kernel
theorem dX2_acceptedAt_12 : decode cX2_acceptedAt 12 = .ok (.if_icmp .lt 7, 3) := by decide +kernel
theorem dX2_acceptedAt_15 : decode cX2_acceptedAt 15 = .ok (.aconst_null, 1) := by decide +kernel
theorem dX2_acceptedAt_16 : decode cX2_acceptedAt 16 = .ok (.goto 14, 3) := by decide +kernel
theorem dX2_acceptedAt_19 : decode cX2_acceptedAt 19 = .ok (.aload_n 0, 1) := by decide +kernel
theorem dX2_acceptedAt_20 : decode cX2_acceptedAt 20 = .ok (.getfield 28, 3) := by decide +kernel
theorem dX2_acceptedAt_23 : decode cX2_acceptedAt 23 = .ok (.iload_n 1, 1) := by decide +kernel
theorem dX2_acceptedAt_24 : decode cX2_acceptedAt 24 = .ok (.invokevirtual 64, 3) := by decide +kernel
theorem dX2_acceptedAt_27 : decode cX2_acceptedAt 27 = .ok (.checkcast 49, 3) := by decide +kernel
theorem dX2_acceptedAt_30 : decode cX2_acceptedAt 30 = .ok (.areturn, 1) := by decide +kernel
theorem dX2_missingParentId_0 : decode cX2_missingParentId 0 = .ok (.iconst 0, 1) := by decide +kernel
theorem dX2_missingParentId_1 : decode cX2_missingParentId 1 = .ok (.istore_n 2, 1) := by decide +kernel
theorem dX2_missingParentId_2 : decode cX2_missingParentId 2 = .ok (.iconst 0, 1) := by decide +kernel
theorem dX2_missingParentId_3 : decode cX2_missingParentId 3 = .ok (.istore_n 3, 1) := by decide +kernel
theorem dX2_missingParentId_4 : decode cX2_missingParentId 4 = .ok (.iload_n 3, 1) := by decide +kernel
theorem dX2_missingParentId_5 : decode cX2_missingParentId 5 = .ok (.aload_n 0, 1) := by decide +kernel
theorem dX2_missingParentId_6 : decode cX2_missingParentId 6 = .ok (.getfield 21, 3) := by decide +kernel
theorem dX2_missingParentId_9 : decode cX2_missingParentId 9 = .ok (.invokevirtual 60, 3) := by decide +kernel
theorem dX2_missingParentId_12 : decode cX2_missingParentId 12 = .ok (.if_icmp .ge 47, 3) := by decide +kernel
theorem dX2_missingParentId_15 : decode cX2_missingParentId 15 = .ok (.aload_n 0, 1) := by decide +kernel
theorem dX2_missingParentId_16 : decode cX2_missingParentId 16 = .ok (.getfield 21, 3) := by decide +kernel
theorem dX2_missingParentId_19 : decode cX2_missingParentId 19 = .ok (.iload_n 3, 1) := by decide +kernel
theorem dX2_missingParentId_20 : decode cX2_missingParentId 20 = .ok (.invokevirtual 64, 3) := by decide +kernel
theorem dX2_missingParentId_23 : decode cX2_missingParentId 23 = .ok (.checkcast 49, 3) := by decide +kernel
theorem dX2_missingParentId_26 : decode cX2_missingParentId 26 = .ok (.getfield 57, 3) := by decide +kernel
theorem dX2_missingParentId_29 : decode cX2_missingParentId 29 = .ok (.iconst 1, 1) := by decide +kernel
theorem dX2_missingParentId_30 : decode cX2_missingParentId 30 = .ok (.if_icmp .ne 23, 3) := by decide +kernel
theorem dX2_missingParentId_33 : decode cX2_missingParentId 33 = .ok (.aload_n 0, 1) := by decide +kernel
theorem dX2_missingParentId_34 : decode cX2_missingParentId 34 = .ok (.aload_n 0, 1) := by decide +kernel
theorem dX2_missingParentId_35 : decode cX2_missingParentId 35 = .ok (.getfield 21, 3) := by decide +kernel
theorem dX2_missingParentId_38 : decode cX2_missingParentId 38 = .ok (.iload_n 3, 1) := by decide +kernel
theorem dX2_missingParentId_39 : decode cX2_missingParentId 39 = .ok (.invokevirtual 64, 3) := by decide +kernel
theorem dX2_missingParentId_42 : decode cX2_missingParentId 42 = .ok (.checkcast 49, 3) := by decide +kernel
theorem dX2_missingParentId_45 : decode cX2_missingParentId 45 = .ok (.getfield 108, 3) := by decide +kernel
theorem dX2_missingParentId_48 : decode cX2_missingParentId 48 = .ok (.iload_n 2, 1) := by decide +kernel
theorem dX2_missingParentId_49 : decode cX2_missingParentId 49 = .ok (.invokevirtual 213, 3) := by decide +kernel
theorem dX2_missingParentId_52 : decode cX2_missingParentId 52 = .ok (.istore_n 2, 1) := by decide +kernel
theorem dX2_missingParentId_53 : decode cX2_missingParentId 53 = .ok (.iinc 3 1, 3) := by decide +kernel
theorem dX2_missingParentId_56 : decode cX2_missingParentId 56 = .ok (.goto (-52), 3) := by decide +kernel
theorem dX2_missingParentId_59 : decode cX2_missingParentId 59 = .ok (.iload_n 1, 1) := by decide +kernel
theorem dX2_missingParentId_60 : decode cX2_missingParentId 60 = .ok (.ifCond .lt 8, 3) := by decide +kernel
theorem dX2_missingParentId_63 : decode cX2_missingParentId 63 = .ok (.iload_n 1, 1) := by decide +kernel
theorem dX2_missingParentId_64 : decode cX2_missingParentId 64 = .ok (.iload_n 2, 1) := by decide +kernel
theorem dX2_missingParentId_65 : decode cX2_missingParentId 65 = .ok (.if_icmp .lt 7, 3) := by decide +kernel
theorem dX2_missingParentId_68 : decode cX2_missingParentId 68 = .ok (.iconst (-1), 1) := by decide +kernel
theorem dX2_missingParentId_69 : decode cX2_missingParentId 69 = .ok (.goto 9, 3) := by decide +kernel
theorem dX2_missingParentId_72 : decode cX2_missingParentId 72 = .ok (.aload_n 0, 1) := by decide +kernel
theorem dX2_missingParentId_73 : decode cX2_missingParentId 73 = .ok (.getfield 31, 3) := by decide +kernel
theorem dX2_missingParentId_76 : decode cX2_missingParentId 76 = .ok (.iload_n 1, 1) := by decide +kernel
theorem dX2_missingParentId_77 : decode cX2_missingParentId 77 = .ok (.iaload, 1) := by decide +kernel
theorem dX2_missingParentId_78 : decode cX2_missingParentId 78 = .ok (.ireturn, 1) := by decide +kernel
theorem dX2_addMissing_0 : decode cX2_addMissing 0 = .ok (.iload_n 2, 1) := by decide +kernel
theorem dX2_addMissing_1 : decode cX2_addMissing 1 = .ok (.istore_n 3, 1) := by decide +kernel
theorem dX2_addMissing_2 : decode cX2_addMissing 2 = .ok (.iconst 0, 1) := by decide +kernel
theorem dX2_addMissing_3 : decode cX2_addMissing 3 = .ok (.istore 4, 2) := by decide +kernel
theorem dX2_addMissing_5 : decode cX2_addMissing 5 = .ok (.iload 4, 2) := by decide +kernel
theorem dX2_addMissing_7 : decode cX2_addMissing 7 = .ok (.aload_n 1, 1) := by decide +kernel
theorem dX2_addMissing_8 : decode cX2_addMissing 8 = .ok (.arraylength, 1) := by decide +kernel
theorem dX2_addMissing_9 : decode cX2_addMissing 9 = .ok (.if_icmp .ge 66, 3) := by decide +kernel
theorem dX2_addMissing_12 : decode cX2_addMissing 12 = .ok (.aload_n 0, 1) := by decide +kernel
theorem dX2_addMissing_13 : decode cX2_addMissing 13 = .ok (.aload_n 1, 1) := by decide +kernel
theorem dX2_addMissing_14 : decode cX2_addMissing 14 = .ok (.iload 4, 2) := by decide +kernel
theorem dX2_addMissing_16 : decode cX2_addMissing 16 = .ok (.iaload, 1) := by decide +kernel
theorem dX2_addMissing_17 : decode cX2_addMissing 17 = .ok (.invokevirtual 111, 3) := by decide +kernel
theorem dX2_addMissing_20 : decode cX2_addMissing 20 = .ok (.ifnonnull 19, 3) := by decide +kernel
theorem dX2_addMissing_23 : decode cX2_addMissing 23 = .ok (.aload_n 0, 1) := by decide +kernel
theorem dX2_addMissing_24 : decode cX2_addMissing 24 = .ok (.aload_n 1, 1) := by decide +kernel
theorem dX2_addMissing_25 : decode cX2_addMissing 25 = .ok (.iload 4, 2) := by decide +kernel
theorem dX2_addMissing_27 : decode cX2_addMissing 27 = .ok (.iaload, 1) := by decide +kernel
theorem dX2_addMissing_28 : decode cX2_addMissing 28 = .ok (.iload_n 3, 1) := by decide +kernel
theorem dX2_addMissing_29 : decode cX2_addMissing 29 = .ok (.invokevirtual 217, 3) := by decide +kernel
theorem dX2_addMissing_32 : decode cX2_addMissing 32 = .ok (.ifCond .ne 7, 3) := by decide +kernel
theorem dX2_addMissing_35 : decode cX2_addMissing 35 = .ok (.iconst 1, 1) := by decide +kernel
theorem dX2_addMissing_36 : decode cX2_addMissing 36 = .ok (.goto 4, 3) := by decide +kernel
theorem dX2_addMissing_39 : decode cX2_addMissing 39 = .ok (.iconst 0, 1) := by decide +kernel
theorem dX2_addMissing_40 : decode cX2_addMissing 40 = .ok (.istore 5, 2) := by decide +kernel
theorem dX2_addMissing_42 : decode cX2_addMissing 42 = .ok (.iload 5, 2) := by decide +kernel
theorem dX2_addMissing_44 : decode cX2_addMissing 44 = .ok (.ifCond .eq 25, 3) := by decide +kernel
theorem dX2_addMissing_47 : decode cX2_addMissing 47 = .ok (.iload_n 3, 1) := by decide +kernel
theorem dX2_addMissing_48 : decode cX2_addMissing 48 = .ok (.aload_n 0, 1) := by decide +kernel
theorem dX2_addMissing_49 : decode cX2_addMissing 49 = .ok (.getfield 31, 3) := by decide +kernel
theorem dX2_addMissing_52 : decode cX2_addMissing 52 = .ok (.arraylength, 1) := by decide +kernel
theorem dX2_addMissing_53 : decode cX2_addMissing 53 = .ok (.if_icmp .ge 16, 3) := by decide +kernel
theorem dX2_addMissing_56 : decode cX2_addMissing 56 = .ok (.aload_n 0, 1) := by decide +kernel
theorem dX2_addMissing_57 : decode cX2_addMissing 57 = .ok (.getfield 31, 3) := by decide +kernel
theorem dX2_addMissing_60 : decode cX2_addMissing 60 = .ok (.iload_n 3, 1) := by decide +kernel
theorem dX2_addMissing_61 : decode cX2_addMissing 61 = .ok (.aload_n 1, 1) := by decide +kernel
theorem dX2_addMissing_62 : decode cX2_addMissing 62 = .ok (.iload 4, 2) := by decide +kernel
theorem dX2_addMissing_64 : decode cX2_addMissing 64 = .ok (.iaload, 1) := by decide +kernel
theorem dX2_addMissing_65 : decode cX2_addMissing 65 = .ok (.iastore, 1) := by decide +kernel
theorem dX2_addMissing_66 : decode cX2_addMissing 66 = .ok (.iinc 3 1, 3) := by decide +kernel
theorem dX2_addMissing_69 : decode cX2_addMissing 69 = .ok (.iinc 4 1, 3) := by decide +kernel
theorem dX2_addMissing_72 : decode cX2_addMissing 72 = .ok (.goto (-67), 3) := by decide +kernel
theorem dX2_addMissing_75 : decode cX2_addMissing 75 = .ok (.iload_n 3, 1) := by decide +kernel
theorem dX2_addMissing_76 : decode cX2_addMissing 76 = .ok (.ireturn, 1) := by decide +kernel
theorem dX2_isListed_0 : decode cX2_isListed 0 = .ok (.iconst 0, 1) := by decide +kernel
theorem dX2_isListed_1 : decode cX2_isListed 1 = .ok (.istore_n 3, 1) := by decide +kernel
theorem dX2_isListed_2 : decode cX2_isListed 2 = .ok (.iload_n 3, 1) := by decide +kernel
theorem dX2_isListed_3 : decode cX2_isListed 3 = .ok (.iload_n 2, 1) := by decide +kernel
theorem dX2_isListed_4 : decode cX2_isListed 4 = .ok (.if_icmp .ge 21, 3) := by decide +kernel
theorem dX2_isListed_7 : decode cX2_isListed 7 = .ok (.aload_n 0, 1) := by decide +kernel
theorem dX2_isListed_8 : decode cX2_isListed 8 = .ok (.getfield 31, 3) := by decide +kernel
theorem dX2_isListed_11 : decode cX2_isListed 11 = .ok (.iload_n 3, 1) := by decide +kernel
theorem dX2_isListed_12 : decode cX2_isListed 12 = .ok (.iaload, 1) := by decide +kernel
theorem dX2_isListed_13 : decode cX2_isListed 13 = .ok (.iload_n 1, 1) := by decide +kernel
theorem dX2_isListed_14 : decode cX2_isListed 14 = .ok (.if_icmp .ne 5, 3) := by decide +kernel
theorem dX2_isListed_17 : decode cX2_isListed 17 = .ok (.iconst 1, 1) := by decide +kernel
theorem dX2_isListed_18 : decode cX2_isListed 18 = .ok (.ireturn, 1) := by decide +kernel
theorem dX2_isListed_19 : decode cX2_isListed 19 = .ok (.iinc 3 1, 3) := by decide +kernel
theorem dX2_isListed_22 : decode cX2_isListed 22 = .ok (.goto (-20), 3) := by decide +kernel
theorem dX2_isListed_25 : decode cX2_isListed 25 = .ok (.iconst 0, 1) := by decide +kernel
theorem dX2_isListed_26 : decode cX2_isListed 26 = .ok (.ireturn, 1) := by decide +kernel
theorem dX2_allUnspent_0 : decode cX2_allUnspent 0 = .ok (.iconst 0, 1) := by decide +kernel
theorem dX2_allUnspent_1 : decode cX2_allUnspent 1 = .ok (.istore_n 1, 1) := by decide +kernel
theorem dX2_allUnspent_2 : decode cX2_allUnspent 2 = .ok (.iconst 0, 1) := by decide +kernel
theorem dX2_allUnspent_3 : decode cX2_allUnspent 3 = .ok (.istore_n 2, 1) := by decide +kernel
theorem dX2_allUnspent_4 : decode cX2_allUnspent 4 = .ok (.iload_n 2, 1) := by decide +kernel
theorem dX2_allUnspent_5 : decode cX2_allUnspent 5 = .ok (.aload_n 0, 1) := by decide +kernel
theorem dX2_allUnspent_6 : decode cX2_allUnspent 6 = .ok (.getfield 28, 3) := by decide +kernel
theorem dX2_allUnspent_9 : decode cX2_allUnspent 9 = .ok (.invokevirtual 60, 3) := by decide +kernel
theorem dX2_allUnspent_12 : decode cX2_allUnspent 12 = .ok (.if_icmp .ge 49, 3) := by decide +kernel
theorem dX2_allUnspent_15 : decode cX2_allUnspent 15 = .ok (.aload_n 0, 1) := by decide +kernel
theorem dX2_allUnspent_16 : decode cX2_allUnspent 16 = .ok (.getfield 28, 3) := by decide +kernel
theorem dX2_allUnspent_19 : decode cX2_allUnspent 19 = .ok (.iload_n 2, 1) := by decide +kernel
theorem dX2_allUnspent_20 : decode cX2_allUnspent 20 = .ok (.invokevirtual 64, 3) := by decide +kernel
theorem dX2_allUnspent_23 : decode cX2_allUnspent 23 = .ok (.checkcast 49, 3) := by decide +kernel
theorem dX2_allUnspent_26 : decode cX2_allUnspent 26 = .ok (.astore_n 3, 1) := by decide +kernel
theorem dX2_allUnspent_27 : decode cX2_allUnspent 27 = .ok (.iconst 0, 1) := by decide +kernel
theorem dX2_allUnspent_28 : decode cX2_allUnspent 28 = .ok (.istore 4, 2) := by decide +kernel
theorem dX2_allUnspent_30 : decode cX2_allUnspent 30 = .ok (.iload 4, 2) := by decide +kernel
theorem dX2_allUnspent_32 : decode cX2_allUnspent 32 = .ok (.aload_n 3, 1) := by decide +kernel
theorem dX2_allUnspent_33 : decode cX2_allUnspent 33 = .ok (.getfield 221, 3) := by decide +kernel
theorem dX2_allUnspent_36 : decode cX2_allUnspent 36 = .ok (.arraylength, 1) := by decide +kernel
theorem dX2_allUnspent_37 : decode cX2_allUnspent 37 = .ok (.if_icmp .ge 18, 3) := by decide +kernel
theorem dX2_allUnspent_40 : decode cX2_allUnspent 40 = .ok (.iload_n 1, 1) := by decide +kernel
theorem dX2_allUnspent_41 : decode cX2_allUnspent 41 = .ok (.aload_n 3, 1) := by decide +kernel
theorem dX2_allUnspent_42 : decode cX2_allUnspent 42 = .ok (.iload 4, 2) := by decide +kernel
theorem dX2_allUnspent_44 : decode cX2_allUnspent 44 = .ok (.invokevirtual 224, 3) := by decide +kernel
theorem dX2_allUnspent_47 : decode cX2_allUnspent 47 = .ok (.iadd, 1) := by decide +kernel
theorem dX2_allUnspent_48 : decode cX2_allUnspent 48 = .ok (.istore_n 1, 1) := by decide +kernel
theorem dX2_allUnspent_49 : decode cX2_allUnspent 49 = .ok (.iinc 4 1, 3) := by decide +kernel
theorem dX2_allUnspent_52 : decode cX2_allUnspent 52 = .ok (.goto (-22), 3) := by decide +kernel
theorem dX2_allUnspent_55 : decode cX2_allUnspent 55 = .ok (.iinc 2 1, 3) := by decide +kernel
theorem dX2_allUnspent_58 : decode cX2_allUnspent 58 = .ok (.goto (-54), 3) := by decide +kernel
theorem dX2_allUnspent_61 : decode cX2_allUnspent 61 = .ok (.iload_n 1, 1) := by decide +kernel
theorem dX2_allUnspent_62 : decode cX2_allUnspent 62 = .ok (.ireturn, 1) := by decide +kernel
theorem dX3_init_0 : decode cX3_init 0 = .ok (.aload_n 0, 1) := by decide +kernel
theorem dX3_init_1 : decode cX3_init 1 = .ok (.invokespecial 3, 3) := by decide +kernel
theorem dX3_init_4 : decode cX3_init 4 = .ok (.aload_n 0, 1) := by decide +kernel
theorem dX3_init_5 : decode cX3_init 5 = .ok (.iload_n 1, 1) := by decide +kernel
theorem dX3_init_6 : decode cX3_init 6 = .ok (.putfield 9, 3) := by decide +kernel
theorem dX3_init_9 : decode cX3_init 9 = .ok (.aload_n 0, 1) := by decide +kernel
theorem dX3_init_10 : decode cX3_init 10 = .ok (.new 15, 3) := by decide +kernel
theorem dX3_init_13 : decode cX3_init 13 = .ok (.dup, 1) := by decide +kernel
theorem dX3_init_14 : decode cX3_init 14 = .ok (.invokespecial 17, 3) := by decide +kernel
theorem dX3_init_17 : decode cX3_init 17 = .ok (.putfield 18, 3) := by decide +kernel
theorem dX3_init_20 : decode cX3_init 20 = .ok (.aload_n 0, 1) := by decide +kernel
theorem dX3_init_21 : decode cX3_init 21 = .ok (.aconst_null, 1) := by decide +kernel
theorem dX3_init_22 : decode cX3_init 22 = .ok (.putfield 22, 3) := by decide +kernel
theorem dX3_init_25 : decode cX3_init 25 = .ok (.aload_n 0, 1) := by decide +kernel
theorem dX3_init_26 : decode cX3_init 26 = .ok (.aconst_null, 1) := by decide +kernel
theorem dX3_init_27 : decode cX3_init 27 = .ok (.putfield 26, 3) := by decide +kernel
theorem dX3_init_30 : decode cX3_init 30 = .ok (.aload_n 0, 1) := by decide +kernel
theorem dX3_init_31 : decode cX3_init 31 = .ok (.aconst_null, 1) := by decide +kernel
theorem dX3_init_32 : decode cX3_init 32 = .ok (.putfield 29, 3) := by decide +kernel
theorem dX3_init_35 : decode cX3_init 35 = .ok (.aload_n 0, 1) := by decide +kernel
theorem dX3_init_36 : decode cX3_init 36 = .ok (.iconst 0, 1) := by decide +kernel
theorem dX3_init_37 : decode cX3_init 37 = .ok (.putfield 32, 3) := by decide +kernel
theorem dX3_init_40 : decode cX3_init 40 = .ok (.return_, 1) := by decide +kernel
theorem dX3_join_0 : decode cX3_join 0 = .ok (.aload_n 0, 1) := by decide +kernel
theorem dX3_join_1 : decode cX3_join 1 = .ok (.getfield 18, 3) := by decide +kernel
theorem dX3_join_4 : decode cX3_join 4 = .ok (.aload_n 1, 1) := by decide +kernel
theorem dX3_join_5 : decode cX3_join 5 = .ok (.invokevirtual 35, 3) := by decide +kernel
theorem dX3_join_8 : decode cX3_join 8 = .ok (.pop, 1) := by decide +kernel
theorem dX3_join_9 : decode cX3_join 9 = .ok (.aload_n 0, 1) := by decide +kernel
theorem dX3_join_10 : decode cX3_join 10 = .ok (.getfield 18, 3) := by decide +kernel
theorem dX3_join_13 : decode cX3_join 13 = .ok (.invokevirtual 39, 3) := by decide +kernel
theorem dX3_join_16 : decode cX3_join 16 = .ok (.iconst 1, 1) := by decide +kernel
theorem dX3_join_17 : decode cX3_join 17 = .ok (.if_icmp .ne 13, 3) := by decide +kernel
theorem dX3_join_20 : decode cX3_join 20 = .ok (.aload_n 0, 1) := by decide +kernel
theorem dX3_join_21 : decode cX3_join 21 = .ok (.aload_n 1, 1) := by decide +kernel
theorem dX3_join_22 : decode cX3_join 22 = .ok (.putfield 22, 3) := by decide +kernel
theorem dX3_join_25 : decode cX3_join 25 = .ok (.aload_n 0, 1) := by decide +kernel
theorem dX3_join_26 : decode cX3_join 26 = .ok (.aload_n 1, 1) := by decide +kernel
theorem dX3_join_27 : decode cX3_join 27 = .ok (.putfield 26, 3) := by decide +kernel
theorem dX3_join_30 : decode cX3_join 30 = .ok (.return_, 1) := by decide +kernel
theorem dX3_speakFor_0 : decode cX3_speakFor 0 = .ok (.aload_n 0, 1) := by decide +kernel
theorem dX3_speakFor_1 : decode cX3_speakFor 1 = .ok (.getfield 22, 3) := by decide +kernel
theorem dX3_speakFor_4 : decode cX3_speakFor 4 = .ok (.ifnull 17, 3) := by decide +kernel
theorem dX3_speakFor_7 : decode cX3_speakFor 7 = .ok (.aload_n 1, 1) := by decide +kernel
theorem dX3_speakFor_8 : decode cX3_speakFor 8 = .ok (.getfield 43, 3) := by decide +kernel
theorem dX3_speakFor_11 : decode cX3_speakFor 11 = .ok (.aload_n 0, 1) := by decide +kernel
theorem dX3_speakFor_12 : decode cX3_speakFor 12 = .ok (.getfield 22, 3) := by decide +kernel
theorem dX3_speakFor_15 : decode cX3_speakFor 15 = .ok (.getfield 43, 3) := by decide +kernel
theorem dX3_speakFor_18 : decode cX3_speakFor 18 = .ok (.if_icmp .le 8, 3) := by decide +kernel
theorem dX3_speakFor_21 : decode cX3_speakFor 21 = .ok (.aload_n 0, 1) := by decide +kernel
theorem dX3_speakFor_22 : decode cX3_speakFor 22 = .ok (.aload_n 1, 1) := by decide +kernel
theorem dX3_speakFor_23 : decode cX3_speakFor 23 = .ok (.putfield 22, 3) := by decide +kernel
theorem dX3_speakFor_26 : decode cX3_speakFor 26 = .ok (.aload_n 0, 1) := by decide +kernel
theorem dX3_speakFor_27 : decode cX3_speakFor 27 = .ok (.aload_n 0, 1) := by decide +kernel
theorem dX3_speakFor_28 : decode cX3_speakFor 28 = .ok (.getfield 26, 3) := by decide +kernel
theorem dX3_speakFor_31 : decode cX3_speakFor 31 = .ok (.aload_n 1, 1) := by decide +kernel
theorem dX3_speakFor_32 : decode cX3_speakFor 32 = .ok (.if_acmp .ne 12, 3) := by decide +kernel
theorem dX3_speakFor_35 : decode cX3_speakFor 35 = .ok (.aload_n 0, 1) := by decide +kernel
theorem dX3_speakFor_36 : decode cX3_speakFor 36 = .ok (.getfield 32, 3) := by decide +kernel
theorem dX3_speakFor_39 : decode cX3_speakFor 39 = .ok (.iconst 1, 1) := by decide +kernel
theorem dX3_speakFor_40 : decode cX3_speakFor 40 = .ok (.iadd, 1) := by decide +kernel
theorem dX3_speakFor_41 : decode cX3_speakFor 41 = .ok (.goto 4, 3) := by decide +kernel
theorem dX3_speakFor_44 : decode cX3_speakFor 44 = .ok (.iconst 1, 1) := by decide +kernel
theorem dX3_speakFor_45 : decode cX3_speakFor 45 = .ok (.putfield 32, 3) := by decide +kernel
theorem dX3_speakFor_48 : decode cX3_speakFor 48 = .ok (.aload_n 0, 1) := by decide +kernel
theorem dX3_speakFor_49 : decode cX3_speakFor 49 = .ok (.aload_n 1, 1) := by decide +kernel
theorem dX3_speakFor_50 : decode cX3_speakFor 50 = .ok (.putfield 26, 3) := by decide +kernel
theorem dX3_speakFor_53 : decode cX3_speakFor 53 = .ok (.return_, 1) := by decide +kernel
theorem dX3_replaceFavourite_0 : decode cX3_replaceFavourite 0 = .ok (.aload_n 0, 1) := by decide +kernel
theorem dX3_replaceFavourite_1 : decode cX3_replaceFavourite 1 = .ok (.aconst_null, 1) := by decide +kernel
theorem dX3_replaceFavourite_2 : decode cX3_replaceFavourite 2 = .ok (.putfield 22, 3) := by decide +kernel
theorem dX3_replaceFavourite_5 : decode cX3_replaceFavourite 5 = .ok (.iconst 0, 1) := by decide +kernel
theorem dX3_replaceFavourite_6 : decode cX3_replaceFavourite 6 = .ok (.istore_n 1, 1) := by decide +kernel
theorem dX3_replaceFavourite_7 : decode cX3_replaceFavourite 7 = .ok (.iload_n 1, 1) := by decide +kernel
theorem dX3_replaceFavourite_8 : decode cX3_replaceFavourite 8 = .ok (.aload_n 0, 1) := by decide +kernel
theorem dX3_replaceFavourite_9 : decode cX3_replaceFavourite 9 = .ok (.getfield 18, 3) := by decide +kernel
theorem dX3_replaceFavourite_12 : decode cX3_replaceFavourite 12 = .ok (.invokevirtual 39, 3) := by decide +kernel
theorem dX3_replaceFavourite_15 : decode cX3_replaceFavourite 15 = .ok (.if_icmp .ge 65, 3) := by decide +kernel
theorem dX3_replaceFavourite_18 : decode cX3_replaceFavourite 18 = .ok (.aload_n 0, 1) := by decide +kernel
theorem dX3_replaceFavourite_19 : decode cX3_replaceFavourite 19 = .ok (.getfield 18, 3) := by decide +kernel
theorem dX3_replaceFavourite_22 : decode cX3_replaceFavourite 22 = .ok (.iload_n 1, 1) := by decide +kernel
theorem dX3_replaceFavourite_23 : decode cX3_replaceFavourite 23 = .ok (.invokevirtual 48, 3) := by decide +kernel
theorem dX3_replaceFavourite_26 : decode cX3_replaceFavourite 26 = .ok (.checkcast 44, 3) := by decide +kernel
theorem dX3_replaceFavourite_29 : decode cX3_replaceFavourite 29 = .ok (.astore_n 2, 1) := by decide +kernel
theorem dX3_replaceFavourite_30 : decode cX3_replaceFavourite 30 = .ok (.aload_n 0, 1) := by decide +kernel
theorem dX3_replaceFavourite_31 : decode cX3_replaceFavourite 31 = .ok (.getfield 22, 3) := by decide +kernel
theorem dX3_replaceFavourite_34 : decode cX3_replaceFavourite 34 = .ok (.ifnull 17, 3) := by decide +kernel
theorem dX3_replaceFavourite_37 : decode cX3_replaceFavourite 37 = .ok (.aload_n 2, 1) := by decide +kernel
theorem dX3_replaceFavourite_38 : decode cX3_replaceFavourite 38 = .ok (.getfield 43, 3) := by decide +kernel
theorem dX3_replaceFavourite_41 : decode cX3_replaceFavourite 41 = .ok (.aload_n 0, 1) := by decide +kernel
theorem dX3_replaceFavourite_42 : decode cX3_replaceFavourite 42 = .ok (.getfield 22, 3) := by decide +kernel
theorem dX3_replaceFavourite_45 : decode cX3_replaceFavourite 45 = .ok (.getfield 43, 3) := by decide +kernel
theorem dX3_replaceFavourite_48 : decode cX3_replaceFavourite 48 = .ok (.if_icmp .le 7, 3) := by decide +kernel
theorem dX3_replaceFavourite_51 : decode cX3_replaceFavourite 51 = .ok (.iconst 1, 1) := by decide +kernel
theorem dX3_replaceFavourite_52 : decode cX3_replaceFavourite 52 = .ok (.goto 4, 3) := by decide +kernel
theorem dX3_replaceFavourite_55 : decode cX3_replaceFavourite 55 = .ok (.iconst 0, 1) := by decide +kernel
theorem dX3_replaceFavourite_56 : decode cX3_replaceFavourite 56 = .ok (.istore_n 3, 1) := by decide +kernel
theorem dX3_replaceFavourite_57 : decode cX3_replaceFavourite 57 = .ok (.aload_n 2, 1) := by decide +kernel
theorem dX3_replaceFavourite_58 : decode cX3_replaceFavourite 58 = .ok (.getfield 52, 3) := by decide +kernel
theorem dX3_replaceFavourite_61 : decode cX3_replaceFavourite 61 = .ok (.iconst 4, 1) := by decide +kernel
theorem dX3_replaceFavourite_62 : decode cX3_replaceFavourite 62 = .ok (.if_icmp .eq 12, 3) := by decide +kernel
theorem dX3_replaceFavourite_65 : decode cX3_replaceFavourite 65 = .ok (.iload_n 3, 1) := by decide +kernel
theorem dX3_replaceFavourite_66 : decode cX3_replaceFavourite 66 = .ok (.ifCond .eq 8, 3) := by decide +kernel
theorem dX3_replaceFavourite_69 : decode cX3_replaceFavourite 69 = .ok (.aload_n 0, 1) := by decide +kernel
theorem dX3_replaceFavourite_70 : decode cX3_replaceFavourite 70 = .ok (.aload_n 2, 1) := by decide +kernel
theorem dX3_replaceFavourite_71 : decode cX3_replaceFavourite 71 = .ok (.putfield 22, 3) := by decide +kernel
theorem dX3_replaceFavourite_74 : decode cX3_replaceFavourite 74 = .ok (.iinc 1 1, 3) := by decide +kernel
theorem dX3_replaceFavourite_77 : decode cX3_replaceFavourite 77 = .ok (.goto (-70), 3) := by decide +kernel
theorem dX3_replaceFavourite_80 : decode cX3_replaceFavourite 80 = .ok (.aload_n 0, 1) := by decide +kernel
theorem dX3_replaceFavourite_81 : decode cX3_replaceFavourite 81 = .ok (.iconst 0, 1) := by decide +kernel
theorem dX3_replaceFavourite_82 : decode cX3_replaceFavourite 82 = .ok (.putfield 32, 3) := by decide +kernel
theorem dX3_replaceFavourite_85 : decode cX3_replaceFavourite 85 = .ok (.return_, 1) := by decide +kernel
theorem dX3_isSpentBefore_0 : decode cX3_isSpentBefore 0 = .ok (.iconst 0, 1) := by decide +kernel
theorem dX3_isSpentBefore_1 : decode cX3_isSpentBefore 1 = .ok (.istore_n 2, 1) := by decide +kernel
theorem dX3_isSpentBefore_2 : decode cX3_isSpentBefore 2 = .ok (.iload_n 2, 1) := by decide +kernel
theorem dX3_isSpentBefore_3 : decode cX3_isSpentBefore 3 = .ok (.aload_n 0, 1) := by decide +kernel
theorem dX3_isSpentBefore_4 : decode cX3_isSpentBefore 4 = .ok (.getfield 18, 3) := by decide +kernel
theorem dX3_isSpentBefore_7 : decode cX3_isSpentBefore 7 = .ok (.invokevirtual 39, 3) := by decide +kernel
theorem dX3_isSpentBefore_10 : decode cX3_isSpentBefore 10 = .ok (.if_icmp .ge 29, 3) := by decide +kernel
theorem dX3_isSpentBefore_13 : decode cX3_isSpentBefore 13 = .ok (.aload_n 1, 1) := by decide +kernel
theorem dX3_isSpentBefore_14 : decode cX3_isSpentBefore 14 = .ok (.aload_n 0, 1) := by decide +kernel
theorem dX3_isSpentBefore_15 : decode cX3_isSpentBefore 15 = .ok (.getfield 18, 3) := by decide +kernel
theorem dX3_isSpentBefore_18 : decode cX3_isSpentBefore 18 = .ok (.iload_n 2, 1) := by decide +kernel
theorem dX3_isSpentBefore_19 : decode cX3_isSpentBefore 19 = .ok (.invokevirtual 48, 3) := by decide +kernel
theorem dX3_isSpentBefore_22 : decode cX3_isSpentBefore 22 = .ok (.checkcast 44, 3) := by decide +kernel
theorem dX3_isSpentBefore_25 : decode cX3_isSpentBefore 25 = .ok (.invokevirtual 55, 3) := by decide +kernel
theorem dX3_isSpentBefore_28 : decode cX3_isSpentBefore 28 = .ok (.ifCond .eq 5, 3) := by decide +kernel
theorem dX3_isSpentBefore_31 : decode cX3_isSpentBefore 31 = .ok (.iconst 1, 1) := by decide +kernel
theorem dX3_isSpentBefore_32 : decode cX3_isSpentBefore 32 = .ok (.ireturn, 1) := by decide +kernel
theorem dX3_isSpentBefore_33 : decode cX3_isSpentBefore 33 = .ok (.iinc 2 1, 3) := by decide +kernel
theorem dX3_isSpentBefore_36 : decode cX3_isSpentBefore 36 = .ok (.goto (-34), 3) := by decide +kernel
theorem dX3_isSpentBefore_39 : decode cX3_isSpentBefore 39 = .ok (.iconst 0, 1) := by decide +kernel
theorem dX3_isSpentBefore_40 : decode cX3_isSpentBefore 40 = .ok (.ireturn, 1) := by decide +kernel
theorem dX4_init_0 : decode cX4_init 0 = .ok (.aload_n 0, 1) := by decide +kernel
theorem dX4_init_1 : decode cX4_init 1 = .ok (.invokespecial 3, 3) := by decide +kernel
theorem dX4_init_4 : decode cX4_init 4 = .ok (.aload_n 0, 1) := by decide +kernel
theorem dX4_init_5 : decode cX4_init 5 = .ok (.iload_n 1, 1) := by decide +kernel
theorem dX4_init_6 : decode cX4_init 6 = .ok (.i2l, 1) := by decide +kernel
theorem dX4_init_7 : decode cX4_init 7 = .ok (.putfield 9, 3) := by decide +kernel
theorem dX4_init_10 : decode cX4_init 10 = .ok (.aload_n 0, 1) := by decide +kernel
theorem dX4_init_11 : decode cX4_init 11 = .ok (.bipush 20, 2) := by decide +kernel
theorem dX4_init_13 : decode cX4_init 13 = .ok (.newarray .int, 2) := by decide +kernel
theorem dX4_init_15 : decode cX4_init 15 = .ok (.putfield 15, 3) := by decide +kernel
theorem dX4_init_18 : decode cX4_init 18 = .ok (.aload_n 0, 1) := by decide +kernel
theorem dX4_init_19 : decode cX4_init 19 = .ok (.getfield 15, 3) := by decide +kernel
theorem dX4_init_22 : decode cX4_init 22 = .ok (.iconst 1, 1) := by decide +kernel
theorem dX4_init_23 : decode cX4_init 23 = .ok (.invokestatic 19, 3) := by decide +kernel
theorem dX4_init_26 : decode cX4_init 26 = .ok (.return_, 1) := by decide +kernel
theorem dX4_changeWeight_0 : decode cX4_changeWeight 0 = .ok (.iload_n 1, 1) := by decide +kernel
theorem dX4_changeWeight_1 : decode cX4_changeWeight 1 = .ok (.ifCond .lt 20, 3) := by decide +kernel
theorem dX4_changeWeight_4 : decode cX4_changeWeight 4 = .ok (.iload_n 1, 1) := by decide +kernel
theorem dX4_changeWeight_5 : decode cX4_changeWeight 5 = .ok (.bipush 20, 2) := by decide +kernel
theorem dX4_changeWeight_7 : decode cX4_changeWeight 7 = .ok (.if_icmp .ge 14, 3) := by decide +kernel
theorem dX4_changeWeight_10 : decode cX4_changeWeight 10 = .ok (.iload_n 2, 1) := by decide +kernel
theorem dX4_changeWeight_11 : decode cX4_changeWeight 11 = .ok (.ifCond .lt 10, 3) := by decide +kernel
theorem dX4_changeWeight_14 : decode cX4_changeWeight 14 = .ok (.iload_n 2, 1) := by decide +kernel
theorem dX4_changeWeight_15 : decode cX4_changeWeight 15 = .ok (.sipush 1000, 3) := by decide +kernel
theorem dX4_changeWeight_18 : decode cX4_changeWeight 18 = .ok (.if_icmp .le 5, 3) := by decide +kernel
theorem dX4_changeWeight_21 : decode cX4_changeWeight 21 = .ok (.iconst 0, 1) := by decide +kernel
theorem dX4_changeWeight_22 : decode cX4_changeWeight 22 = .ok (.ireturn, 1) := by decide +kernel
theorem dX4_changeWeight_23 : decode cX4_changeWeight 23 = .ok (.aload_n 0, 1) := by decide +kernel
theorem dX4_changeWeight_24 : decode cX4_changeWeight 24 = .ok (.getfield 15, 3) := by decide +kernel
theorem dX4_changeWeight_27 : decode cX4_changeWeight 27 = .ok (.iload_n 1, 1) := by decide +kernel
theorem dX4_changeWeight_28 : decode cX4_changeWeight 28 = .ok (.iload_n 2, 1) := by decide +kernel
theorem dX4_changeWeight_29 : decode cX4_changeWeight 29 = .ok (.iastore, 1) := by decide +kernel
theorem dX4_changeWeight_30 : decode cX4_changeWeight 30 = .ok (.iconst 1, 1) := by decide +kernel
theorem dX4_changeWeight_31 : decode cX4_changeWeight 31 = .ok (.ireturn, 1) := by decide +kernel
theorem dX4_countWithWeight_0 : decode cX4_countWithWeight 0 = .ok (.iconst 0, 1) := by decide +kernel
theorem dX4_countWithWeight_1 : decode cX4_countWithWeight 1 = .ok (.istore_n 1, 1) := by decide +kernel
theorem dX4_countWithWeight_2 : decode cX4_countWithWeight 2 = .ok (.iconst 0, 1) := by decide +kernel
theorem dX4_countWithWeight_3 : decode cX4_countWithWeight 3 = .ok (.istore_n 2, 1) := by decide +kernel
theorem dX4_countWithWeight_4 : decode cX4_countWithWeight 4 = .ok (.iload_n 2, 1) := by decide +kernel
theorem dX4_countWithWeight_5 : decode cX4_countWithWeight 5 = .ok (.bipush 20, 2) := by decide +kernel
theorem dX4_countWithWeight_7 : decode cX4_countWithWeight 7 = .ok (.if_icmp .ge 21, 3) := by decide +kernel
theorem dX4_countWithWeight_10 : decode cX4_countWithWeight 10 = .ok (.aload_n 0, 1) := by decide +kernel
theorem dX4_countWithWeight_11 : decode cX4_countWithWeight 11 = .ok (.getfield 15, 3) := by decide +kernel
theorem dX4_countWithWeight_14 : decode cX4_countWithWeight 14 = .ok (.iload_n 2, 1) := by decide +kernel
theorem dX4_countWithWeight_15 : decode cX4_countWithWeight 15 = .ok (.iaload, 1) := by decide +kernel
theorem dX4_countWithWeight_16 : decode cX4_countWithWeight 16 = .ok (.ifCond .le 6, 3) := by decide +kernel
theorem dX4_countWithWeight_19 : decode cX4_countWithWeight 19 = .ok (.iinc 1 1, 3) := by decide +kernel
theorem dX4_countWithWeight_22 : decode cX4_countWithWeight 22 = .ok (.iinc 2 1, 3) := by decide +kernel
theorem dX4_countWithWeight_25 : decode cX4_countWithWeight 25 = .ok (.goto (-21), 3) := by decide +kernel
theorem dX4_countWithWeight_28 : decode cX4_countWithWeight 28 = .ok (.iload_n 1, 1) := by decide +kernel
theorem dX4_countWithWeight_29 : decode cX4_countWithWeight 29 = .ok (.ireturn, 1) := by decide +kernel
theorem dX4_draw_0 : decode cX4_draw 0 = .ok (.iload_n 1, 1) := by decide +kernel
theorem dX4_draw_1 : decode cX4_draw 1 = .ok (.newarray .int, 2) := by decide +kernel
theorem dX4_draw_3 : decode cX4_draw 3 = .ok (.astore_n 2, 1) := by decide +kernel
theorem dX4_draw_4 : decode cX4_draw 4 = .ok (.iconst 0, 1) := by decide +kernel
theorem dX4_draw_5 : decode cX4_draw 5 = .ok (.istore_n 3, 1) := by decide +kernel
theorem dX4_draw_6 : decode cX4_draw 6 = .ok (.iload_n 3, 1) := by decide +kernel
theorem dX4_draw_7 : decode cX4_draw 7 = .ok (.iload_n 1, 1) := by decide +kernel
theorem dX4_draw_8 : decode cX4_draw 8 = .ok (.if_icmp .ge 18, 3) := by decide +kernel
theorem dX4_draw_11 : decode cX4_draw 11 = .ok (.aload_n 2, 1) := by decide +kernel
theorem dX4_draw_12 : decode cX4_draw 12 = .ok (.iload_n 3, 1) := by decide +kernel
theorem dX4_draw_13 : decode cX4_draw 13 = .ok (.aload_n 0, 1) := by decide +kernel
theorem dX4_draw_14 : decode cX4_draw 14 = .ok (.aload_n 2, 1) := by decide +kernel
theorem dX4_draw_15 : decode cX4_draw 15 = .ok (.iload_n 3, 1) := by decide +kernel
theorem dX4_draw_16 : decode cX4_draw 16 = .ok (.invokevirtual 25, 3) := by decide +kernel
theorem dX4_draw_19 : decode cX4_draw 19 = .ok (.iastore, 1) := by decide +kernel
theorem dX4_draw_20 : decode cX4_draw 20 = .ok (.iinc 3 1, 3) := by decide +kernel
theorem dX4_draw_23 : decode cX4_draw 23 = .ok (.goto (-17), 3) := by decide +kernel
theorem dX4_draw_26 : decode cX4_draw 26 = .ok (.aload_n 2, 1) := by decide +kernel
theorem dX4_draw_27 : decode cX4_draw 27 = .ok (.areturn, 1) := by decide +kernel
theorem dX4_drawOne_0 : decode cX4_drawOne 0 = .ok (.aload_n 0, 1) := by decide +kernel
theorem dX4_drawOne_1 : decode cX4_drawOne 1 = .ok (.aload_n 0, 1) := by decide +kernel
theorem dX4_drawOne_2 : decode cX4_drawOne 2 = .ok (.getfield 9, 3) := by decide +kernel
theorem dX4_drawOne_5 : decode cX4_drawOne 5 = .ok (.ldc2_w 29, 3) := by decide +kernel
theorem dX4_drawOne_8 : decode cX4_drawOne 8 = .ok (.lmul, 1) := by decide +kernel
theorem dX4_drawOne_9 : decode cX4_drawOne 9 = .ok (.ldc2_w 31, 3) := by decide +kernel
theorem dX4_drawOne_12 : decode cX4_drawOne 12 = .ok (.ladd, 1) := by decide +kernel
theorem dX4_drawOne_13 : decode cX4_drawOne 13 = .ok (.putfield 9, 3) := by decide +kernel
theorem dX4_drawOne_16 : decode cX4_drawOne 16 = .ok (.iconst 0, 1) := by decide +kernel
theorem dX4_drawOne_17 : decode cX4_drawOne 17 = .ok (.istore_n 3, 1) := by decide +kernel
theorem dX4_drawOne_18 : decode cX4_drawOne 18 = .ok (.iconst 0, 1) := by decide +kernel
theorem dX4_drawOne_19 : decode cX4_drawOne 19 = .ok (.istore 4, 2) := by decide +kernel
theorem dX4_drawOne_21 : decode cX4_drawOne 21 = .ok (.iload 4, 2) := by decide +kernel
theorem dX4_drawOne_23 : decode cX4_drawOne 23 = .ok (.bipush 20, 2) := by decide +kernel
theorem dX4_drawOne_25 : decode cX4_drawOne 25 = .ok (.if_icmp .ge 20, 3) := by decide +kernel
theorem dX4_drawOne_28 : decode cX4_drawOne 28 = .ok (.iload_n 3, 1) := by decide +kernel
theorem dX4_drawOne_29 : decode cX4_drawOne 29 = .ok (.aload_n 0, 1) := by decide +kernel
theorem dX4_drawOne_30 : decode cX4_drawOne 30 = .ok (.iload 4, 2) := by decide +kernel
theorem dX4_drawOne_32 : decode cX4_drawOne 32 = .ok (.aload_n 1, 1) := by decide +kernel
theorem dX4_drawOne_33 : decode cX4_drawOne 33 = .ok (.iload_n 2, 1) := by decide +kernel
theorem dX4_drawOne_34 : decode cX4_drawOne 34 = .ok (.invokevirtual 33, 3) := by decide +kernel
theorem dX4_drawOne_37 : decode cX4_drawOne 37 = .ok (.iadd, 1) := by decide +kernel
theorem dX4_drawOne_38 : decode cX4_drawOne 38 = .ok (.istore_n 3, 1) := by decide +kernel
theorem dX4_drawOne_39 : decode cX4_drawOne 39 = .ok (.iinc 4 1, 3) := by decide +kernel
theorem dX4_drawOne_42 : decode cX4_drawOne 42 = .ok (.goto (-21), 3) := by decide +kernel
theorem dX4_drawOne_45 : decode cX4_drawOne 45 = .ok (.iload_n 3, 1) := by decide +kernel
theorem dX4_drawOne_46 : decode cX4_drawOne 46 = .ok (.ifCond .gt 5, 3) := by decide +kernel
theorem dX4_drawOne_49 : decode cX4_drawOne 49 = .ok (.iconst (-1), 1) := by decide +kernel
theorem dX4_drawOne_50 : decode cX4_drawOne 50 = .ok (.ireturn, 1) := by decide +kernel
theorem dX4_drawOne_51 : decode cX4_drawOne 51 = .ok (.aload_n 0, 1) := by decide +kernel
theorem dX4_drawOne_52 : decode cX4_drawOne 52 = .ok (.getfield 9, 3) := by decide +kernel
theorem dX4_drawOne_55 : decode cX4_drawOne 55 = .ok (.bipush 33, 2) := by decide +kernel
theorem dX4_drawOne_57 : decode cX4_drawOne 57 = .ok (.lushr, 1) := by decide +kernel
theorem dX4_drawOne_58 : decode cX4_drawOne 58 = .ok (.iload_n 3, 1) := by decide +kernel
theorem dX4_drawOne_59 : decode cX4_drawOne 59 = .ok (.i2l, 1) := by decide +kernel
theorem dX4_drawOne_60 : decode cX4_drawOne 60 = .ok (.lrem, 1) := by decide +kernel
theorem dX4_drawOne_61 : decode cX4_drawOne 61 = .ok (.l2i, 1) := by decide +kernel
theorem dX4_drawOne_62 : decode cX4_drawOne 62 = .ok (.istore 4, 2) := by decide +kernel
theorem dX4_drawOne_64 : decode cX4_drawOne 64 = .ok (.iconst 0, 1) := by decide +kernel
theorem dX4_drawOne_65 : decode cX4_drawOne 65 = .ok (.istore 5, 2) := by decide +kernel
theorem dX4_drawOne_67 : decode cX4_drawOne 67 = .ok (.iconst 0, 1) := by decide +kernel
theorem dX4_drawOne_68 : decode cX4_drawOne 68 = .ok (.istore 6, 2) := by decide +kernel
theorem dX4_drawOne_70 : decode cX4_drawOne 70 = .ok (.iload 6, 2) := by decide +kernel
theorem dX4_drawOne_72 : decode cX4_drawOne 72 = .ok (.bipush 20, 2) := by decide +kernel
theorem dX4_drawOne_74 : decode cX4_drawOne 74 = .ok (.if_icmp .ge 32, 3) := by decide +kernel
theorem dX4_drawOne_77 : decode cX4_drawOne 77 = .ok (.iload 5, 2) := by decide +kernel
theorem dX4_drawOne_79 : decode cX4_drawOne 79 = .ok (.aload_n 0, 1) := by decide +kernel
theorem dX4_drawOne_80 : decode cX4_drawOne 80 = .ok (.iload 6, 2) := by decide +kernel
theorem dX4_drawOne_82 : decode cX4_drawOne 82 = .ok (.aload_n 1, 1) := by decide +kernel
theorem dX4_drawOne_83 : decode cX4_drawOne 83 = .ok (.iload_n 2, 1) := by decide +kernel
theorem dX4_drawOne_84 : decode cX4_drawOne 84 = .ok (.invokevirtual 33, 3) := by decide +kernel
theorem dX4_drawOne_87 : decode cX4_drawOne 87 = .ok (.iadd, 1) := by decide +kernel
theorem dX4_drawOne_88 : decode cX4_drawOne 88 = .ok (.istore 5, 2) := by decide +kernel
theorem dX4_drawOne_90 : decode cX4_drawOne 90 = .ok (.iload 5, 2) := by decide +kernel
theorem dX4_drawOne_92 : decode cX4_drawOne 92 = .ok (.iload 4, 2) := by decide +kernel
theorem dX4_drawOne_94 : decode cX4_drawOne 94 = .ok (.if_icmp .le 6, 3) := by decide +kernel
theorem dX4_drawOne_97 : decode cX4_drawOne 97 = .ok (.iload 6, 2) := by decide +kernel
theorem dX4_drawOne_99 : decode cX4_drawOne 99 = .ok (.ireturn, 1) := by decide +kernel
theorem dX4_drawOne_100 : decode cX4_drawOne 100 = .ok (.iinc 6 1, 3) := by decide +kernel
theorem dX4_drawOne_103 : decode cX4_drawOne 103 = .ok (.goto (-33), 3) := by decide +kernel
theorem dX4_drawOne_106 : decode cX4_drawOne 106 = .ok (.iconst (-1), 1) := by decide +kernel
theorem dX4_drawOne_107 : decode cX4_drawOne 107 = .ok (.ireturn, 1) := by decide +kernel
theorem dX4_weightLeft_0 : decode cX4_weightLeft 0 = .ok (.iconst 0, 1) := by decide +kernel
theorem dX4_weightLeft_1 : decode cX4_weightLeft 1 = .ok (.istore 4, 2) := by decide +kernel
theorem dX4_weightLeft_3 : decode cX4_weightLeft 3 = .ok (.iload 4, 2) := by decide +kernel
theorem dX4_weightLeft_5 : decode cX4_weightLeft 5 = .ok (.iload_n 3, 1) := by decide +kernel
theorem dX4_weightLeft_6 : decode cX4_weightLeft 6 = .ok (.if_icmp .ge 19, 3) := by decide +kernel
theorem dX4_weightLeft_9 : decode cX4_weightLeft 9 = .ok (.aload_n 2, 1) := by decide +kernel
theorem dX4_weightLeft_10 : decode cX4_weightLeft 10 = .ok (.iload 4, 2) := by decide +kernel
theorem dX4_weightLeft_12 : decode cX4_weightLeft 12 = .ok (.iaload, 1) := by decide +kernel
theorem dX4_weightLeft_13 : decode cX4_weightLeft 13 = .ok (.iload_n 1, 1) := by decide +kernel
theorem dX4_weightLeft_14 : decode cX4_weightLeft 14 = .ok (.if_icmp .ne 5, 3) := by decide +kernel
theorem dX4_weightLeft_17 : decode cX4_weightLeft 17 = .ok (.iconst 0, 1) := by decide +kernel
theorem dX4_weightLeft_18 : decode cX4_weightLeft 18 = .ok (.ireturn, 1) := by decide +kernel
theorem dX4_weightLeft_19 : decode cX4_weightLeft 19 = .ok (.iinc 4 1, 3) := by decide +kernel
theorem dX4_weightLeft_22 : decode cX4_weightLeft 22 = .ok (.goto (-19), 3) := by decide +kernel
theorem dX4_weightLeft_25 : decode cX4_weightLeft 25 = .ok (.aload_n 0, 1) := by decide +kernel
theorem dX4_weightLeft_26 : decode cX4_weightLeft 26 = .ok (.getfield 15, 3) := by decide +kernel
theorem dX4_weightLeft_29 : decode cX4_weightLeft 29 = .ok (.iload_n 1, 1) := by decide +kernel
theorem dX4_weightLeft_30 : decode cX4_weightLeft 30 = .ok (.iaload, 1) := by decide +kernel
theorem dX4_weightLeft_31 : decode cX4_weightLeft 31 = .ok (.ireturn, 1) := by decide +kernel
theorem dX5_init_0 : decode cX5_init 0 = .ok (.aload_n 0, 1) := by decide +kernel
theorem dX5_init_1 : decode cX5_init 1 = .ok (.invokespecial 3, 3) := by decide +kernel
theorem dX5_init_4 : decode cX5_init 4 = .ok (.aload_n 0, 1) := by decide +kernel
theorem dX5_init_5 : decode cX5_init 5 = .ok (.iload_n 1, 1) := by decide +kernel
theorem dX5_init_6 : decode cX5_init 6 = .ok (.putfield 9, 3) := by decide +kernel
theorem dX5_init_9 : decode cX5_init 9 = .ok (.aload_n 0, 1) := by decide +kernel
theorem dX5_init_10 : decode cX5_init 10 = .ok (.aload_n 2, 1) := by decide +kernel
theorem dX5_init_11 : decode cX5_init 11 = .ok (.putfield 15, 3) := by decide +kernel
theorem dX5_init_14 : decode cX5_init 14 = .ok (.aload_n 0, 1) := by decide +kernel
theorem dX5_init_15 : decode cX5_init 15 = .ok (.aload_n 3, 1) := by decide +kernel
theorem dX5_init_16 : decode cX5_init 16 = .ok (.putfield 19, 3) := by decide +kernel
theorem dX5_init_19 : decode cX5_init 19 = .ok (.aload_n 0, 1) := by decide +kernel
theorem dX5_init_20 : decode cX5_init 20 = .ok (.aload_n 3, 1) := by decide +kernel
theorem dX5_init_21 : decode cX5_init 21 = .ok (.arraylength, 1) := by decide +kernel
theorem dX5_init_22 : decode cX5_init 22 = .ok (.newarray .boolean, 2) := by decide +kernel
theorem dX5_init_24 : decode cX5_init 24 = .ok (.putfield 23, 3) := by decide +kernel
theorem dX5_init_27 : decode cX5_init 27 = .ok (.aload_n 0, 1) := by decide +kernel
theorem dX5_init_28 : decode cX5_init 28 = .ok (.iconst 0, 1) := by decide +kernel
theorem dX5_init_29 : decode cX5_init 29 = .ok (.putfield 27, 3) := by decide +kernel
theorem dX5_init_32 : decode cX5_init 32 = .ok (.aload_n 0, 1) := by decide +kernel
theorem dX5_init_33 : decode cX5_init 33 = .ok (.iconst 0, 1) := by decide +kernel
theorem dX5_init_34 : decode cX5_init 34 = .ok (.putfield 30, 3) := by decide +kernel
theorem dX5_init_37 : decode cX5_init 37 = .ok (.return_, 1) := by decide +kernel
theorem dX5_placeOf_0 : decode cX5_placeOf 0 = .ok (.iconst 0, 1) := by decide +kernel
theorem dX5_placeOf_1 : decode cX5_placeOf 1 = .ok (.istore_n 2, 1) := by decide +kernel
theorem dX5_placeOf_2 : decode cX5_placeOf 2 = .ok (.iload_n 2, 1) := by decide +kernel
theorem dX5_placeOf_3 : decode cX5_placeOf 3 = .ok (.aload_n 0, 1) := by decide +kernel
theorem dX5_placeOf_4 : decode cX5_placeOf 4 = .ok (.getfield 19, 3) := by decide +kernel
theorem dX5_placeOf_7 : decode cX5_placeOf 7 = .ok (.arraylength, 1) := by decide +kernel
theorem dX5_placeOf_8 : decode cX5_placeOf 8 = .ok (.if_icmp .ge 21, 3) := by decide +kernel
theorem dX5_placeOf_11 : decode cX5_placeOf 11 = .ok (.aload_n 0, 1) := by decide +kernel
theorem dX5_placeOf_12 : decode cX5_placeOf 12 = .ok (.getfield 19, 3) := by decide +kernel
theorem dX5_placeOf_15 : decode cX5_placeOf 15 = .ok (.iload_n 2, 1) := by decide +kernel
theorem dX5_placeOf_16 : decode cX5_placeOf 16 = .ok (.iaload, 1) := by decide +kernel
theorem dX5_placeOf_17 : decode cX5_placeOf 17 = .ok (.iload_n 1, 1) := by decide +kernel
theorem dX5_placeOf_18 : decode cX5_placeOf 18 = .ok (.if_icmp .ne 5, 3) := by decide +kernel
theorem dX5_placeOf_21 : decode cX5_placeOf 21 = .ok (.iload_n 2, 1) := by decide +kernel
theorem dX5_placeOf_22 : decode cX5_placeOf 22 = .ok (.ireturn, 1) := by decide +kernel
theorem dX5_placeOf_23 : decode cX5_placeOf 23 = .ok (.iinc 2 1, 3) := by decide +kernel
theorem dX5_placeOf_26 : decode cX5_placeOf 26 = .ok (.goto (-24), 3) := by decide +kernel
theorem dX5_placeOf_29 : decode cX5_placeOf 29 = .ok (.iconst (-1), 1) := by decide +kernel
theorem dX5_placeOf_30 : decode cX5_placeOf 30 = .ok (.ireturn, 1) := by decide +kernel
theorem dX5_record_0 : decode cX5_record 0 = .ok (.aload_n 0, 1) := by decide +kernel
theorem dX5_record_1 : decode cX5_record 1 = .ok (.getfield 23, 3) := by decide +kernel
theorem dX5_record_4 : decode cX5_record 4 = .ok (.iload_n 1, 1) := by decide +kernel
theorem dX5_record_5 : decode cX5_record 5 = .ok (.iconst 1, 1) := by decide +kernel
theorem dX5_record_6 : decode cX5_record 6 = .ok (.bastore, 1) := by decide +kernel
theorem dX5_record_7 : decode cX5_record 7 = .ok (.iload_n 2, 1) := by decide +kernel
theorem dX5_record_8 : decode cX5_record 8 = .ok (.ifCond .eq 16, 3) := by decide +kernel
theorem dX5_record_11 : decode cX5_record 11 = .ok (.aload_n 0, 1) := by decide +kernel
theorem dX5_record_12 : decode cX5_record 12 = .ok (.dup, 1) := by decide +kernel
theorem dX5_record_13 : decode cX5_record 13 = .ok (.getfield 27, 3) := by decide +kernel
theorem dX5_record_16 : decode cX5_record 16 = .ok (.iconst 1, 1) := by decide +kernel
theorem dX5_record_17 : decode cX5_record 17 = .ok (.iadd, 1) := by decide +kernel
theorem dX5_record_18 : decode cX5_record 18 = .ok (.putfield 27, 3) := by decide +kernel
theorem dX5_record_21 : decode cX5_record 21 = .ok (.goto 13, 3) := by decide +kernel
theorem dX5_record_24 : decode cX5_record 24 = .ok (.aload_n 0, 1) := by decide +kernel
theorem dX5_record_25 : decode cX5_record 25 = .ok (.dup, 1) := by decide +kernel
theorem dX5_record_26 : decode cX5_record 26 = .ok (.getfield 30, 3) := by decide +kernel
theorem dX5_record_29 : decode cX5_record 29 = .ok (.iconst 1, 1) := by decide +kernel
theorem dX5_record_30 : decode cX5_record 30 = .ok (.iadd, 1) := by decide +kernel
theorem dX5_record_31 : decode cX5_record 31 = .ok (.putfield 30, 3) := by decide +kernel
theorem dX5_record_34 : decode cX5_record 34 = .ok (.return_, 1) := by decide +kernel
theorem dX6_init_0 : decode cX6_init 0 = .ok (.aload_n 0, 1) := by decide +kernel
theorem dX6_init_1 : decode cX6_init 1 = .ok (.invokespecial 1, 3) := by decide +kernel
theorem dX6_init_4 : decode cX6_init 4 = .ok (.aload_n 0, 1) := by decide +kernel
theorem dX6_init_5 : decode cX6_init 5 = .ok (.aload_n 1, 1) := by decide +kernel
theorem dX6_init_6 : decode cX6_init 6 = .ok (.putfield 7, 3) := by decide +kernel
theorem dX6_init_9 : decode cX6_init 9 = .ok (.aload_n 0, 1) := by decide +kernel
theorem dX6_init_10 : decode cX6_init 10 = .ok (.iconst 0, 1) := by decide +kernel
theorem dX6_init_11 : decode cX6_init 11 = .ok (.putfield 13, 3) := by decide +kernel
theorem dX6_init_14 : decode cX6_init 14 = .ok (.aload_n 0, 1) := by decide +kernel
theorem dX6_init_15 : decode cX6_init 15 = .ok (.iconst 1, 1) := by decide +kernel
theorem dX6_init_16 : decode cX6_init 16 = .ok (.putfield 17, 3) := by decide +kernel
theorem dX6_init_19 : decode cX6_init 19 = .ok (.return_, 1) := by decide +kernel
theorem dX6_readTransaction_0 : decode cX6_readTransaction 0 = .ok (.new 8, 3) := by decide +kernel
theorem dX6_readTransaction_3 : decode cX6_readTransaction 3 = .ok (.dup, 1) := by decide +kernel
theorem dX6_readTransaction_4 : decode cX6_readTransaction 4 = .ok (.aload_n 0, 1) := by decide +kernel
theorem dX6_readTransaction_5 : decode cX6_readTransaction 5 = .ok (.invokespecial 21, 3) := by decide +kernel
theorem dX6_readTransaction_8 : decode cX6_readTransaction 8 = .ok (.astore_n 2, 1) := by decide +kernel
theorem dX6_readTransaction_9 : decode cX6_readTransaction 9 = .ok (.aload_n 2, 1) := by decide +kernel
theorem dX6_readTransaction_10 : decode cX6_readTransaction 10 = .ok (.invokevirtual 24, 3) := by decide +kernel
theorem dX6_readTransaction_13 : decode cX6_readTransaction 13 = .ok (.newarray .int, 2) := by decide +kernel
theorem dX6_readTransaction_15 : decode cX6_readTransaction 15 = .ok (.astore_n 3, 1) := by decide +kernel
theorem dX6_readTransaction_16 : decode cX6_readTransaction 16 = .ok (.iconst 0, 1) := by decide +kernel
theorem dX6_readTransaction_17 : decode cX6_readTransaction 17 = .ok (.istore 4, 2) := by decide +kernel
theorem dX6_readTransaction_19 : decode cX6_readTransaction 19 = .ok (.iload 4, 2) := by decide +kernel
theorem dX6_readTransaction_21 : decode cX6_readTransaction 21 = .ok (.aload_n 3, 1) := by decide +kernel
theorem dX6_readTransaction_22 : decode cX6_readTransaction 22 = .ok (.arraylength, 1) := by decide +kernel
theorem dX6_readTransaction_23 : decode cX6_readTransaction 23 = .ok (.if_icmp .ge 17, 3) := by decide +kernel
theorem dX6_readTransaction_26 : decode cX6_readTransaction 26 = .ok (.aload_n 3, 1) := by decide +kernel
theorem dX6_readTransaction_27 : decode cX6_readTransaction 27 = .ok (.iload 4, 2) := by decide +kernel
theorem dX6_readTransaction_29 : decode cX6_readTransaction 29 = .ok (.aload_n 2, 1) := by decide +kernel
theorem dX6_readTransaction_30 : decode cX6_readTransaction 30 = .ok (.invokevirtual 28, 3) := by decide +kernel
theorem dX6_readTransaction_33 : decode cX6_readTransaction 33 = .ok (.iastore, 1) := by decide +kernel
theorem dX6_readTransaction_34 : decode cX6_readTransaction 34 = .ok (.iinc 4 1, 3) := by decide +kernel
theorem dX6_readTransaction_37 : decode cX6_readTransaction 37 = .ok (.goto (-18), 3) := by decide +kernel
theorem dX6_readTransaction_40 : decode cX6_readTransaction 40 = .ok (.aload_n 2, 1) := by decide +kernel
theorem dX6_readTransaction_41 : decode cX6_readTransaction 41 = .ok (.invokevirtual 24, 3) := by decide +kernel
theorem dX6_readTransaction_44 : decode cX6_readTransaction 44 = .ok (.newarray .int, 2) := by decide +kernel
theorem dX6_readTransaction_46 : decode cX6_readTransaction 46 = .ok (.astore 4, 2) := by decide +kernel
theorem dX6_readTransaction_48 : decode cX6_readTransaction 48 = .ok (.aload 4, 2) := by decide +kernel
theorem dX6_readTransaction_50 : decode cX6_readTransaction 50 = .ok (.arraylength, 1) := by decide +kernel
theorem dX6_readTransaction_51 : decode cX6_readTransaction 51 = .ok (.newarray .int, 2) := by decide +kernel
theorem dX6_readTransaction_53 : decode cX6_readTransaction 53 = .ok (.astore 5, 2) := by decide +kernel
theorem dX6_readTransaction_55 : decode cX6_readTransaction 55 = .ok (.iconst 0, 1) := by decide +kernel
theorem dX6_readTransaction_56 : decode cX6_readTransaction 56 = .ok (.istore 6, 2) := by decide +kernel
theorem dX6_readTransaction_58 : decode cX6_readTransaction 58 = .ok (.iload 6, 2) := by decide +kernel
theorem dX6_readTransaction_60 : decode cX6_readTransaction 60 = .ok (.aload 4, 2) := by decide +kernel
theorem dX6_readTransaction_62 : decode cX6_readTransaction 62 = .ok (.arraylength, 1) := by decide +kernel
theorem dX6_readTransaction_63 : decode cX6_readTransaction 63 = .ok (.if_icmp .ge 27, 3) := by decide +kernel
theorem dX6_readTransaction_66 : decode cX6_readTransaction 66 = .ok (.aload 4, 2) := by decide +kernel
theorem dX6_readTransaction_68 : decode cX6_readTransaction 68 = .ok (.iload 6, 2) := by decide +kernel
theorem dX6_readTransaction_70 : decode cX6_readTransaction 70 = .ok (.aload_n 2, 1) := by decide +kernel
theorem dX6_readTransaction_71 : decode cX6_readTransaction 71 = .ok (.invokevirtual 28, 3) := by decide +kernel
theorem dX6_readTransaction_74 : decode cX6_readTransaction 74 = .ok (.iastore, 1) := by decide +kernel
theorem dX6_readTransaction_75 : decode cX6_readTransaction 75 = .ok (.aload 5, 2) := by decide +kernel
theorem dX6_readTransaction_77 : decode cX6_readTransaction 77 = .ok (.iload 6, 2) := by decide +kernel
theorem dX6_readTransaction_79 : decode cX6_readTransaction 79 = .ok (.aload_n 2, 1) := by decide +kernel
theorem dX6_readTransaction_80 : decode cX6_readTransaction 80 = .ok (.invokevirtual 31, 3) := by decide +kernel
theorem dX6_readTransaction_83 : decode cX6_readTransaction 83 = .ok (.iastore, 1) := by decide +kernel
theorem dX6_readTransaction_84 : decode cX6_readTransaction 84 = .ok (.iinc 6 1, 3) := by decide +kernel
theorem dX6_readTransaction_87 : decode cX6_readTransaction 87 = .ok (.goto (-29), 3) := by decide +kernel
theorem dX6_readTransaction_90 : decode cX6_readTransaction 90 = .ok (.aload_n 2, 1) := by decide +kernel
theorem dX6_readTransaction_91 : decode cX6_readTransaction 91 = .ok (.invokevirtual 24, 3) := by decide +kernel
theorem dX6_readTransaction_94 : decode cX6_readTransaction 94 = .ok (.anewarray 34, 3) := by decide +kernel
theorem dX6_readTransaction_97 : decode cX6_readTransaction 97 = .ok (.astore 6, 2) := by decide +kernel
theorem dX6_readTransaction_99 : decode cX6_readTransaction 99 = .ok (.iconst 0, 1) := by decide +kernel
theorem dX6_readTransaction_100 : decode cX6_readTransaction 100 = .ok (.istore 7, 2) := by decide +kernel
theorem dX6_readTransaction_102 : decode cX6_readTransaction 102 = .ok (.iload 7, 2) := by decide +kernel
theorem dX6_readTransaction_104 : decode cX6_readTransaction 104 = .ok (.aload 6, 2) := by decide +kernel
theorem dX6_readTransaction_106 : decode cX6_readTransaction 106 = .ok (.arraylength, 1) := by decide +kernel
theorem dX6_readTransaction_107 : decode cX6_readTransaction 107 = .ok (.if_icmp .ge 25, 3) := by decide +kernel
theorem dX6_readTransaction_110 : decode cX6_readTransaction 110 = .ok (.aload 6, 2) := by decide +kernel
theorem dX6_readTransaction_112 : decode cX6_readTransaction 112 = .ok (.iload 7, 2) := by decide +kernel
theorem dX6_readTransaction_114 : decode cX6_readTransaction 114 = .ok (.new 34, 3) := by decide +kernel
theorem dX6_readTransaction_117 : decode cX6_readTransaction 117 = .ok (.dup, 1) := by decide +kernel
theorem dX6_readTransaction_118 : decode cX6_readTransaction 118 = .ok (.aload_n 2, 1) := by decide +kernel
theorem dX6_readTransaction_119 : decode cX6_readTransaction 119 = .ok (.invokevirtual 36, 3) := by decide +kernel
theorem dX6_readTransaction_122 : decode cX6_readTransaction 122 = .ok (.invokespecial 39, 3) := by decide +kernel
theorem dX6_readTransaction_125 : decode cX6_readTransaction 125 = .ok (.aastore, 1) := by decide +kernel
theorem dX6_readTransaction_126 : decode cX6_readTransaction 126 = .ok (.iinc 7 1, 3) := by decide +kernel
theorem dX6_readTransaction_129 : decode cX6_readTransaction 129 = .ok (.goto (-27), 3) := by decide +kernel
theorem dX6_readTransaction_132 : decode cX6_readTransaction 132 = .ok (.aload_n 2, 1) := by decide +kernel
theorem dX6_readTransaction_133 : decode cX6_readTransaction 133 = .ok (.getfield 17, 3) := by decide +kernel
theorem dX6_readTransaction_136 : decode cX6_readTransaction 136 = .ok (.ifCond .eq 12, 3) := by decide +kernel
theorem dX6_readTransaction_139 : decode cX6_readTransaction 139 = .ok (.aload_n 2, 1) := by decide +kernel
theorem dX6_readTransaction_140 : decode cX6_readTransaction 140 = .ok (.getfield 13, 3) := by decide +kernel
theorem dX6_readTransaction_143 : decode cX6_readTransaction 143 = .ok (.aload_n 0, 1) := by decide +kernel
theorem dX6_readTransaction_144 : decode cX6_readTransaction 144 = .ok (.arraylength, 1) := by decide +kernel
theorem dX6_readTransaction_145 : decode cX6_readTransaction 145 = .ok (.if_icmp .eq 5, 3) := by decide +kernel
theorem dX6_readTransaction_148 : decode cX6_readTransaction 148 = .ok (.aconst_null, 1) := by decide +kernel
theorem dX6_readTransaction_149 : decode cX6_readTransaction 149 = .ok (.areturn, 1) := by decide +kernel
theorem dX6_readTransaction_150 : decode cX6_readTransaction 150 = .ok (.new 42, 3) := by decide +kernel
theorem dX6_readTransaction_153 : decode cX6_readTransaction 153 = .ok (.dup, 1) := by decide +kernel
theorem dX6_readTransaction_154 : decode cX6_readTransaction 154 = .ok (.aload_n 1, 1) := by decide +kernel
theorem dX6_readTransaction_155 : decode cX6_readTransaction 155 = .ok (.aload_n 0, 1) := by decide +kernel
theorem dX6_readTransaction_156 : decode cX6_readTransaction 156 = .ok (.invokevirtual 44, 3) := by decide +kernel
theorem dX6_readTransaction_159 : decode cX6_readTransaction 159 = .ok (.aload_n 0, 1) := by decide +kernel
theorem dX6_readTransaction_160 : decode cX6_readTransaction 160 = .ok (.aload_n 3, 1) := by decide +kernel
theorem dX6_readTransaction_161 : decode cX6_readTransaction 161 = .ok (.aload 4, 2) := by decide +kernel
theorem dX6_readTransaction_163 : decode cX6_readTransaction 163 = .ok (.aload 5, 2) := by decide +kernel
theorem dX6_readTransaction_165 : decode cX6_readTransaction 165 = .ok (.aload 6, 2) := by decide +kernel
theorem dX6_readTransaction_167 : decode cX6_readTransaction 167 = .ok (.invokespecial 50, 3) := by decide +kernel
theorem dX6_readTransaction_170 : decode cX6_readTransaction 170 = .ok (.areturn, 1) := by decide +kernel
theorem dX6_nextByte_0 : decode cX6_nextByte 0 = .ok (.aload_n 0, 1) := by decide +kernel
theorem dX6_nextByte_1 : decode cX6_nextByte 1 = .ok (.getfield 13, 3) := by decide +kernel
theorem dX6_nextByte_4 : decode cX6_nextByte 4 = .ok (.aload_n 0, 1) := by decide +kernel
theorem dX6_nextByte_5 : decode cX6_nextByte 5 = .ok (.getfield 7, 3) := by decide +kernel
theorem dX6_nextByte_8 : decode cX6_nextByte 8 = .ok (.arraylength, 1) := by decide +kernel
theorem dX6_nextByte_9 : decode cX6_nextByte 9 = .ok (.if_icmp .lt 10, 3) := by decide +kernel
theorem dX6_nextByte_12 : decode cX6_nextByte 12 = .ok (.aload_n 0, 1) := by decide +kernel
theorem dX6_nextByte_13 : decode cX6_nextByte 13 = .ok (.iconst 0, 1) := by decide +kernel
theorem dX6_nextByte_14 : decode cX6_nextByte 14 = .ok (.putfield 17, 3) := by decide +kernel
theorem dX6_nextByte_17 : decode cX6_nextByte 17 = .ok (.iconst 0, 1) := by decide +kernel
theorem dX6_nextByte_18 : decode cX6_nextByte 18 = .ok (.ireturn, 1) := by decide +kernel
theorem dX6_nextByte_19 : decode cX6_nextByte 19 = .ok (.aload_n 0, 1) := by decide +kernel
theorem dX6_nextByte_20 : decode cX6_nextByte 20 = .ok (.getfield 7, 3) := by decide +kernel
theorem dX6_nextByte_23 : decode cX6_nextByte 23 = .ok (.aload_n 0, 1) := by decide +kernel
theorem dX6_nextByte_24 : decode cX6_nextByte 24 = .ok (.getfield 13, 3) := by decide +kernel
theorem dX6_nextByte_27 : decode cX6_nextByte 27 = .ok (.baload, 1) := by decide +kernel
theorem dX6_nextByte_28 : decode cX6_nextByte 28 = .ok (.sipush 255, 3) := by decide +kernel
theorem dX6_nextByte_31 : decode cX6_nextByte 31 = .ok (.iand, 1) := by decide +kernel
theorem dX6_nextByte_32 : decode cX6_nextByte 32 = .ok (.istore_n 1, 1) := by decide +kernel
theorem dX6_nextByte_33 : decode cX6_nextByte 33 = .ok (.aload_n 0, 1) := by decide +kernel
theorem dX6_nextByte_34 : decode cX6_nextByte 34 = .ok (.dup, 1) := by decide +kernel
theorem dX6_nextByte_35 : decode cX6_nextByte 35 = .ok (.getfield 13, 3) := by decide +kernel
theorem dX6_nextByte_38 : decode cX6_nextByte 38 = .ok (.iconst 1, 1) := by decide +kernel
theorem dX6_nextByte_39 : decode cX6_nextByte 39 = .ok (.iadd, 1) := by decide +kernel
theorem dX6_nextByte_40 : decode cX6_nextByte 40 = .ok (.putfield 13, 3) := by decide +kernel
theorem dX6_nextByte_43 : decode cX6_nextByte 43 = .ok (.iload_n 1, 1) := by decide +kernel
theorem dX6_nextByte_44 : decode cX6_nextByte 44 = .ok (.ireturn, 1) := by decide +kernel
theorem dX6_nextWord_0 : decode cX6_nextWord 0 = .ok (.iconst 0, 1) := by decide +kernel
theorem dX6_nextWord_1 : decode cX6_nextWord 1 = .ok (.istore_n 1, 1) := by decide +kernel
theorem dX6_nextWord_2 : decode cX6_nextWord 2 = .ok (.iconst 0, 1) := by decide +kernel
theorem dX6_nextWord_3 : decode cX6_nextWord 3 = .ok (.istore_n 2, 1) := by decide +kernel
theorem dX6_nextWord_4 : decode cX6_nextWord 4 = .ok (.iload_n 2, 1) := by decide +kernel
theorem dX6_nextWord_5 : decode cX6_nextWord 5 = .ok (.iconst 4, 1) := by decide +kernel
theorem dX6_nextWord_6 : decode cX6_nextWord 6 = .ok (.if_icmp .ge 19, 3) := by decide +kernel
theorem dX6_nextWord_9 : decode cX6_nextWord 9 = .ok (.iload_n 1, 1) := by decide +kernel
theorem dX6_nextWord_10 : decode cX6_nextWord 10 = .ok (.bipush 8, 2) := by decide +kernel
theorem dX6_nextWord_12 : decode cX6_nextWord 12 = .ok (.ishl, 1) := by decide +kernel
theorem dX6_nextWord_13 : decode cX6_nextWord 13 = .ok (.aload_n 0, 1) := by decide +kernel
theorem dX6_nextWord_14 : decode cX6_nextWord 14 = .ok (.invokevirtual 31, 3) := by decide +kernel
theorem dX6_nextWord_17 : decode cX6_nextWord 17 = .ok (.ior, 1) := by decide +kernel
theorem dX6_nextWord_18 : decode cX6_nextWord 18 = .ok (.istore_n 1, 1) := by decide +kernel
theorem dX6_nextWord_19 : decode cX6_nextWord 19 = .ok (.iinc 2 1, 3) := by decide +kernel
theorem dX6_nextWord_22 : decode cX6_nextWord 22 = .ok (.goto (-18), 3) := by decide +kernel
theorem dX6_nextWord_25 : decode cX6_nextWord 25 = .ok (.iload_n 1, 1) := by decide +kernel
theorem dX6_nextWord_26 : decode cX6_nextWord 26 = .ok (.ireturn, 1) := by decide +kernel
theorem dX6_nextFew_0 : decode cX6_nextFew 0 = .ok (.aload_n 0, 1) := by decide +kernel
theorem dX6_nextFew_1 : decode cX6_nextFew 1 = .ok (.invokevirtual 31, 3) := by decide +kernel
theorem dX6_nextFew_4 : decode cX6_nextFew 4 = .ok (.istore_n 1, 1) := by decide +kernel
theorem dX6_nextFew_5 : decode cX6_nextFew 5 = .ok (.iload_n 1, 1) := by decide +kernel
theorem dX6_nextFew_6 : decode cX6_nextFew 6 = .ok (.iconst 1, 1) := by decide +kernel
theorem dX6_nextFew_7 : decode cX6_nextFew 7 = .ok (.if_icmp .lt 8, 3) := by decide +kernel
theorem dX6_nextFew_10 : decode cX6_nextFew 10 = .ok (.iload_n 1, 1) := by decide +kernel
theorem dX6_nextFew_11 : decode cX6_nextFew 11 = .ok (.iconst 4, 1) := by decide +kernel
theorem dX6_nextFew_12 : decode cX6_nextFew 12 = .ok (.if_icmp .le 10, 3) := by decide +kernel
theorem dX6_nextFew_15 : decode cX6_nextFew 15 = .ok (.aload_n 0, 1) := by decide +kernel
theorem dX6_nextFew_16 : decode cX6_nextFew 16 = .ok (.iconst 0, 1) := by decide +kernel
theorem dX6_nextFew_17 : decode cX6_nextFew 17 = .ok (.putfield 17, 3) := by decide +kernel
theorem dX6_nextFew_20 : decode cX6_nextFew 20 = .ok (.iconst 0, 1) := by decide +kernel
theorem dX6_nextFew_21 : decode cX6_nextFew 21 = .ok (.ireturn, 1) := by decide +kernel
theorem dX6_nextFew_22 : decode cX6_nextFew 22 = .ok (.iload_n 1, 1) := by decide +kernel
theorem dX6_nextFew_23 : decode cX6_nextFew 23 = .ok (.ireturn, 1) := by decide +kernel
theorem dX6_nextId_0 : decode cX6_nextId 0 = .ok (.aload_n 0, 1) := by decide +kernel
theorem dX6_nextId_1 : decode cX6_nextId 1 = .ok (.invokevirtual 53, 3) := by decide +kernel
theorem dX6_nextId_4 : decode cX6_nextId 4 = .ok (.istore_n 1, 1) := by decide +kernel
theorem dX6_nextId_5 : decode cX6_nextId 5 = .ok (.iload_n 1, 1) := by decide +kernel
theorem dX6_nextId_6 : decode cX6_nextId 6 = .ok (.ifCond .ge 8, 3) := by decide +kernel
theorem dX6_nextId_9 : decode cX6_nextId 9 = .ok (.aload_n 0, 1) := by decide +kernel
theorem dX6_nextId_10 : decode cX6_nextId 10 = .ok (.iconst 0, 1) := by decide +kernel
theorem dX6_nextId_11 : decode cX6_nextId 11 = .ok (.putfield 17, 3) := by decide +kernel
theorem dX6_nextId_14 : decode cX6_nextId 14 = .ok (.iload_n 1, 1) := by decide +kernel
theorem dX6_nextId_15 : decode cX6_nextId 15 = .ok (.ireturn, 1) := by decide +kernel
theorem dX6_nextAmount_0 : decode cX6_nextAmount 0 = .ok (.aload_n 0, 1) := by decide +kernel
theorem dX6_nextAmount_1 : decode cX6_nextAmount 1 = .ok (.invokevirtual 53, 3) := by decide +kernel
theorem dX6_nextAmount_4 : decode cX6_nextAmount 4 = .ok (.istore_n 1, 1) := by decide +kernel
theorem dX6_nextAmount_5 : decode cX6_nextAmount 5 = .ok (.iload_n 1, 1) := by decide +kernel
theorem dX6_nextAmount_6 : decode cX6_nextAmount 6 = .ok (.iconst 1, 1) := by decide +kernel
theorem dX6_nextAmount_7 : decode cX6_nextAmount 7 = .ok (.if_icmp .lt 9, 3) := by decide +kernel
theorem dX6_nextAmount_10 : decode cX6_nextAmount 10 = .ok (.iload_n 1, 1) := by decide +kernel
theorem dX6_nextAmount_11 : decode cX6_nextAmount 11 = .ok (.ldc 56, 2) := by decide +kernel
theorem dX6_nextAmount_13 : decode cX6_nextAmount 13 = .ok (.if_icmp .le 8, 3) := by decide +kernel
theorem dX6_nextAmount_16 : decode cX6_nextAmount 16 = .ok (.aload_n 0, 1) := by decide +kernel
theorem dX6_nextAmount_17 : decode cX6_nextAmount 17 = .ok (.iconst 0, 1) := by decide +kernel
theorem dX6_nextAmount_18 : decode cX6_nextAmount 18 = .ok (.putfield 17, 3) := by decide +kernel
theorem dX6_nextAmount_21 : decode cX6_nextAmount 21 = .ok (.iload_n 1, 1) := by decide +kernel
theorem dX6_nextAmount_22 : decode cX6_nextAmount 22 = .ok (.ireturn, 1) := by decide +kernel
theorem dX7_init_0 : decode cX7_init 0 = .ok (.aload_n 0, 1) := by decide +kernel
theorem dX7_init_1 : decode cX7_init 1 = .ok (.invokespecial 1, 3) := by decide +kernel
theorem dX7_init_4 : decode cX7_init 4 = .ok (.aload_n 0, 1) := by decide +kernel
theorem dX7_init_5 : decode cX7_init 5 = .ok (.sipush 128, 3) := by decide +kernel
theorem dX7_init_8 : decode cX7_init 8 = .ok (.newarray .byte, 2) := by decide +kernel
theorem dX7_init_10 : decode cX7_init 10 = .ok (.putfield 9, 3) := by decide +kernel
theorem dX7_init_13 : decode cX7_init 13 = .ok (.aload_n 0, 1) := by decide +kernel
theorem dX7_init_14 : decode cX7_init 14 = .ok (.iconst 0, 1) := by decide +kernel
theorem dX7_init_15 : decode cX7_init 15 = .ok (.putfield 13, 3) := by decide +kernel
theorem dX7_init_18 : decode cX7_init 18 = .ok (.return_, 1) := by decide +kernel
theorem dX7_append_0 : decode cX7_append 0 = .ok (.aload_n 0, 1) := by decide +kernel
theorem dX7_append_1 : decode cX7_append 1 = .ok (.getfield 13, 3) := by decide +kernel
theorem dX7_append_4 : decode cX7_append 4 = .ok (.iconst 4, 1) := by decide +kernel
theorem dX7_append_5 : decode cX7_append 5 = .ok (.iadd, 1) := by decide +kernel
theorem dX7_append_6 : decode cX7_append 6 = .ok (.sipush 128, 3) := by decide +kernel
theorem dX7_append_9 : decode cX7_append 9 = .ok (.if_icmp .le 5, 3) := by decide +kernel
theorem dX7_append_12 : decode cX7_append 12 = .ok (.iconst 0, 1) := by decide +kernel
theorem dX7_append_13 : decode cX7_append 13 = .ok (.ireturn, 1) := by decide +kernel
theorem dX7_append_14 : decode cX7_append 14 = .ok (.bipush 24, 2) := by decide +kernel
theorem dX7_append_16 : decode cX7_append 16 = .ok (.istore_n 2, 1) := by decide +kernel
theorem dX7_append_17 : decode cX7_append 17 = .ok (.iload_n 2, 1) := by decide +kernel
theorem dX7_append_18 : decode cX7_append 18 = .ok (.ifCond .lt 32, 3) := by decide +kernel
theorem dX7_append_21 : decode cX7_append 21 = .ok (.aload_n 0, 1) := by decide +kernel
theorem dX7_append_22 : decode cX7_append 22 = .ok (.getfield 9, 3) := by decide +kernel
theorem dX7_append_25 : decode cX7_append 25 = .ok (.aload_n 0, 1) := by decide +kernel
theorem dX7_append_26 : decode cX7_append 26 = .ok (.getfield 13, 3) := by decide +kernel
theorem dX7_append_29 : decode cX7_append 29 = .ok (.iload_n 1, 1) := by decide +kernel
theorem dX7_append_30 : decode cX7_append 30 = .ok (.iload_n 2, 1) := by decide +kernel
theorem dX7_append_31 : decode cX7_append 31 = .ok (.iushr, 1) := by decide +kernel
theorem dX7_append_32 : decode cX7_append 32 = .ok (.i2b, 1) := by decide +kernel
theorem dX7_append_33 : decode cX7_append 33 = .ok (.bastore, 1) := by decide +kernel
theorem dX7_append_34 : decode cX7_append 34 = .ok (.aload_n 0, 1) := by decide +kernel
theorem dX7_append_35 : decode cX7_append 35 = .ok (.dup, 1) := by decide +kernel
theorem dX7_append_36 : decode cX7_append 36 = .ok (.getfield 13, 3) := by decide +kernel
theorem dX7_append_39 : decode cX7_append 39 = .ok (.iconst 1, 1) := by decide +kernel
theorem dX7_append_40 : decode cX7_append 40 = .ok (.iadd, 1) := by decide +kernel
theorem dX7_append_41 : decode cX7_append 41 = .ok (.putfield 13, 3) := by decide +kernel
theorem dX7_append_44 : decode cX7_append 44 = .ok (.iinc 2 (-8), 3) := by decide +kernel
theorem dX7_append_47 : decode cX7_append 47 = .ok (.goto (-30), 3) := by decide +kernel
theorem dX7_append_50 : decode cX7_append 50 = .ok (.iconst 1, 1) := by decide +kernel
theorem dX7_append_51 : decode cX7_append 51 = .ok (.ireturn, 1) := by decide +kernel
theorem dX8_init_0 : decode cX8_init 0 = .ok (.aload_n 0, 1) := by decide +kernel
theorem dX8_init_1 : decode cX8_init 1 = .ok (.invokespecial 5, 3) := by decide +kernel
theorem dX8_init_4 : decode cX8_init 4 = .ok (.aload_n 0, 1) := by decide +kernel
theorem dX8_init_5 : decode cX8_init 5 = .ok (.iload_n 1, 1) := by decide +kernel
theorem dX8_init_6 : decode cX8_init 6 = .ok (.putfield 11, 3) := by decide +kernel
theorem dX8_init_9 : decode cX8_init 9 = .ok (.aload_n 0, 1) := by decide +kernel
theorem dX8_init_10 : decode cX8_init 10 = .ok (.aload_n 2, 1) := by decide +kernel
theorem dX8_init_11 : decode cX8_init 11 = .ok (.putfield 17, 3) := by decide +kernel
theorem dX8_init_14 : decode cX8_init 14 = .ok (.aload_n 0, 1) := by decide +kernel
theorem dX8_init_15 : decode cX8_init 15 = .ok (.aload_n 3, 1) := by decide +kernel
theorem dX8_init_16 : decode cX8_init 16 = .ok (.putfield 21, 3) := by decide +kernel
theorem dX8_init_19 : decode cX8_init 19 = .ok (.aload_n 0, 1) := by decide +kernel
theorem dX8_init_20 : decode cX8_init 20 = .ok (.aload 4, 2) := by decide +kernel
theorem dX8_init_22 : decode cX8_init 22 = .ok (.putfield 25, 3) := by decide +kernel
theorem dX8_init_25 : decode cX8_init 25 = .ok (.aload_n 0, 1) := by decide +kernel
theorem dX8_init_26 : decode cX8_init 26 = .ok (.aload 5, 2) := by decide +kernel
theorem dX8_init_28 : decode cX8_init 28 = .ok (.putfield 28, 3) := by decide +kernel
theorem dX8_init_31 : decode cX8_init 31 = .ok (.aload_n 0, 1) := by decide +kernel
theorem dX8_init_32 : decode cX8_init 32 = .ok (.aload 6, 2) := by decide +kernel
theorem dX8_init_34 : decode cX8_init 34 = .ok (.putfield 31, 3) := by decide +kernel
theorem dX8_init_37 : decode cX8_init 37 = .ok (.aload_n 0, 1) := by decide +kernel
theorem dX8_init_38 : decode cX8_init 38 = .ok (.aload_n 3, 1) := by decide +kernel
theorem dX8_init_39 : decode cX8_init 39 = .ok (.arraylength, 1) := by decide +kernel
theorem dX8_init_40 : decode cX8_init 40 = .ok (.anewarray 12, 3) := by decide +kernel
theorem dX8_init_43 : decode cX8_init 43 = .ok (.putfield 35, 3) := by decide +kernel
theorem dX8_init_46 : decode cX8_init 46 = .ok (.aload_n 0, 1) := by decide +kernel
theorem dX8_init_47 : decode cX8_init 47 = .ok (.aload 4, 2) := by decide +kernel
theorem dX8_init_49 : decode cX8_init 49 = .ok (.arraylength, 1) := by decide +kernel
theorem dX8_init_50 : decode cX8_init 50 = .ok (.anewarray 39, 3) := by decide +kernel
theorem dX8_init_53 : decode cX8_init 53 = .ok (.putfield 41, 3) := by decide +kernel
theorem dX8_init_56 : decode cX8_init 56 = .ok (.aload_n 0, 1) := by decide +kernel
theorem dX8_init_57 : decode cX8_init 57 = .ok (.iconst 3, 1) := by decide +kernel
theorem dX8_init_58 : decode cX8_init 58 = .ok (.newarray .long, 2) := by decide +kernel
theorem dX8_init_60 : decode cX8_init 60 = .ok (.putfield 44, 3) := by decide +kernel
theorem dX8_init_63 : decode cX8_init 63 = .ok (.aload_n 0, 1) := by decide +kernel
theorem dX8_init_64 : decode cX8_init 64 = .ok (.iconst (-1), 1) := by decide +kernel
theorem dX8_init_65 : decode cX8_init 65 = .ok (.putfield 48, 3) := by decide +kernel
theorem dX8_init_68 : decode cX8_init 68 = .ok (.aload_n 0, 1) := by decide +kernel
theorem dX8_init_69 : decode cX8_init 69 = .ok (.iconst 1, 1) := by decide +kernel
theorem dX8_init_70 : decode cX8_init 70 = .ok (.putfield 51, 3) := by decide +kernel
theorem dX8_init_73 : decode cX8_init 73 = .ok (.aload_n 0, 1) := by decide +kernel
theorem dX8_init_74 : decode cX8_init 74 = .ok (.iconst 0, 1) := by decide +kernel
theorem dX8_init_75 : decode cX8_init 75 = .ok (.putfield 54, 3) := by decide +kernel
theorem dX8_init_78 : decode cX8_init 78 = .ok (.aload_n 0, 1) := by decide +kernel
theorem dX8_init_79 : decode cX8_init 79 = .ok (.iconst 0, 1) := by decide +kernel
theorem dX8_init_80 : decode cX8_init 80 = .ok (.putfield 57, 3) := by decide +kernel
theorem dX8_init_83 : decode cX8_init 83 = .ok (.aload_n 0, 1) := by decide +kernel
theorem dX8_init_84 : decode cX8_init 84 = .ok (.iconst 0, 1) := by decide +kernel
theorem dX8_init_85 : decode cX8_init 85 = .ok (.putfield 61, 3) := by decide +kernel
theorem dX8_init_88 : decode cX8_init 88 = .ok (.aload_n 0, 1) := by decide +kernel
theorem dX8_init_89 : decode cX8_init 89 = .ok (.iconst 0, 1) := by decide +kernel
theorem dX8_init_90 : decode cX8_init 90 = .ok (.putfield 64, 3) := by decide +kernel
theorem dX8_init_93 : decode cX8_init 93 = .ok (.aload_n 0, 1) := by decide +kernel
theorem dX8_init_94 : decode cX8_init 94 = .ok (.iconst 0, 1) := by decide +kernel
theorem dX8_init_95 : decode cX8_init 95 = .ok (.putfield 67, 3) := by decide +kernel
theorem dX8_init_98 : decode cX8_init 98 = .ok (.return_, 1) := by decide +kernel
theorem dX8_isHeld_0 : decode cX8_isHeld 0 = .ok (.aload_n 0, 1) := by decide +kernel
theorem dX8_isHeld_1 : decode cX8_isHeld 1 = .ok (.getfield 48, 3) := by decide +kernel
theorem dX8_isHeld_4 : decode cX8_isHeld 4 = .ok (.ifCond .lt 7, 3) := by decide +kernel
theorem dX8_isHeld_7 : decode cX8_isHeld 7 = .ok (.iconst 1, 1) := by decide +kernel
theorem dX8_isHeld_8 : decode cX8_isHeld 8 = .ok (.goto 4, 3) := by decide +kernel
theorem dX8_isHeld_11 : decode cX8_isHeld 11 = .ok (.iconst 0, 1) := by decide +kernel
theorem dX8_isHeld_12 : decode cX8_isHeld 12 = .ok (.ireturn, 1) := by decide +kernel
theorem dX8_isOpen_0 : decode cX8_isOpen 0 = .ok (.aload_n 0, 1) := by decide +kernel
theorem dX8_isOpen_1 : decode cX8_isOpen 1 = .ok (.getfield 51, 3) := by decide +kernel
theorem dX8_isOpen_4 : decode cX8_isOpen 4 = .ok (.iconst 2, 1) := by decide +kernel
theorem dX8_isOpen_5 : decode cX8_isOpen 5 = .ok (.if_icmp .ne 7, 3) := by decide +kernel
theorem dX8_isOpen_8 : decode cX8_isOpen 8 = .ok (.iconst 1, 1) := by decide +kernel
theorem dX8_isOpen_9 : decode cX8_isOpen 9 = .ok (.goto 4, 3) := by decide +kernel
theorem dX8_isOpen_12 : decode cX8_isOpen 12 = .ok (.iconst 0, 1) := by decide +kernel
theorem dX8_isOpen_13 : decode cX8_isOpen 13 = .ok (.ireturn, 1) := by decide +kernel
theorem dX8_hasAncestor_0 : decode cX8_hasAncestor 0 = .ok (.aload_n 1, 1) := by decide +kernel
theorem dX8_hasAncestor_1 : decode cX8_hasAncestor 1 = .ok (.getfield 48, 3) := by decide +kernel
theorem dX8_hasAncestor_4 : decode cX8_hasAncestor 4 = .ok (.istore_n 2, 1) := by decide +kernel
theorem dX8_hasAncestor_5 : decode cX8_hasAncestor 5 = .ok (.iload_n 2, 1) := by decide +kernel
theorem dX8_hasAncestor_6 : decode cX8_hasAncestor 6 = .ok (.ifCond .lt 28, 3) := by decide +kernel
theorem dX8_hasAncestor_9 : decode cX8_hasAncestor 9 = .ok (.aload_n 0, 1) := by decide +kernel
theorem dX8_hasAncestor_10 : decode cX8_hasAncestor 10 = .ok (.getfield 44, 3) := by decide +kernel
theorem dX8_hasAncestor_13 : decode cX8_hasAncestor 13 = .ok (.iload_n 2, 1) := by decide +kernel
theorem dX8_hasAncestor_14 : decode cX8_hasAncestor 14 = .ok (.bipush 6, 2) := by decide +kernel
theorem dX8_hasAncestor_16 : decode cX8_hasAncestor 16 = .ok (.ishr, 1) := by decide +kernel
theorem dX8_hasAncestor_17 : decode cX8_hasAncestor 17 = .ok (.laload, 1) := by decide +kernel
theorem dX8_hasAncestor_18 : decode cX8_hasAncestor 18 = .ok (.iload_n 2, 1) := by decide +kernel
theorem dX8_hasAncestor_19 : decode cX8_hasAncestor 19 = .ok (.bipush 63, 2) := by decide +kernel
theorem dX8_hasAncestor_21 : decode cX8_hasAncestor 21 = .ok (.iand, 1) := by decide +kernel
theorem dX8_hasAncestor_22 : decode cX8_hasAncestor 22 = .ok (.lushr, 1) := by decide +kernel
theorem dX8_hasAncestor_23 : decode cX8_hasAncestor 23 = .ok (.lconst 1, 1) := by decide +kernel
theorem dX8_hasAncestor_24 : decode cX8_hasAncestor 24 = .ok (.land, 1) := by decide +kernel
theorem dX8_hasAncestor_25 : decode cX8_hasAncestor 25 = .ok (.lconst 0, 1) := by decide +kernel
theorem dX8_hasAncestor_26 : decode cX8_hasAncestor 26 = .ok (.lcmp, 1) := by decide +kernel
theorem dX8_hasAncestor_27 : decode cX8_hasAncestor 27 = .ok (.ifCond .eq 7, 3) := by decide +kernel
theorem dX8_hasAncestor_30 : decode cX8_hasAncestor 30 = .ok (.iconst 1, 1) := by decide +kernel
theorem dX8_hasAncestor_31 : decode cX8_hasAncestor 31 = .ok (.goto 4, 3) := by decide +kernel
theorem dX8_hasAncestor_34 : decode cX8_hasAncestor 34 = .ok (.iconst 0, 1) := by decide +kernel
theorem dX8_hasAncestor_35 : decode cX8_hasAncestor 35 = .ok (.ireturn, 1) := by decide +kernel
theorem dX8_countAncestors_0 : decode cX8_countAncestors 0 = .ok (.iconst 0, 1) := by decide +kernel
theorem dX8_countAncestors_1 : decode cX8_countAncestors 1 = .ok (.istore_n 1, 1) := by decide +kernel
theorem dX8_countAncestors_2 : decode cX8_countAncestors 2 = .ok (.aload_n 0, 1) := by decide +kernel
theorem dX8_countAncestors_3 : decode cX8_countAncestors 3 = .ok (.invokevirtual 70, 3) := by decide +kernel
theorem dX8_countAncestors_6 : decode cX8_countAncestors 6 = .ok (.ifCond .eq 28, 3) := by decide +kernel
theorem dX8_countAncestors_9 : decode cX8_countAncestors 9 = .ok (.iconst 0, 1) := by decide +kernel
theorem dX8_countAncestors_10 : decode cX8_countAncestors 10 = .ok (.istore_n 2, 1) := by decide +kernel
theorem dX8_countAncestors_11 : decode cX8_countAncestors 11 = .ok (.iload_n 2, 1) := by decide +kernel
theorem dX8_countAncestors_12 : decode cX8_countAncestors 12 = .ok (.iconst 3, 1) := by decide +kernel
theorem dX8_countAncestors_13 : decode cX8_countAncestors 13 = .ok (.if_icmp .ge 21, 3) := by decide +kernel
theorem dX8_countAncestors_16 : decode cX8_countAncestors 16 = .ok (.iload_n 1, 1) := by decide +kernel
theorem dX8_countAncestors_17 : decode cX8_countAncestors 17 = .ok (.aload_n 0, 1) := by decide +kernel
theorem dX8_countAncestors_18 : decode cX8_countAncestors 18 = .ok (.getfield 44, 3) := by decide +kernel
theorem dX8_countAncestors_21 : decode cX8_countAncestors 21 = .ok (.iload_n 2, 1) := by decide +kernel
theorem dX8_countAncestors_22 : decode cX8_countAncestors 22 = .ok (.laload, 1) := by decide +kernel
theorem dX8_countAncestors_23 : decode cX8_countAncestors 23 = .ok (.invokestatic 74, 3) := by decide +kernel
theorem dX8_countAncestors_26 : decode cX8_countAncestors 26 = .ok (.iadd, 1) := by decide +kernel
theorem dX8_countAncestors_27 : decode cX8_countAncestors 27 = .ok (.istore_n 1, 1) := by decide +kernel
theorem dX8_countAncestors_28 : decode cX8_countAncestors 28 = .ok (.iinc 2 1, 3) := by decide +kernel
theorem dX8_countAncestors_31 : decode cX8_countAncestors 31 = .ok (.goto (-20), 3) := by decide +kernel
theorem dX8_countAncestors_34 : decode cX8_countAncestors 34 = .ok (.iload_n 1, 1) := by decide +kernel
theorem dX8_countAncestors_35 : decode cX8_countAncestors 35 = .ok (.ireturn, 1) := by decide +kernel
theorem dX8_gatherAncestors_0 : decode cX8_gatherAncestors 0 = .ok (.iconst 0, 1) := by decide +kernel
theorem dX8_gatherAncestors_1 : decode cX8_gatherAncestors 1 = .ok (.istore_n 1, 1) := by decide +kernel
theorem dX8_gatherAncestors_2 : decode cX8_gatherAncestors 2 = .ok (.iload_n 1, 1) := by decide +kernel
theorem dX8_gatherAncestors_3 : decode cX8_gatherAncestors 3 = .ok (.aload_n 0, 1) := by decide +kernel
theorem dX8_gatherAncestors_4 : decode cX8_gatherAncestors 4 = .ok (.getfield 35, 3) := by decide +kernel
theorem dX8_gatherAncestors_7 : decode cX8_gatherAncestors 7 = .ok (.arraylength, 1) := by decide +kernel
theorem dX8_gatherAncestors_8 : decode cX8_gatherAncestors 8 = .ok (.if_icmp .ge 68, 3) := by decide +kernel
theorem dX8_gatherAncestors_11 : decode cX8_gatherAncestors 11 = .ok (.aload_n 0, 1) := by decide +kernel
theorem dX8_gatherAncestors_12 : decode cX8_gatherAncestors 12 = .ok (.getfield 35, 3) := by decide +kernel
theorem dX8_gatherAncestors_15 : decode cX8_gatherAncestors 15 = .ok (.iload_n 1, 1) := by decide +kernel
theorem dX8_gatherAncestors_16 : decode cX8_gatherAncestors 16 = .ok (.aaload, 1) := by decide +kernel
theorem dX8_gatherAncestors_17 : decode cX8_gatherAncestors 17 = .ok (.astore_n 2, 1) := by decide +kernel
theorem dX8_gatherAncestors_18 : decode cX8_gatherAncestors 18 = .ok (.iconst 0, 1) := by decide +kernel
theorem dX8_gatherAncestors_19 : decode cX8_gatherAncestors 19 = .ok (.istore_n 3, 1) := by decide +kernel
theorem dX8_gatherAncestors_20 : decode cX8_gatherAncestors 20 = .ok (.iload_n 3, 1) := by decide +kernel
theorem dX8_gatherAncestors_21 : decode cX8_gatherAncestors 21 = .ok (.iconst 3, 1) := by decide +kernel
theorem dX8_gatherAncestors_22 : decode cX8_gatherAncestors 22 = .ok (.if_icmp .ge 24, 3) := by decide +kernel
theorem dX8_gatherAncestors_25 : decode cX8_gatherAncestors 25 = .ok (.aload_n 0, 1) := by decide +kernel
theorem dX8_gatherAncestors_26 : decode cX8_gatherAncestors 26 = .ok (.getfield 44, 3) := by decide +kernel
theorem dX8_gatherAncestors_29 : decode cX8_gatherAncestors 29 = .ok (.iload_n 3, 1) := by decide +kernel
theorem dX8_gatherAncestors_30 : decode cX8_gatherAncestors 30 = .ok (.dup2, 1) := by decide +kernel
theorem dX8_gatherAncestors_31 : decode cX8_gatherAncestors 31 = .ok (.laload, 1) := by decide +kernel
theorem dX8_gatherAncestors_32 : decode cX8_gatherAncestors 32 = .ok (.aload_n 2, 1) := by decide +kernel
theorem dX8_gatherAncestors_33 : decode cX8_gatherAncestors 33 = .ok (.getfield 44, 3) := by decide +kernel
theorem dX8_gatherAncestors_36 : decode cX8_gatherAncestors 36 = .ok (.iload_n 3, 1) := by decide +kernel
theorem dX8_gatherAncestors_37 : decode cX8_gatherAncestors 37 = .ok (.laload, 1) := by decide +kernel
theorem dX8_gatherAncestors_38 : decode cX8_gatherAncestors 38 = .ok (.lor, 1) := by decide +kernel
theorem dX8_gatherAncestors_39 : decode cX8_gatherAncestors 39 = .ok (.lastore, 1) := by decide +kernel
theorem dX8_gatherAncestors_40 : decode cX8_gatherAncestors 40 = .ok (.iinc 3 1, 3) := by decide +kernel
theorem dX8_gatherAncestors_43 : decode cX8_gatherAncestors 43 = .ok (.goto (-23), 3) := by decide +kernel
theorem dX8_gatherAncestors_46 : decode cX8_gatherAncestors 46 = .ok (.aload_n 0, 1) := by decide +kernel
theorem dX8_gatherAncestors_47 : decode cX8_gatherAncestors 47 = .ok (.getfield 44, 3) := by decide +kernel
theorem dX8_gatherAncestors_50 : decode cX8_gatherAncestors 50 = .ok (.aload_n 2, 1) := by decide +kernel
theorem dX8_gatherAncestors_51 : decode cX8_gatherAncestors 51 = .ok (.getfield 48, 3) := by decide +kernel
theorem dX8_gatherAncestors_54 : decode cX8_gatherAncestors 54 = .ok (.bipush 6, 2) := by decide +kernel
theorem dX8_gatherAncestors_56 : decode cX8_gatherAncestors 56 = .ok (.ishr, 1) := by decide +kernel
theorem dX8_gatherAncestors_57 : decode cX8_gatherAncestors 57 = .ok (.dup2, 1) := by decide +kernel
theorem dX8_gatherAncestors_58 : decode cX8_gatherAncestors 58 = .ok (.laload, 1) := by decide +kernel
theorem dX8_gatherAncestors_59 : decode cX8_gatherAncestors 59 = .ok (.lconst 1, 1) := by decide +kernel
theorem dX8_gatherAncestors_60 : decode cX8_gatherAncestors 60 = .ok (.aload_n 2, 1) := by decide +kernel
theorem dX8_gatherAncestors_61 : decode cX8_gatherAncestors 61 = .ok (.getfield 48, 3) := by decide +kernel
theorem dX8_gatherAncestors_64 : decode cX8_gatherAncestors 64 = .ok (.bipush 63, 2) := by decide +kernel
theorem dX8_gatherAncestors_66 : decode cX8_gatherAncestors 66 = .ok (.iand, 1) := by decide +kernel
theorem dX8_gatherAncestors_67 : decode cX8_gatherAncestors 67 = .ok (.lshl, 1) := by decide +kernel
theorem dX8_gatherAncestors_68 : decode cX8_gatherAncestors 68 = .ok (.lor, 1) := by decide +kernel
theorem dX8_gatherAncestors_69 : decode cX8_gatherAncestors 69 = .ok (.lastore, 1) := by decide +kernel
theorem dX8_gatherAncestors_70 : decode cX8_gatherAncestors 70 = .ok (.iinc 1 1, 3) := by decide +kernel
theorem dX8_gatherAncestors_73 : decode cX8_gatherAncestors 73 = .ok (.goto (-71), 3) := by decide +kernel
theorem dX8_gatherAncestors_76 : decode cX8_gatherAncestors 76 = .ok (.return_, 1) := by decide +kernel
theorem dX8_hasTwins_0 : decode cX8_hasTwins 0 = .ok (.iconst 0, 1) := by decide +kernel
theorem dX8_hasTwins_1 : decode cX8_hasTwins 1 = .ok (.istore_n 1, 1) := by decide +kernel
theorem dX8_hasTwins_2 : decode cX8_hasTwins 2 = .ok (.iload_n 1, 1) := by decide +kernel
theorem dX8_hasTwins_3 : decode cX8_hasTwins 3 = .ok (.aload_n 0, 1) := by decide +kernel
theorem dX8_hasTwins_4 : decode cX8_hasTwins 4 = .ok (.getfield 21, 3) := by decide +kernel
