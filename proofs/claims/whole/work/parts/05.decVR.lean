theorem d_V_init_0 : decode b_V_init 0 = .ok (.aload_n 0, 1) := by decide +kernel
theorem d_V_init_1 : decode b_V_init 1 = .ok (.invokespecial 3, 3) := by decide +kernel
theorem d_V_init_4 : decode b_V_init 4 = .ok (.aload_n 0, 1) := by decide +kernel
theorem d_V_init_5 : decode b_V_init 5 = .ok (.bipush 16, 2) := by decide +kernel
theorem d_V_init_7 : decode b_V_init 7 = .ok (.newarray .int, 2) := by decide +kernel
theorem d_V_init_9 : decode b_V_init 9 = .ok (.putfield 9, 3) := by decide +kernel
theorem d_V_init_12 : decode b_V_init 12 = .ok (.return_, 1) := by decide +kernel
theorem d_V_addPosting_0 : decode b_V_addPosting 0 = .ok (.iload_n 1, 1) := by decide +kernel
theorem d_V_addPosting_1 : decode b_V_addPosting 1 = .ok (.invokestatic 15, 3) := by decide +kernel
theorem d_V_addPosting_4 : decode b_V_addPosting 4 = .ok (.ifCond .eq 13, 3) := by decide +kernel
theorem d_V_addPosting_7 : decode b_V_addPosting 7 = .ok (.aload_n 0, 1) := by decide +kernel
theorem d_V_addPosting_8 : decode b_V_addPosting 8 = .ok (.getfield 9, 3) := by decide +kernel
theorem d_V_addPosting_11 : decode b_V_addPosting 11 = .ok (.iload_n 1, 1) := by decide +kernel
theorem d_V_addPosting_12 : decode b_V_addPosting 12 = .ok (.dup2, 1) := by decide +kernel
theorem d_V_addPosting_13 : decode b_V_addPosting 13 = .ok (.iaload, 1) := by decide +kernel
theorem d_V_addPosting_14 : decode b_V_addPosting 14 = .ok (.iconst 1, 1) := by decide +kernel
theorem d_V_addPosting_15 : decode b_V_addPosting 15 = .ok (.iadd, 1) := by decide +kernel
theorem d_V_addPosting_16 : decode b_V_addPosting 16 = .ok (.iastore, 1) := by decide +kernel
theorem d_V_addPosting_17 : decode b_V_addPosting 17 = .ok (.return_, 1) := by decide +kernel
theorem d_V_takePosting_0 : decode b_V_takePosting 0 = .ok (.iload_n 1, 1) := by decide +kernel
theorem d_V_takePosting_1 : decode b_V_takePosting 1 = .ok (.invokestatic 15, 3) := by decide +kernel
theorem d_V_takePosting_4 : decode b_V_takePosting 4 = .ok (.ifCond .eq 12, 3) := by decide +kernel
theorem d_V_takePosting_7 : decode b_V_takePosting 7 = .ok (.aload_n 0, 1) := by decide +kernel
theorem d_V_takePosting_8 : decode b_V_takePosting 8 = .ok (.getfield 9, 3) := by decide +kernel
theorem d_V_takePosting_11 : decode b_V_takePosting 11 = .ok (.iload_n 1, 1) := by decide +kernel
theorem d_V_takePosting_12 : decode b_V_takePosting 12 = .ok (.iaload, 1) := by decide +kernel
theorem d_V_takePosting_13 : decode b_V_takePosting 13 = .ok (.ifCond .gt 5, 3) := by decide +kernel
theorem d_V_takePosting_16 : decode b_V_takePosting 16 = .ok (.iconst 0, 1) := by decide +kernel
theorem d_V_takePosting_17 : decode b_V_takePosting 17 = .ok (.ireturn, 1) := by decide +kernel
theorem d_V_takePosting_18 : decode b_V_takePosting 18 = .ok (.aload_n 0, 1) := by decide +kernel
theorem d_V_takePosting_19 : decode b_V_takePosting 19 = .ok (.getfield 9, 3) := by decide +kernel
theorem d_V_takePosting_22 : decode b_V_takePosting 22 = .ok (.iload_n 1, 1) := by decide +kernel
theorem d_V_takePosting_23 : decode b_V_takePosting 23 = .ok (.dup2, 1) := by decide +kernel
theorem d_V_takePosting_24 : decode b_V_takePosting 24 = .ok (.iaload, 1) := by decide +kernel
theorem d_V_takePosting_25 : decode b_V_takePosting 25 = .ok (.iconst 1, 1) := by decide +kernel
theorem d_V_takePosting_26 : decode b_V_takePosting 26 = .ok (.isub, 1) := by decide +kernel
theorem d_V_takePosting_27 : decode b_V_takePosting 27 = .ok (.iastore, 1) := by decide +kernel
theorem d_V_takePosting_28 : decode b_V_takePosting 28 = .ok (.iconst 1, 1) := by decide +kernel
theorem d_V_takePosting_29 : decode b_V_takePosting 29 = .ok (.ireturn, 1) := by decide +kernel
theorem d_V_untaken_0 : decode b_V_untaken 0 = .ok (.iload_n 1, 1) := by decide +kernel
theorem d_V_untaken_1 : decode b_V_untaken 1 = .ok (.invokestatic 15, 3) := by decide +kernel
theorem d_V_untaken_4 : decode b_V_untaken 4 = .ok (.ifCond .eq 12, 3) := by decide +kernel
theorem d_V_untaken_7 : decode b_V_untaken 7 = .ok (.aload_n 0, 1) := by decide +kernel
theorem d_V_untaken_8 : decode b_V_untaken 8 = .ok (.getfield 9, 3) := by decide +kernel
theorem d_V_untaken_11 : decode b_V_untaken 11 = .ok (.iload_n 1, 1) := by decide +kernel
theorem d_V_untaken_12 : decode b_V_untaken 12 = .ok (.iaload, 1) := by decide +kernel
theorem d_V_untaken_13 : decode b_V_untaken 13 = .ok (.goto 4, 3) := by decide +kernel
theorem d_V_untaken_16 : decode b_V_untaken 16 = .ok (.iconst 0, 1) := by decide +kernel
theorem d_V_untaken_17 : decode b_V_untaken 17 = .ok (.ireturn, 1) := by decide +kernel
theorem d_R_init_0 : decode b_R_init 0 = .ok (.aload_n 0, 1) := by decide +kernel
theorem d_R_init_1 : decode b_R_init 1 = .ok (.invokespecial 3, 3) := by decide +kernel
theorem d_R_init_4 : decode b_R_init 4 = .ok (.aload_n 0, 1) := by decide +kernel
theorem d_R_init_5 : decode b_R_init 5 = .ok (.iconst 0, 1) := by decide +kernel
theorem d_R_init_6 : decode b_R_init 6 = .ok (.putfield 9, 3) := by decide +kernel
theorem d_R_init_9 : decode b_R_init 9 = .ok (.aload_n 0, 1) := by decide +kernel
theorem d_R_init_10 : decode b_R_init 10 = .ok (.bipush 20, 2) := by decide +kernel
theorem d_R_init_12 : decode b_R_init 12 = .ok (.newarray .int, 2) := by decide +kernel
theorem d_R_init_14 : decode b_R_init 14 = .ok (.putfield 15, 3) := by decide +kernel
theorem d_R_init_17 : decode b_R_init 17 = .ok (.aload_n 0, 1) := by decide +kernel
theorem d_R_init_18 : decode b_R_init 18 = .ok (.bipush 20, 2) := by decide +kernel
theorem d_R_init_20 : decode b_R_init 20 = .ok (.newarray .int, 2) := by decide +kernel
theorem d_R_init_22 : decode b_R_init 22 = .ok (.putfield 19, 3) := by decide +kernel
theorem d_R_init_25 : decode b_R_init 25 = .ok (.aload_n 0, 1) := by decide +kernel
theorem d_R_init_26 : decode b_R_init 26 = .ok (.bipush 20, 2) := by decide +kernel
theorem d_R_init_28 : decode b_R_init 28 = .ok (.newarray .boolean, 2) := by decide +kernel
theorem d_R_init_30 : decode b_R_init 30 = .ok (.putfield 22, 3) := by decide +kernel
theorem d_R_init_33 : decode b_R_init 33 = .ok (.aload_n 0, 1) := by decide +kernel
theorem d_R_init_34 : decode b_R_init 34 = .ok (.bipush 101, 2) := by decide +kernel
theorem d_R_init_36 : decode b_R_init 36 = .ok (.newarray .int, 2) := by decide +kernel
theorem d_R_init_38 : decode b_R_init 38 = .ok (.putfield 26, 3) := by decide +kernel
theorem d_R_init_41 : decode b_R_init 41 = .ok (.aload_n 0, 1) := by decide +kernel
theorem d_R_init_42 : decode b_R_init 42 = .ok (.iload_n 1, 1) := by decide +kernel
theorem d_R_init_43 : decode b_R_init 43 = .ok (.putfield 29, 3) := by decide +kernel
theorem d_R_init_46 : decode b_R_init 46 = .ok (.aload_n 0, 1) := by decide +kernel
theorem d_R_init_47 : decode b_R_init 47 = .ok (.iload_n 2, 1) := by decide +kernel
theorem d_R_init_48 : decode b_R_init 48 = .ok (.putfield 32, 3) := by decide +kernel
theorem d_R_init_51 : decode b_R_init 51 = .ok (.return_, 1) := by decide +kernel
theorem d_R_goesOn_0 : decode b_R_goesOn 0 = .ok (.aload_n 0, 1) := by decide +kernel
theorem d_R_goesOn_1 : decode b_R_goesOn 1 = .ok (.getfield 9, 3) := by decide +kernel
theorem d_R_goesOn_4 : decode b_R_goesOn 4 = .ok (.ifCond .ne 7, 3) := by decide +kernel
theorem d_R_goesOn_7 : decode b_R_goesOn 7 = .ok (.iconst 1, 1) := by decide +kernel
theorem d_R_goesOn_8 : decode b_R_goesOn 8 = .ok (.goto 4, 3) := by decide +kernel
theorem d_R_goesOn_11 : decode b_R_goesOn 11 = .ok (.iconst 0, 1) := by decide +kernel
theorem d_R_goesOn_12 : decode b_R_goesOn 12 = .ok (.ireturn, 1) := by decide +kernel
theorem d_R_isAheadOf_0 : decode b_R_isAheadOf 0 = .ok (.aload_n 0, 1) := by decide +kernel
theorem d_R_isAheadOf_1 : decode b_R_isAheadOf 1 = .ok (.invokevirtual 35, 3) := by decide +kernel
theorem d_R_isAheadOf_4 : decode b_R_isAheadOf 4 = .ok (.ifCond .eq 15, 3) := by decide +kernel
theorem d_R_isAheadOf_7 : decode b_R_isAheadOf 7 = .ok (.iload_n 1, 1) := by decide +kernel
theorem d_R_isAheadOf_8 : decode b_R_isAheadOf 8 = .ok (.aload_n 0, 1) := by decide +kernel
theorem d_R_isAheadOf_9 : decode b_R_isAheadOf 9 = .ok (.getfield 39, 3) := by decide +kernel
theorem d_R_isAheadOf_12 : decode b_R_isAheadOf 12 = .ok (.if_icmp .le 7, 3) := by decide +kernel
theorem d_R_isAheadOf_15 : decode b_R_isAheadOf 15 = .ok (.iconst 1, 1) := by decide +kernel
theorem d_R_isAheadOf_16 : decode b_R_isAheadOf 16 = .ok (.goto 4, 3) := by decide +kernel
theorem d_R_isAheadOf_19 : decode b_R_isAheadOf 19 = .ok (.iconst 0, 1) := by decide +kernel
theorem d_R_isAheadOf_20 : decode b_R_isAheadOf 20 = .ok (.ireturn, 1) := by decide +kernel
theorem d_R_isInsideDecision_0 : decode b_R_isInsideDecision 0 = .ok (.aload_n 0, 1) := by decide +kernel
theorem d_R_isInsideDecision_1 : decode b_R_isInsideDecision 1 = .ok (.aload_n 0, 1) := by decide +kernel
theorem d_R_isInsideDecision_2 : decode b_R_isInsideDecision 2 = .ok (.getfield 39, 3) := by decide +kernel
theorem d_R_isInsideDecision_5 : decode b_R_isInsideDecision 5 = .ok (.invokevirtual 42, 3) := by decide +kernel
theorem d_R_isInsideDecision_8 : decode b_R_isInsideDecision 8 = .ok (.iconst 1, 1) := by decide +kernel
theorem d_R_isInsideDecision_9 : decode b_R_isInsideDecision 9 = .ok (.if_icmp .ne 7, 3) := by decide +kernel
theorem d_R_isInsideDecision_12 : decode b_R_isInsideDecision 12 = .ok (.iconst 1, 1) := by decide +kernel
theorem d_R_isInsideDecision_13 : decode b_R_isInsideDecision 13 = .ok (.goto 4, 3) := by decide +kernel
theorem d_R_isInsideDecision_16 : decode b_R_isInsideDecision 16 = .ok (.iconst 0, 1) := by decide +kernel
theorem d_R_isInsideDecision_17 : decode b_R_isInsideDecision 17 = .ok (.ireturn, 1) := by decide +kernel
theorem d_R_openSteps_0 : decode b_R_openSteps 0 = .ok (.aload_n 0, 1) := by decide +kernel
theorem d_R_openSteps_1 : decode b_R_openSteps 1 = .ok (.getfield 39, 3) := by decide +kernel
theorem d_R_openSteps_4 : decode b_R_openSteps 4 = .ok (.aload_n 0, 1) := by decide +kernel
theorem d_R_openSteps_5 : decode b_R_openSteps 5 = .ok (.getfield 46, 3) := by decide +kernel
theorem d_R_openSteps_8 : decode b_R_openSteps 8 = .ok (.isub, 1) := by decide +kernel
theorem d_R_openSteps_9 : decode b_R_openSteps 9 = .ok (.ireturn, 1) := by decide +kernel
theorem d_R_addWait_0 : decode b_R_addWait 0 = .ok (.aload_n 0, 1) := by decide +kernel
theorem d_R_addWait_1 : decode b_R_addWait 1 = .ok (.getfield 49, 3) := by decide +kernel
theorem d_R_addWait_4 : decode b_R_addWait 4 = .ok (.bipush 20, 2) := by decide +kernel
theorem d_R_addWait_6 : decode b_R_addWait 6 = .ok (.if_icmp .lt 5, 3) := by decide +kernel
theorem d_R_addWait_9 : decode b_R_addWait 9 = .ok (.iconst 0, 1) := by decide +kernel
theorem d_R_addWait_10 : decode b_R_addWait 10 = .ok (.ireturn, 1) := by decide +kernel
theorem d_R_addWait_11 : decode b_R_addWait 11 = .ok (.aload_n 0, 1) := by decide +kernel
theorem d_R_addWait_12 : decode b_R_addWait 12 = .ok (.getfield 15, 3) := by decide +kernel
theorem d_R_addWait_15 : decode b_R_addWait 15 = .ok (.aload_n 0, 1) := by decide +kernel
theorem d_R_addWait_16 : decode b_R_addWait 16 = .ok (.getfield 49, 3) := by decide +kernel
theorem d_R_addWait_19 : decode b_R_addWait 19 = .ok (.iload_n 1, 1) := by decide +kernel
theorem d_R_addWait_20 : decode b_R_addWait 20 = .ok (.iastore, 1) := by decide +kernel
theorem d_R_addWait_21 : decode b_R_addWait 21 = .ok (.aload_n 0, 1) := by decide +kernel
theorem d_R_addWait_22 : decode b_R_addWait 22 = .ok (.getfield 19, 3) := by decide +kernel
theorem d_R_addWait_25 : decode b_R_addWait 25 = .ok (.aload_n 0, 1) := by decide +kernel
theorem d_R_addWait_26 : decode b_R_addWait 26 = .ok (.getfield 49, 3) := by decide +kernel
theorem d_R_addWait_29 : decode b_R_addWait 29 = .ok (.iload_n 2, 1) := by decide +kernel
theorem d_R_addWait_30 : decode b_R_addWait 30 = .ok (.iastore, 1) := by decide +kernel
theorem d_R_addWait_31 : decode b_R_addWait 31 = .ok (.aload_n 0, 1) := by decide +kernel
theorem d_R_addWait_32 : decode b_R_addWait 32 = .ok (.dup, 1) := by decide +kernel
theorem d_R_addWait_33 : decode b_R_addWait 33 = .ok (.getfield 49, 3) := by decide +kernel
theorem d_R_addWait_36 : decode b_R_addWait 36 = .ok (.iconst 1, 1) := by decide +kernel
theorem d_R_addWait_37 : decode b_R_addWait 37 = .ok (.iadd, 1) := by decide +kernel
theorem d_R_addWait_38 : decode b_R_addWait 38 = .ok (.putfield 49, 3) := by decide +kernel
theorem d_R_addWait_41 : decode b_R_addWait 41 = .ok (.iconst 1, 1) := by decide +kernel
theorem d_R_addWait_42 : decode b_R_addWait 42 = .ok (.ireturn, 1) := by decide +kernel
theorem d_R_addDecision_0 : decode b_R_addDecision 0 = .ok (.iload_n 1, 1) := by decide +kernel
theorem d_R_addDecision_1 : decode b_R_addDecision 1 = .ok (.iconst 1, 1) := by decide +kernel
theorem d_R_addDecision_2 : decode b_R_addDecision 2 = .ok (.if_icmp .lt 27, 3) := by decide +kernel
theorem d_R_addDecision_5 : decode b_R_addDecision 5 = .ok (.iload_n 1, 1) := by decide +kernel
theorem d_R_addDecision_6 : decode b_R_addDecision 6 = .ok (.bipush 100, 2) := by decide +kernel
theorem d_R_addDecision_8 : decode b_R_addDecision 8 = .ok (.if_icmp .ge 21, 3) := by decide +kernel
theorem d_R_addDecision_11 : decode b_R_addDecision 11 = .ok (.aload_n 0, 1) := by decide +kernel
theorem d_R_addDecision_12 : decode b_R_addDecision 12 = .ok (.iload_n 1, 1) := by decide +kernel
theorem d_R_addDecision_13 : decode b_R_addDecision 13 = .ok (.invokevirtual 42, 3) := by decide +kernel
theorem d_R_addDecision_16 : decode b_R_addDecision 16 = .ok (.ifCond .ne 13, 3) := by decide +kernel
theorem d_R_addDecision_19 : decode b_R_addDecision 19 = .ok (.aload_n 0, 1) := by decide +kernel
theorem d_R_addDecision_20 : decode b_R_addDecision 20 = .ok (.iload_n 1, 1) := by decide +kernel
theorem d_R_addDecision_21 : decode b_R_addDecision 21 = .ok (.iconst 1, 1) := by decide +kernel
theorem d_R_addDecision_22 : decode b_R_addDecision 22 = .ok (.iadd, 1) := by decide +kernel
theorem d_R_addDecision_23 : decode b_R_addDecision 23 = .ok (.invokevirtual 42, 3) := by decide +kernel
theorem d_R_addDecision_26 : decode b_R_addDecision 26 = .ok (.ifCond .eq 5, 3) := by decide +kernel
theorem d_R_addDecision_29 : decode b_R_addDecision 29 = .ok (.iconst 0, 1) := by decide +kernel
theorem d_R_addDecision_30 : decode b_R_addDecision 30 = .ok (.ireturn, 1) := by decide +kernel
theorem d_R_addDecision_31 : decode b_R_addDecision 31 = .ok (.aload_n 0, 1) := by decide +kernel
theorem d_R_addDecision_32 : decode b_R_addDecision 32 = .ok (.getfield 26, 3) := by decide +kernel
theorem d_R_addDecision_35 : decode b_R_addDecision 35 = .ok (.iload_n 1, 1) := by decide +kernel
theorem d_R_addDecision_36 : decode b_R_addDecision 36 = .ok (.iconst 1, 1) := by decide +kernel
theorem d_R_addDecision_37 : decode b_R_addDecision 37 = .ok (.iastore, 1) := by decide +kernel
theorem d_R_addDecision_38 : decode b_R_addDecision 38 = .ok (.aload_n 0, 1) := by decide +kernel
theorem d_R_addDecision_39 : decode b_R_addDecision 39 = .ok (.getfield 26, 3) := by decide +kernel
theorem d_R_addDecision_42 : decode b_R_addDecision 42 = .ok (.iload_n 1, 1) := by decide +kernel
theorem d_R_addDecision_43 : decode b_R_addDecision 43 = .ok (.iconst 1, 1) := by decide +kernel
theorem d_R_addDecision_44 : decode b_R_addDecision 44 = .ok (.iadd, 1) := by decide +kernel
theorem d_R_addDecision_45 : decode b_R_addDecision 45 = .ok (.iconst 2, 1) := by decide +kernel
theorem d_R_addDecision_46 : decode b_R_addDecision 46 = .ok (.iastore, 1) := by decide +kernel
theorem d_R_addDecision_47 : decode b_R_addDecision 47 = .ok (.iconst 1, 1) := by decide +kernel
theorem d_R_addDecision_48 : decode b_R_addDecision 48 = .ok (.ireturn, 1) := by decide +kernel
theorem d_R_takeTurn_0 : decode b_R_takeTurn 0 = .ok (.aload_n 0, 1) := by decide +kernel
theorem d_R_takeTurn_1 : decode b_R_takeTurn 1 = .ok (.invokevirtual 35, 3) := by decide +kernel
theorem d_R_takeTurn_4 : decode b_R_takeTurn 4 = .ok (.ifCond .ne 5, 3) := by decide +kernel
theorem d_R_takeTurn_7 : decode b_R_takeTurn 7 = .ok (.iconst 0, 1) := by decide +kernel
theorem d_R_takeTurn_8 : decode b_R_takeTurn 8 = .ok (.ireturn, 1) := by decide +kernel
theorem d_R_takeTurn_9 : decode b_R_takeTurn 9 = .ok (.aload_n 0, 1) := by decide +kernel
theorem d_R_takeTurn_10 : decode b_R_takeTurn 10 = .ok (.getfield 52, 3) := by decide +kernel
theorem d_R_takeTurn_13 : decode b_R_takeTurn 13 = .ok (.ifCond .eq 17, 3) := by decide +kernel
theorem d_R_takeTurn_16 : decode b_R_takeTurn 16 = .ok (.aload_n 0, 1) := by decide +kernel
theorem d_R_takeTurn_17 : decode b_R_takeTurn 17 = .ok (.invokevirtual 56, 3) := by decide +kernel
theorem d_R_takeTurn_20 : decode b_R_takeTurn 20 = .ok (.ifCond .ne 10, 3) := by decide +kernel
theorem d_R_takeTurn_23 : decode b_R_takeTurn 23 = .ok (.aload_n 0, 1) := by decide +kernel
theorem d_R_takeTurn_24 : decode b_R_takeTurn 24 = .ok (.iconst 3, 1) := by decide +kernel
theorem d_R_takeTurn_25 : decode b_R_takeTurn 25 = .ok (.invokevirtual 59, 3) := by decide +kernel
theorem d_R_takeTurn_28 : decode b_R_takeTurn 28 = .ok (.iconst 2, 1) := by decide +kernel
theorem d_R_takeTurn_29 : decode b_R_takeTurn 29 = .ok (.ireturn, 1) := by decide +kernel
theorem d_R_takeTurn_30 : decode b_R_takeTurn 30 = .ok (.aload_n 0, 1) := by decide +kernel
theorem d_R_takeTurn_31 : decode b_R_takeTurn 31 = .ok (.getfield 39, 3) := by decide +kernel
theorem d_R_takeTurn_34 : decode b_R_takeTurn 34 = .ok (.iconst 1, 1) := by decide +kernel
theorem d_R_takeTurn_35 : decode b_R_takeTurn 35 = .ok (.iadd, 1) := by decide +kernel
theorem d_R_takeTurn_36 : decode b_R_takeTurn 36 = .ok (.istore_n 2, 1) := by decide +kernel
theorem d_R_takeTurn_37 : decode b_R_takeTurn 37 = .ok (.aload_n 0, 1) := by decide +kernel
theorem d_R_takeTurn_38 : decode b_R_takeTurn 38 = .ok (.iload_n 2, 1) := by decide +kernel
theorem d_R_takeTurn_39 : decode b_R_takeTurn 39 = .ok (.aload_n 1, 1) := by decide +kernel
theorem d_R_takeTurn_40 : decode b_R_takeTurn 40 = .ok (.invokevirtual 63, 3) := by decide +kernel
theorem d_R_takeTurn_43 : decode b_R_takeTurn 43 = .ok (.ifCond .ne 5, 3) := by decide +kernel
theorem d_R_takeTurn_46 : decode b_R_takeTurn 46 = .ok (.iconst 0, 1) := by decide +kernel
theorem d_R_takeTurn_47 : decode b_R_takeTurn 47 = .ok (.ireturn, 1) := by decide +kernel
theorem d_R_takeTurn_48 : decode b_R_takeTurn 48 = .ok (.iload_n 2, 1) := by decide +kernel
theorem d_R_takeTurn_49 : decode b_R_takeTurn 49 = .ok (.aload_n 0, 1) := by decide +kernel
theorem d_R_takeTurn_50 : decode b_R_takeTurn 50 = .ok (.getfield 32, 3) := by decide +kernel
theorem d_R_takeTurn_53 : decode b_R_takeTurn 53 = .ok (.if_icmp .ne 10, 3) := by decide +kernel
theorem d_R_takeTurn_56 : decode b_R_takeTurn 56 = .ok (.aload_n 0, 1) := by decide +kernel
theorem d_R_takeTurn_57 : decode b_R_takeTurn 57 = .ok (.iconst 2, 1) := by decide +kernel
theorem d_R_takeTurn_58 : decode b_R_takeTurn 58 = .ok (.invokevirtual 59, 3) := by decide +kernel
theorem d_R_takeTurn_61 : decode b_R_takeTurn 61 = .ok (.iconst 2, 1) := by decide +kernel
theorem d_R_takeTurn_62 : decode b_R_takeTurn 62 = .ok (.ireturn, 1) := by decide +kernel
theorem d_R_takeTurn_63 : decode b_R_takeTurn 63 = .ok (.aload_n 0, 1) := by decide +kernel
theorem d_R_takeTurn_64 : decode b_R_takeTurn 64 = .ok (.iload_n 2, 1) := by decide +kernel
theorem d_R_takeTurn_65 : decode b_R_takeTurn 65 = .ok (.invokevirtual 67, 3) := by decide +kernel
theorem d_R_takeTurn_68 : decode b_R_takeTurn 68 = .ok (.iconst 1, 1) := by decide +kernel
theorem d_R_takeTurn_69 : decode b_R_takeTurn 69 = .ok (.ireturn, 1) := by decide +kernel
theorem d_R_backOut_0 : decode b_R_backOut 0 = .ok (.aload_n 0, 1) := by decide +kernel
theorem d_R_backOut_1 : decode b_R_backOut 1 = .ok (.aload_n 0, 1) := by decide +kernel
theorem d_R_backOut_2 : decode b_R_backOut 2 = .ok (.invokevirtual 70, 3) := by decide +kernel
theorem d_R_backOut_5 : decode b_R_backOut 5 = .ok (.putfield 74, 3) := by decide +kernel
theorem d_R_backOut_8 : decode b_R_backOut 8 = .ok (.aload_n 0, 1) := by decide +kernel
theorem d_R_backOut_9 : decode b_R_backOut 9 = .ok (.iload_n 1, 1) := by decide +kernel
theorem d_R_backOut_10 : decode b_R_backOut 10 = .ok (.invokevirtual 77, 3) := by decide +kernel
theorem d_R_backOut_13 : decode b_R_backOut 13 = .ok (.return_, 1) := by decide +kernel
theorem d_R_doStep_0 : decode b_R_doStep 0 = .ok (.aload_n 0, 1) := by decide +kernel
theorem d_R_doStep_1 : decode b_R_doStep 1 = .ok (.iload_n 1, 1) := by decide +kernel
theorem d_R_doStep_2 : decode b_R_doStep 2 = .ok (.putfield 39, 3) := by decide +kernel
theorem d_R_doStep_5 : decode b_R_doStep 5 = .ok (.aload_n 0, 1) := by decide +kernel
theorem d_R_doStep_6 : decode b_R_doStep 6 = .ok (.iload_n 1, 1) := by decide +kernel
theorem d_R_doStep_7 : decode b_R_doStep 7 = .ok (.invokevirtual 42, 3) := by decide +kernel
theorem d_R_doStep_10 : decode b_R_doStep 10 = .ok (.iconst 2, 1) := by decide +kernel
theorem d_R_doStep_11 : decode b_R_doStep 11 = .ok (.if_icmp .ne 8, 3) := by decide +kernel
theorem d_R_doStep_14 : decode b_R_doStep 14 = .ok (.aload_n 0, 1) := by decide +kernel
theorem d_R_doStep_15 : decode b_R_doStep 15 = .ok (.iload_n 1, 1) := by decide +kernel
theorem d_R_doStep_16 : decode b_R_doStep 16 = .ok (.putfield 46, 3) := by decide +kernel
theorem d_R_doStep_19 : decode b_R_doStep 19 = .ok (.iload_n 1, 1) := by decide +kernel
theorem d_R_doStep_20 : decode b_R_doStep 20 = .ok (.aload_n 0, 1) := by decide +kernel
theorem d_R_doStep_21 : decode b_R_doStep 21 = .ok (.getfield 29, 3) := by decide +kernel
theorem d_R_doStep_24 : decode b_R_doStep 24 = .ok (.if_icmp .lt 8, 3) := by decide +kernel
theorem d_R_doStep_27 : decode b_R_doStep 27 = .ok (.aload_n 0, 1) := by decide +kernel
theorem d_R_doStep_28 : decode b_R_doStep 28 = .ok (.iconst 1, 1) := by decide +kernel
theorem d_R_doStep_29 : decode b_R_doStep 29 = .ok (.invokevirtual 77, 3) := by decide +kernel
theorem d_R_doStep_32 : decode b_R_doStep 32 = .ok (.return_, 1) := by decide +kernel
theorem d_R_endAs_0 : decode b_R_endAs 0 = .ok (.aload_n 0, 1) := by decide +kernel
theorem d_R_endAs_1 : decode b_R_endAs 1 = .ok (.iload_n 1, 1) := by decide +kernel
theorem d_R_endAs_2 : decode b_R_endAs 2 = .ok (.putfield 9, 3) := by decide +kernel
theorem d_R_endAs_5 : decode b_R_endAs 5 = .ok (.aload_n 0, 1) := by decide +kernel
theorem d_R_endAs_6 : decode b_R_endAs 6 = .ok (.dup, 1) := by decide +kernel
theorem d_R_endAs_7 : decode b_R_endAs 7 = .ok (.getfield 80, 3) := by decide +kernel
theorem d_R_endAs_10 : decode b_R_endAs 10 = .ok (.iconst 1, 1) := by decide +kernel
theorem d_R_endAs_11 : decode b_R_endAs 11 = .ok (.iadd, 1) := by decide +kernel
theorem d_R_endAs_12 : decode b_R_endAs 12 = .ok (.putfield 80, 3) := by decide +kernel
theorem d_R_endAs_15 : decode b_R_endAs 15 = .ok (.return_, 1) := by decide +kernel
theorem d_R_takeWaitsAt_0 : decode b_R_takeWaitsAt 0 = .ok (.iconst 0, 1) := by decide +kernel
theorem d_R_takeWaitsAt_1 : decode b_R_takeWaitsAt 1 = .ok (.istore_n 3, 1) := by decide +kernel
theorem d_R_takeWaitsAt_2 : decode b_R_takeWaitsAt 2 = .ok (.iload_n 3, 1) := by decide +kernel
theorem d_R_takeWaitsAt_3 : decode b_R_takeWaitsAt 3 = .ok (.aload_n 0, 1) := by decide +kernel
theorem d_R_takeWaitsAt_4 : decode b_R_takeWaitsAt 4 = .ok (.getfield 49, 3) := by decide +kernel
theorem d_R_takeWaitsAt_7 : decode b_R_takeWaitsAt 7 = .ok (.if_icmp .ge 56, 3) := by decide +kernel
theorem d_R_takeWaitsAt_10 : decode b_R_takeWaitsAt 10 = .ok (.iload_n 3, 1) := by decide +kernel
theorem d_R_takeWaitsAt_11 : decode b_R_takeWaitsAt 11 = .ok (.bipush 20, 2) := by decide +kernel
theorem d_R_takeWaitsAt_13 : decode b_R_takeWaitsAt 13 = .ok (.if_icmp .ge 50, 3) := by decide +kernel
theorem d_R_takeWaitsAt_16 : decode b_R_takeWaitsAt 16 = .ok (.aload_n 0, 1) := by decide +kernel
theorem d_R_takeWaitsAt_17 : decode b_R_takeWaitsAt 17 = .ok (.getfield 15, 3) := by decide +kernel
theorem d_R_takeWaitsAt_20 : decode b_R_takeWaitsAt 20 = .ok (.iload_n 3, 1) := by decide +kernel
theorem d_R_takeWaitsAt_21 : decode b_R_takeWaitsAt 21 = .ok (.iaload, 1) := by decide +kernel
theorem d_R_takeWaitsAt_22 : decode b_R_takeWaitsAt 22 = .ok (.iload_n 1, 1) := by decide +kernel
theorem d_R_takeWaitsAt_23 : decode b_R_takeWaitsAt 23 = .ok (.if_icmp .ne 34, 3) := by decide +kernel
theorem d_R_takeWaitsAt_26 : decode b_R_takeWaitsAt 26 = .ok (.aload_n 0, 1) := by decide +kernel
theorem d_R_takeWaitsAt_27 : decode b_R_takeWaitsAt 27 = .ok (.getfield 22, 3) := by decide +kernel
theorem d_R_takeWaitsAt_30 : decode b_R_takeWaitsAt 30 = .ok (.iload_n 3, 1) := by decide +kernel
theorem d_R_takeWaitsAt_31 : decode b_R_takeWaitsAt 31 = .ok (.baload, 1) := by decide +kernel
theorem d_R_takeWaitsAt_32 : decode b_R_takeWaitsAt 32 = .ok (.ifCond .ne 25, 3) := by decide +kernel
theorem d_R_takeWaitsAt_35 : decode b_R_takeWaitsAt 35 = .ok (.aload_n 2, 1) := by decide +kernel
theorem d_R_takeWaitsAt_36 : decode b_R_takeWaitsAt 36 = .ok (.aload_n 0, 1) := by decide +kernel
theorem d_R_takeWaitsAt_37 : decode b_R_takeWaitsAt 37 = .ok (.getfield 19, 3) := by decide +kernel
theorem d_R_takeWaitsAt_40 : decode b_R_takeWaitsAt 40 = .ok (.iload_n 3, 1) := by decide +kernel
theorem d_R_takeWaitsAt_41 : decode b_R_takeWaitsAt 41 = .ok (.iaload, 1) := by decide +kernel
theorem d_R_takeWaitsAt_42 : decode b_R_takeWaitsAt 42 = .ok (.invokevirtual 83, 3) := by decide +kernel
theorem d_R_takeWaitsAt_45 : decode b_R_takeWaitsAt 45 = .ok (.ifCond .ne 5, 3) := by decide +kernel
theorem d_R_takeWaitsAt_48 : decode b_R_takeWaitsAt 48 = .ok (.iconst 0, 1) := by decide +kernel
theorem d_R_takeWaitsAt_49 : decode b_R_takeWaitsAt 49 = .ok (.ireturn, 1) := by decide +kernel
theorem d_R_takeWaitsAt_50 : decode b_R_takeWaitsAt 50 = .ok (.aload_n 0, 1) := by decide +kernel
theorem d_R_takeWaitsAt_51 : decode b_R_takeWaitsAt 51 = .ok (.getfield 22, 3) := by decide +kernel
theorem d_R_takeWaitsAt_54 : decode b_R_takeWaitsAt 54 = .ok (.iload_n 3, 1) := by decide +kernel
theorem d_R_takeWaitsAt_55 : decode b_R_takeWaitsAt 55 = .ok (.iconst 1, 1) := by decide +kernel
theorem d_R_takeWaitsAt_56 : decode b_R_takeWaitsAt 56 = .ok (.bastore, 1) := by decide +kernel
theorem d_R_takeWaitsAt_57 : decode b_R_takeWaitsAt 57 = .ok (.iinc 3 1, 3) := by decide +kernel
theorem d_R_takeWaitsAt_60 : decode b_R_takeWaitsAt 60 = .ok (.goto (-58), 3) := by decide +kernel
theorem d_R_takeWaitsAt_63 : decode b_R_takeWaitsAt 63 = .ok (.iconst 1, 1) := by decide +kernel
theorem d_R_takeWaitsAt_64 : decode b_R_takeWaitsAt 64 = .ok (.ireturn, 1) := by decide +kernel
theorem d_R_halfOf_0 : decode b_R_halfOf 0 = .ok (.iload_n 1, 1) := by decide +kernel
theorem d_R_halfOf_1 : decode b_R_halfOf 1 = .ok (.ifCond .lt 9, 3) := by decide +kernel
theorem d_R_halfOf_4 : decode b_R_halfOf 4 = .ok (.iload_n 1, 1) := by decide +kernel
theorem d_R_halfOf_5 : decode b_R_halfOf 5 = .ok (.bipush 100, 2) := by decide +kernel
theorem d_R_halfOf_7 : decode b_R_halfOf 7 = .ok (.if_icmp .le 7, 3) := by decide +kernel
theorem d_R_halfOf_10 : decode b_R_halfOf 10 = .ok (.iconst 0, 1) := by decide +kernel
theorem d_R_halfOf_11 : decode b_R_halfOf 11 = .ok (.goto 9, 3) := by decide +kernel
theorem d_R_halfOf_14 : decode b_R_halfOf 14 = .ok (.aload_n 0, 1) := by decide +kernel
theorem d_R_halfOf_15 : decode b_R_halfOf 15 = .ok (.getfield 26, 3) := by decide +kernel
theorem d_R_halfOf_18 : decode b_R_halfOf 18 = .ok (.iload_n 1, 1) := by decide +kernel
theorem d_R_halfOf_19 : decode b_R_halfOf 19 = .ok (.iaload, 1) := by decide +kernel
theorem d_R_halfOf_20 : decode b_R_halfOf 20 = .ok (.ireturn, 1) := by decide +kernel
