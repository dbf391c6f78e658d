theorem d_X_init_0 : decode b_X_init 0 = .ok (.aload_n 0, 1) := by decide +kernel
theorem d_X_init_1 : decode b_X_init 1 = .ok (.invokespecial 3, 3) := by decide +kernel
theorem d_X_init_4 : decode b_X_init 4 = .ok (.aload_n 0, 1) := by decide +kernel
theorem d_X_init_5 : decode b_X_init 5 = .ok (.bipush 30, 2) := by decide +kernel
theorem d_X_init_7 : decode b_X_init 7 = .ok (.anewarray 9, 3) := by decide +kernel
theorem d_X_init_10 : decode b_X_init 10 = .ok (.putfield 11, 3) := by decide +kernel
theorem d_X_init_13 : decode b_X_init 13 = .ok (.aload_n 0, 1) := by decide +kernel
theorem d_X_init_14 : decode b_X_init 14 = .ok (.new 15, 3) := by decide +kernel
theorem d_X_init_17 : decode b_X_init 17 = .ok (.dup, 1) := by decide +kernel
theorem d_X_init_18 : decode b_X_init 18 = .ok (.invokespecial 17, 3) := by decide +kernel
theorem d_X_init_21 : decode b_X_init 21 = .ok (.putfield 18, 3) := by decide +kernel
theorem d_X_init_24 : decode b_X_init 24 = .ok (.aload_n 0, 1) := by decide +kernel
theorem d_X_init_25 : decode b_X_init 25 = .ok (.new 22, 3) := by decide +kernel
theorem d_X_init_28 : decode b_X_init 28 = .ok (.dup, 1) := by decide +kernel
theorem d_X_init_29 : decode b_X_init 29 = .ok (.sipush 600, 3) := by decide +kernel
theorem d_X_init_32 : decode b_X_init 32 = .ok (.invokespecial 24, 3) := by decide +kernel
theorem d_X_init_35 : decode b_X_init 35 = .ok (.putfield 27, 3) := by decide +kernel
theorem d_X_init_38 : decode b_X_init 38 = .ok (.aload_n 0, 1) := by decide +kernel
theorem d_X_init_39 : decode b_X_init 39 = .ok (.new 22, 3) := by decide +kernel
theorem d_X_init_42 : decode b_X_init 42 = .ok (.dup, 1) := by decide +kernel
theorem d_X_init_43 : decode b_X_init 43 = .ok (.sipush 3000, 3) := by decide +kernel
theorem d_X_init_46 : decode b_X_init 46 = .ok (.invokespecial 24, 3) := by decide +kernel
theorem d_X_init_49 : decode b_X_init 49 = .ok (.putfield 31, 3) := by decide +kernel
theorem d_X_init_52 : decode b_X_init 52 = .ok (.return_, 1) := by decide +kernel
theorem d_X_region_0 : decode b_X_region 0 = .ok (.iload_n 1, 1) := by decide +kernel
theorem d_X_region_1 : decode b_X_region 1 = .ok (.iconst 1, 1) := by decide +kernel
theorem d_X_region_2 : decode b_X_region 2 = .ok (.if_icmp .lt 19, 3) := by decide +kernel
theorem d_X_region_5 : decode b_X_region 5 = .ok (.iload_n 1, 1) := by decide +kernel
theorem d_X_region_6 : decode b_X_region 6 = .ok (.bipush 100, 2) := by decide +kernel
theorem d_X_region_8 : decode b_X_region 8 = .ok (.if_icmp .gt 13, 3) := by decide +kernel
theorem d_X_region_11 : decode b_X_region 11 = .ok (.iload_n 2, 1) := by decide +kernel
theorem d_X_region_12 : decode b_X_region 12 = .ok (.ifCond .lt 9, 3) := by decide +kernel
theorem d_X_region_15 : decode b_X_region 15 = .ok (.iload_n 2, 1) := by decide +kernel
theorem d_X_region_16 : decode b_X_region 16 = .ok (.bipush 100, 2) := by decide +kernel
theorem d_X_region_18 : decode b_X_region 18 = .ok (.if_icmp .le 6, 3) := by decide +kernel
theorem d_X_region_21 : decode b_X_region 21 = .ok (.bipush (-4), 2) := by decide +kernel
theorem d_X_region_23 : decode b_X_region 23 = .ok (.ireturn, 1) := by decide +kernel
theorem d_X_region_24 : decode b_X_region 24 = .ok (.aload_n 0, 1) := by decide +kernel
theorem d_X_region_25 : decode b_X_region 25 = .ok (.getfield 34, 3) := by decide +kernel
theorem d_X_region_28 : decode b_X_region 28 = .ok (.ifCond .eq 6, 3) := by decide +kernel
theorem d_X_region_31 : decode b_X_region 31 = .ok (.bipush (-5), 2) := by decide +kernel
theorem d_X_region_33 : decode b_X_region 33 = .ok (.ireturn, 1) := by decide +kernel
theorem d_X_region_34 : decode b_X_region 34 = .ok (.aload_n 0, 1) := by decide +kernel
theorem d_X_region_35 : decode b_X_region 35 = .ok (.getfield 38, 3) := by decide +kernel
theorem d_X_region_38 : decode b_X_region 38 = .ok (.bipush 30, 2) := by decide +kernel
theorem d_X_region_40 : decode b_X_region 40 = .ok (.if_icmp .lt 5, 3) := by decide +kernel
theorem d_X_region_43 : decode b_X_region 43 = .ok (.iconst (-1), 1) := by decide +kernel
theorem d_X_region_44 : decode b_X_region 44 = .ok (.ireturn, 1) := by decide +kernel
theorem d_X_region_45 : decode b_X_region 45 = .ok (.aload_n 0, 1) := by decide +kernel
theorem d_X_region_46 : decode b_X_region 46 = .ok (.getfield 11, 3) := by decide +kernel
theorem d_X_region_49 : decode b_X_region 49 = .ok (.aload_n 0, 1) := by decide +kernel
theorem d_X_region_50 : decode b_X_region 50 = .ok (.getfield 38, 3) := by decide +kernel
theorem d_X_region_53 : decode b_X_region 53 = .ok (.new 9, 3) := by decide +kernel
theorem d_X_region_56 : decode b_X_region 56 = .ok (.dup, 1) := by decide +kernel
theorem d_X_region_57 : decode b_X_region 57 = .ok (.iload_n 1, 1) := by decide +kernel
theorem d_X_region_58 : decode b_X_region 58 = .ok (.iload_n 2, 1) := by decide +kernel
theorem d_X_region_59 : decode b_X_region 59 = .ok (.invokespecial 42, 3) := by decide +kernel
theorem d_X_region_62 : decode b_X_region 62 = .ok (.aastore, 1) := by decide +kernel
theorem d_X_region_63 : decode b_X_region 63 = .ok (.aload_n 0, 1) := by decide +kernel
theorem d_X_region_64 : decode b_X_region 64 = .ok (.dup, 1) := by decide +kernel
theorem d_X_region_65 : decode b_X_region 65 = .ok (.getfield 38, 3) := by decide +kernel
theorem d_X_region_68 : decode b_X_region 68 = .ok (.iconst 1, 1) := by decide +kernel
theorem d_X_region_69 : decode b_X_region 69 = .ok (.iadd, 1) := by decide +kernel
theorem d_X_region_70 : decode b_X_region 70 = .ok (.putfield 38, 3) := by decide +kernel
theorem d_X_region_73 : decode b_X_region 73 = .ok (.aload_n 0, 1) := by decide +kernel
theorem d_X_region_74 : decode b_X_region 74 = .ok (.getfield 38, 3) := by decide +kernel
theorem d_X_region_77 : decode b_X_region 77 = .ok (.ireturn, 1) := by decide +kernel
theorem d_X_waits_0 : decode b_X_waits 0 = .ok (.aload_n 0, 1) := by decide +kernel
theorem d_X_waits_1 : decode b_X_waits 1 = .ok (.iload_n 1, 1) := by decide +kernel
theorem d_X_waits_2 : decode b_X_waits 2 = .ok (.invokevirtual 45, 3) := by decide +kernel
theorem d_X_waits_5 : decode b_X_waits 5 = .ok (.astore 4, 2) := by decide +kernel
theorem d_X_waits_7 : decode b_X_waits 7 = .ok (.aload 4, 2) := by decide +kernel
theorem d_X_waits_9 : decode b_X_waits 9 = .ok (.ifnonnull 6, 3) := by decide +kernel
theorem d_X_waits_12 : decode b_X_waits 12 = .ok (.bipush (-2), 2) := by decide +kernel
theorem d_X_waits_14 : decode b_X_waits 14 = .ok (.ireturn, 1) := by decide +kernel
theorem d_X_waits_15 : decode b_X_waits 15 = .ok (.iload_n 2, 1) := by decide +kernel
theorem d_X_waits_16 : decode b_X_waits 16 = .ok (.iconst 1, 1) := by decide +kernel
theorem d_X_waits_17 : decode b_X_waits 17 = .ok (.if_icmp .lt 19, 3) := by decide +kernel
theorem d_X_waits_20 : decode b_X_waits 20 = .ok (.iload_n 2, 1) := by decide +kernel
theorem d_X_waits_21 : decode b_X_waits 21 = .ok (.aload 4, 2) := by decide +kernel
theorem d_X_waits_23 : decode b_X_waits 23 = .ok (.getfield 49, 3) := by decide +kernel
theorem d_X_waits_26 : decode b_X_waits 26 = .ok (.if_icmp .gt 10, 3) := by decide +kernel
theorem d_X_waits_29 : decode b_X_waits 29 = .ok (.iload_n 3, 1) := by decide +kernel
theorem d_X_waits_30 : decode b_X_waits 30 = .ok (.invokestatic 52, 3) := by decide +kernel
theorem d_X_waits_33 : decode b_X_waits 33 = .ok (.ifCond .ne 6, 3) := by decide +kernel
theorem d_X_waits_36 : decode b_X_waits 36 = .ok (.bipush (-4), 2) := by decide +kernel
theorem d_X_waits_38 : decode b_X_waits 38 = .ok (.ireturn, 1) := by decide +kernel
theorem d_X_waits_39 : decode b_X_waits 39 = .ok (.aload 4, 2) := by decide +kernel
theorem d_X_waits_41 : decode b_X_waits 41 = .ok (.iload_n 2, 1) := by decide +kernel
theorem d_X_waits_42 : decode b_X_waits 42 = .ok (.invokevirtual 56, 3) := by decide +kernel
theorem d_X_waits_45 : decode b_X_waits 45 = .ok (.ifCond .ne 6, 3) := by decide +kernel
theorem d_X_waits_48 : decode b_X_waits 48 = .ok (.bipush (-5), 2) := by decide +kernel
theorem d_X_waits_50 : decode b_X_waits 50 = .ok (.ireturn, 1) := by decide +kernel
theorem d_X_waits_51 : decode b_X_waits 51 = .ok (.aload 4, 2) := by decide +kernel
theorem d_X_waits_53 : decode b_X_waits 53 = .ok (.iload_n 2, 1) := by decide +kernel
theorem d_X_waits_54 : decode b_X_waits 54 = .ok (.iload_n 3, 1) := by decide +kernel
theorem d_X_waits_55 : decode b_X_waits 55 = .ok (.invokevirtual 59, 3) := by decide +kernel
theorem d_X_waits_58 : decode b_X_waits 58 = .ok (.ifCond .eq 11, 3) := by decide +kernel
theorem d_X_waits_61 : decode b_X_waits 61 = .ok (.aload 4, 2) := by decide +kernel
theorem d_X_waits_63 : decode b_X_waits 63 = .ok (.getfield 63, 3) := by decide +kernel
theorem d_X_waits_66 : decode b_X_waits 66 = .ok (.goto 4, 3) := by decide +kernel
theorem d_X_waits_69 : decode b_X_waits 69 = .ok (.iconst (-1), 1) := by decide +kernel
theorem d_X_waits_70 : decode b_X_waits 70 = .ok (.ireturn, 1) := by decide +kernel
theorem d_X_post_0 : decode b_X_post 0 = .ok (.iload_n 1, 1) := by decide +kernel
theorem d_X_post_1 : decode b_X_post 1 = .ok (.invokestatic 52, 3) := by decide +kernel
theorem d_X_post_4 : decode b_X_post 4 = .ok (.ifCond .ne 6, 3) := by decide +kernel
theorem d_X_post_7 : decode b_X_post 7 = .ok (.bipush (-4), 2) := by decide +kernel
theorem d_X_post_9 : decode b_X_post 9 = .ok (.ireturn, 1) := by decide +kernel
theorem d_X_post_10 : decode b_X_post 10 = .ok (.aload_n 0, 1) := by decide +kernel
theorem d_X_post_11 : decode b_X_post 11 = .ok (.getfield 34, 3) := by decide +kernel
theorem d_X_post_14 : decode b_X_post 14 = .ok (.ifCond .eq 6, 3) := by decide +kernel
theorem d_X_post_17 : decode b_X_post 17 = .ok (.bipush (-5), 2) := by decide +kernel
theorem d_X_post_19 : decode b_X_post 19 = .ok (.ireturn, 1) := by decide +kernel
theorem d_X_post_20 : decode b_X_post 20 = .ok (.aload_n 0, 1) := by decide +kernel
theorem d_X_post_21 : decode b_X_post 21 = .ok (.getfield 18, 3) := by decide +kernel
theorem d_X_post_24 : decode b_X_post 24 = .ok (.iload_n 1, 1) := by decide +kernel
theorem d_X_post_25 : decode b_X_post 25 = .ok (.invokevirtual 66, 3) := by decide +kernel
theorem d_X_post_28 : decode b_X_post 28 = .ok (.aload_n 0, 1) := by decide +kernel
theorem d_X_post_29 : decode b_X_post 29 = .ok (.getfield 18, 3) := by decide +kernel
theorem d_X_post_32 : decode b_X_post 32 = .ok (.iload_n 1, 1) := by decide +kernel
theorem d_X_post_33 : decode b_X_post 33 = .ok (.invokevirtual 69, 3) := by decide +kernel
theorem d_X_post_36 : decode b_X_post 36 = .ok (.ireturn, 1) := by decide +kernel
theorem d_X_turn_0 : decode b_X_turn 0 = .ok (.aload_n 0, 1) := by decide +kernel
theorem d_X_turn_1 : decode b_X_turn 1 = .ok (.getfield 34, 3) := by decide +kernel
theorem d_X_turn_4 : decode b_X_turn 4 = .ok (.ifCond .ne 11, 3) := by decide +kernel
theorem d_X_turn_7 : decode b_X_turn 7 = .ok (.aload_n 0, 1) := by decide +kernel
theorem d_X_turn_8 : decode b_X_turn 8 = .ok (.iload_n 1, 1) := by decide +kernel
theorem d_X_turn_9 : decode b_X_turn 9 = .ok (.invokevirtual 45, 3) := by decide +kernel
theorem d_X_turn_12 : decode b_X_turn 12 = .ok (.ifnonnull 4, 3) := by decide +kernel
theorem d_X_turn_15 : decode b_X_turn 15 = .ok (.return_, 1) := by decide +kernel
theorem d_X_turn_16 : decode b_X_turn 16 = .ok (.aload_n 0, 1) := by decide +kernel
theorem d_X_turn_17 : decode b_X_turn 17 = .ok (.getfield 27, 3) := by decide +kernel
theorem d_X_turn_20 : decode b_X_turn 20 = .ok (.iload_n 1, 1) := by decide +kernel
theorem d_X_turn_21 : decode b_X_turn 21 = .ok (.invokevirtual 73, 3) := by decide +kernel
theorem d_X_turn_24 : decode b_X_turn 24 = .ok (.return_, 1) := by decide +kernel
theorem d_X_run_0 : decode b_X_run 0 = .ok (.aload_n 0, 1) := by decide +kernel
theorem d_X_run_1 : decode b_X_run 1 = .ok (.getfield 34, 3) := by decide +kernel
theorem d_X_run_4 : decode b_X_run 4 = .ok (.ifCond .eq 6, 3) := by decide +kernel
theorem d_X_run_7 : decode b_X_run 7 = .ok (.bipush (-5), 2) := by decide +kernel
theorem d_X_run_9 : decode b_X_run 9 = .ok (.ireturn, 1) := by decide +kernel
theorem d_X_run_10 : decode b_X_run 10 = .ok (.iconst 0, 1) := by decide +kernel
theorem d_X_run_11 : decode b_X_run 11 = .ok (.istore_n 1, 1) := by decide +kernel
theorem d_X_run_12 : decode b_X_run 12 = .ok (.iconst 0, 1) := by decide +kernel
theorem d_X_run_13 : decode b_X_run 13 = .ok (.istore_n 2, 1) := by decide +kernel
theorem d_X_run_14 : decode b_X_run 14 = .ok (.iload_n 2, 1) := by decide +kernel
theorem d_X_run_15 : decode b_X_run 15 = .ok (.aload_n 0, 1) := by decide +kernel
theorem d_X_run_16 : decode b_X_run 16 = .ok (.getfield 27, 3) := by decide +kernel
theorem d_X_run_19 : decode b_X_run 19 = .ok (.getfield 76, 3) := by decide +kernel
theorem d_X_run_22 : decode b_X_run 22 = .ok (.if_icmp .ge 47, 3) := by decide +kernel
theorem d_X_run_25 : decode b_X_run 25 = .ok (.aload_n 0, 1) := by decide +kernel
theorem d_X_run_26 : decode b_X_run 26 = .ok (.aload_n 0, 1) := by decide +kernel
theorem d_X_run_27 : decode b_X_run 27 = .ok (.getfield 27, 3) := by decide +kernel
theorem d_X_run_30 : decode b_X_run 30 = .ok (.iload_n 2, 1) := by decide +kernel
theorem d_X_run_31 : decode b_X_run 31 = .ok (.invokevirtual 79, 3) := by decide +kernel
theorem d_X_run_34 : decode b_X_run 34 = .ok (.invokevirtual 82, 3) := by decide +kernel
theorem d_X_run_37 : decode b_X_run 37 = .ok (.istore_n 3, 1) := by decide +kernel
theorem d_X_run_38 : decode b_X_run 38 = .ok (.iload_n 3, 1) := by decide +kernel
theorem d_X_run_39 : decode b_X_run 39 = .ok (.iconst 1, 1) := by decide +kernel
theorem d_X_run_40 : decode b_X_run 40 = .ok (.if_icmp .ne 9, 3) := by decide +kernel
theorem d_X_run_43 : decode b_X_run 43 = .ok (.iinc 1 1, 3) := by decide +kernel
theorem d_X_run_46 : decode b_X_run 46 = .ok (.goto 17, 3) := by decide +kernel
theorem d_X_run_49 : decode b_X_run 49 = .ok (.iload_n 3, 1) := by decide +kernel
theorem d_X_run_50 : decode b_X_run 50 = .ok (.ifCond .ne 13, 3) := by decide +kernel
theorem d_X_run_53 : decode b_X_run 53 = .ok (.aload_n 0, 1) := by decide +kernel
theorem d_X_run_54 : decode b_X_run 54 = .ok (.dup, 1) := by decide +kernel
theorem d_X_run_55 : decode b_X_run 55 = .ok (.getfield 85, 3) := by decide +kernel
theorem d_X_run_58 : decode b_X_run 58 = .ok (.iconst 1, 1) := by decide +kernel
theorem d_X_run_59 : decode b_X_run 59 = .ok (.iadd, 1) := by decide +kernel
theorem d_X_run_60 : decode b_X_run 60 = .ok (.putfield 85, 3) := by decide +kernel
theorem d_X_run_63 : decode b_X_run 63 = .ok (.iinc 2 1, 3) := by decide +kernel
theorem d_X_run_66 : decode b_X_run 66 = .ok (.goto (-52), 3) := by decide +kernel
theorem d_X_run_69 : decode b_X_run 69 = .ok (.aload_n 0, 1) := by decide +kernel
theorem d_X_run_70 : decode b_X_run 70 = .ok (.getfield 27, 3) := by decide +kernel
theorem d_X_run_73 : decode b_X_run 73 = .ok (.invokevirtual 88, 3) := by decide +kernel
theorem d_X_run_76 : decode b_X_run 76 = .ok (.iload_n 1, 1) := by decide +kernel
theorem d_X_run_77 : decode b_X_run 77 = .ok (.ireturn, 1) := by decide +kernel
theorem d_X_log_0 : decode b_X_log 0 = .ok (.aload_n 0, 1) := by decide +kernel
theorem d_X_log_1 : decode b_X_log 1 = .ok (.getfield 31, 3) := by decide +kernel
theorem d_X_log_4 : decode b_X_log 4 = .ok (.iload_n 1, 1) := by decide +kernel
theorem d_X_log_5 : decode b_X_log 5 = .ok (.invokevirtual 79, 3) := by decide +kernel
theorem d_X_log_8 : decode b_X_log 8 = .ok (.ireturn, 1) := by decide +kernel
theorem d_X_cancel_0 : decode b_X_cancel 0 = .ok (.aload_n 0, 1) := by decide +kernel
theorem d_X_cancel_1 : decode b_X_cancel 1 = .ok (.iload_n 1, 1) := by decide +kernel
theorem d_X_cancel_2 : decode b_X_cancel 2 = .ok (.invokevirtual 45, 3) := by decide +kernel
theorem d_X_cancel_5 : decode b_X_cancel 5 = .ok (.astore_n 2, 1) := by decide +kernel
theorem d_X_cancel_6 : decode b_X_cancel 6 = .ok (.aload_n 0, 1) := by decide +kernel
theorem d_X_cancel_7 : decode b_X_cancel 7 = .ok (.getfield 34, 3) := by decide +kernel
theorem d_X_cancel_10 : decode b_X_cancel 10 = .ok (.ifCond .ne 21, 3) := by decide +kernel
theorem d_X_cancel_13 : decode b_X_cancel 13 = .ok (.aload_n 2, 1) := by decide +kernel
theorem d_X_cancel_14 : decode b_X_cancel 14 = .ok (.ifnull 17, 3) := by decide +kernel
theorem d_X_cancel_17 : decode b_X_cancel 17 = .ok (.aload_n 2, 1) := by decide +kernel
theorem d_X_cancel_18 : decode b_X_cancel 18 = .ok (.invokevirtual 91, 3) := by decide +kernel
theorem d_X_cancel_21 : decode b_X_cancel 21 = .ok (.ifCond .eq 10, 3) := by decide +kernel
theorem d_X_cancel_24 : decode b_X_cancel 24 = .ok (.aload_n 2, 1) := by decide +kernel
theorem d_X_cancel_25 : decode b_X_cancel 25 = .ok (.getfield 95, 3) := by decide +kernel
theorem d_X_cancel_28 : decode b_X_cancel 28 = .ok (.ifCond .eq 5, 3) := by decide +kernel
theorem d_X_cancel_31 : decode b_X_cancel 31 = .ok (.iconst 0, 1) := by decide +kernel
theorem d_X_cancel_32 : decode b_X_cancel 32 = .ok (.ireturn, 1) := by decide +kernel
theorem d_X_cancel_33 : decode b_X_cancel 33 = .ok (.aload_n 2, 1) := by decide +kernel
theorem d_X_cancel_34 : decode b_X_cancel 34 = .ok (.iconst 1, 1) := by decide +kernel
theorem d_X_cancel_35 : decode b_X_cancel 35 = .ok (.putfield 95, 3) := by decide +kernel
theorem d_X_cancel_38 : decode b_X_cancel 38 = .ok (.iconst 1, 1) := by decide +kernel
theorem d_X_cancel_39 : decode b_X_cancel 39 = .ok (.ireturn, 1) := by decide +kernel
theorem d_X_cleaned_0 : decode b_X_cleaned 0 = .ok (.aload_n 0, 1) := by decide +kernel
theorem d_X_cleaned_1 : decode b_X_cleaned 1 = .ok (.iload_n 1, 1) := by decide +kernel
theorem d_X_cleaned_2 : decode b_X_cleaned 2 = .ok (.invokevirtual 45, 3) := by decide +kernel
theorem d_X_cleaned_5 : decode b_X_cleaned 5 = .ok (.astore_n 2, 1) := by decide +kernel
theorem d_X_cleaned_6 : decode b_X_cleaned 6 = .ok (.aload_n 2, 1) := by decide +kernel
theorem d_X_cleaned_7 : decode b_X_cleaned 7 = .ok (.ifnonnull 8, 3) := by decide +kernel
theorem d_X_cleaned_10 : decode b_X_cleaned 10 = .ok (.bipush (-2), 2) := by decide +kernel
theorem d_X_cleaned_12 : decode b_X_cleaned 12 = .ok (.goto 7, 3) := by decide +kernel
theorem d_X_cleaned_15 : decode b_X_cleaned 15 = .ok (.aload_n 2, 1) := by decide +kernel
theorem d_X_cleaned_16 : decode b_X_cleaned 16 = .ok (.getfield 98, 3) := by decide +kernel
theorem d_X_cleaned_19 : decode b_X_cleaned 19 = .ok (.ireturn, 1) := by decide +kernel
theorem d_X_backed_0 : decode b_X_backed 0 = .ok (.aload_n 0, 1) := by decide +kernel
theorem d_X_backed_1 : decode b_X_backed 1 = .ok (.iload_n 1, 1) := by decide +kernel
theorem d_X_backed_2 : decode b_X_backed 2 = .ok (.invokevirtual 45, 3) := by decide +kernel
theorem d_X_backed_5 : decode b_X_backed 5 = .ok (.astore_n 2, 1) := by decide +kernel
theorem d_X_backed_6 : decode b_X_backed 6 = .ok (.aload_n 2, 1) := by decide +kernel
theorem d_X_backed_7 : decode b_X_backed 7 = .ok (.ifnonnull 8, 3) := by decide +kernel
theorem d_X_backed_10 : decode b_X_backed 10 = .ok (.bipush (-2), 2) := by decide +kernel
theorem d_X_backed_12 : decode b_X_backed 12 = .ok (.goto 7, 3) := by decide +kernel
theorem d_X_backed_15 : decode b_X_backed 15 = .ok (.aload_n 2, 1) := by decide +kernel
theorem d_X_backed_16 : decode b_X_backed 16 = .ok (.getfield 101, 3) := by decide +kernel
theorem d_X_backed_19 : decode b_X_backed 19 = .ok (.ireturn, 1) := by decide +kernel
theorem d_X_shutdown_0 : decode b_X_shutdown 0 = .ok (.aload_n 0, 1) := by decide +kernel
theorem d_X_shutdown_1 : decode b_X_shutdown 1 = .ok (.getfield 34, 3) := by decide +kernel
theorem d_X_shutdown_4 : decode b_X_shutdown 4 = .ok (.ifCond .eq 6, 3) := by decide +kernel
theorem d_X_shutdown_7 : decode b_X_shutdown 7 = .ok (.bipush (-5), 2) := by decide +kernel
theorem d_X_shutdown_9 : decode b_X_shutdown 9 = .ok (.ireturn, 1) := by decide +kernel
theorem d_X_shutdown_10 : decode b_X_shutdown 10 = .ok (.aload_n 0, 1) := by decide +kernel
theorem d_X_shutdown_11 : decode b_X_shutdown 11 = .ok (.getfield 27, 3) := by decide +kernel
theorem d_X_shutdown_14 : decode b_X_shutdown 14 = .ok (.invokevirtual 88, 3) := by decide +kernel
theorem d_X_shutdown_17 : decode b_X_shutdown 17 = .ok (.iload_n 1, 1) := by decide +kernel
theorem d_X_shutdown_18 : decode b_X_shutdown 18 = .ok (.ifCond .ne 11, 3) := by decide +kernel
theorem d_X_shutdown_21 : decode b_X_shutdown 21 = .ok (.aload_n 0, 1) := by decide +kernel
theorem d_X_shutdown_22 : decode b_X_shutdown 22 = .ok (.invokevirtual 104, 3) := by decide +kernel
theorem d_X_shutdown_25 : decode b_X_shutdown 25 = .ok (.aload_n 0, 1) := by decide +kernel
theorem d_X_shutdown_26 : decode b_X_shutdown 26 = .ok (.invokevirtual 107, 3) := by decide +kernel
theorem d_X_shutdown_29 : decode b_X_shutdown 29 = .ok (.aload_n 0, 1) := by decide +kernel
theorem d_X_shutdown_30 : decode b_X_shutdown 30 = .ok (.invokevirtual 110, 3) := by decide +kernel
theorem d_X_shutdown_33 : decode b_X_shutdown 33 = .ok (.istore_n 2, 1) := by decide +kernel
theorem d_X_shutdown_34 : decode b_X_shutdown 34 = .ok (.aload_n 0, 1) := by decide +kernel
theorem d_X_shutdown_35 : decode b_X_shutdown 35 = .ok (.invokevirtual 114, 3) := by decide +kernel
theorem d_X_shutdown_38 : decode b_X_shutdown 38 = .ok (.iload_n 2, 1) := by decide +kernel
theorem d_X_shutdown_39 : decode b_X_shutdown 39 = .ok (.ireturn, 1) := by decide +kernel
theorem d_X_decision_0 : decode b_X_decision 0 = .ok (.aload_n 0, 1) := by decide +kernel
theorem d_X_decision_1 : decode b_X_decision 1 = .ok (.iload_n 1, 1) := by decide +kernel
theorem d_X_decision_2 : decode b_X_decision 2 = .ok (.invokevirtual 45, 3) := by decide +kernel
theorem d_X_decision_5 : decode b_X_decision 5 = .ok (.astore_n 3, 1) := by decide +kernel
theorem d_X_decision_6 : decode b_X_decision 6 = .ok (.aload_n 3, 1) := by decide +kernel
theorem d_X_decision_7 : decode b_X_decision 7 = .ok (.ifnonnull 6, 3) := by decide +kernel
theorem d_X_decision_10 : decode b_X_decision 10 = .ok (.bipush (-2), 2) := by decide +kernel
theorem d_X_decision_12 : decode b_X_decision 12 = .ok (.ireturn, 1) := by decide +kernel
theorem d_X_decision_13 : decode b_X_decision 13 = .ok (.iload_n 2, 1) := by decide +kernel
theorem d_X_decision_14 : decode b_X_decision 14 = .ok (.iconst 1, 1) := by decide +kernel
theorem d_X_decision_15 : decode b_X_decision 15 = .ok (.if_icmp .lt 13, 3) := by decide +kernel
theorem d_X_decision_18 : decode b_X_decision 18 = .ok (.iload_n 2, 1) := by decide +kernel
theorem d_X_decision_19 : decode b_X_decision 19 = .ok (.aload_n 3, 1) := by decide +kernel
theorem d_X_decision_20 : decode b_X_decision 20 = .ok (.getfield 49, 3) := by decide +kernel
theorem d_X_decision_23 : decode b_X_decision 23 = .ok (.iconst 1, 1) := by decide +kernel
theorem d_X_decision_24 : decode b_X_decision 24 = .ok (.isub, 1) := by decide +kernel
theorem d_X_decision_25 : decode b_X_decision 25 = .ok (.if_icmp .le 6, 3) := by decide +kernel
theorem d_X_decision_28 : decode b_X_decision 28 = .ok (.bipush (-4), 2) := by decide +kernel
theorem d_X_decision_30 : decode b_X_decision 30 = .ok (.ireturn, 1) := by decide +kernel
theorem d_X_decision_31 : decode b_X_decision 31 = .ok (.aload_n 3, 1) := by decide +kernel
theorem d_X_decision_32 : decode b_X_decision 32 = .ok (.iload_n 2, 1) := by decide +kernel
theorem d_X_decision_33 : decode b_X_decision 33 = .ok (.invokevirtual 56, 3) := by decide +kernel
theorem d_X_decision_36 : decode b_X_decision 36 = .ok (.ifCond .ne 6, 3) := by decide +kernel
theorem d_X_decision_39 : decode b_X_decision 39 = .ok (.bipush (-5), 2) := by decide +kernel
theorem d_X_decision_41 : decode b_X_decision 41 = .ok (.ireturn, 1) := by decide +kernel
theorem d_X_decision_42 : decode b_X_decision 42 = .ok (.aload_n 3, 1) := by decide +kernel
theorem d_X_decision_43 : decode b_X_decision 43 = .ok (.iload_n 2, 1) := by decide +kernel
theorem d_X_decision_44 : decode b_X_decision 44 = .ok (.invokevirtual 117, 3) := by decide +kernel
theorem d_X_decision_47 : decode b_X_decision 47 = .ok (.ifCond .eq 7, 3) := by decide +kernel
theorem d_X_decision_50 : decode b_X_decision 50 = .ok (.iconst 1, 1) := by decide +kernel
theorem d_X_decision_51 : decode b_X_decision 51 = .ok (.goto 4, 3) := by decide +kernel
theorem d_X_decision_54 : decode b_X_decision 54 = .ok (.iconst 0, 1) := by decide +kernel
theorem d_X_decision_55 : decode b_X_decision 55 = .ok (.ireturn, 1) := by decide +kernel
theorem d_X_finished_0 : decode b_X_finished 0 = .ok (.aload_n 0, 1) := by decide +kernel
theorem d_X_finished_1 : decode b_X_finished 1 = .ok (.iload_n 1, 1) := by decide +kernel
theorem d_X_finished_2 : decode b_X_finished 2 = .ok (.invokevirtual 45, 3) := by decide +kernel
theorem d_X_finished_5 : decode b_X_finished 5 = .ok (.astore_n 2, 1) := by decide +kernel
theorem d_X_finished_6 : decode b_X_finished 6 = .ok (.aload_n 2, 1) := by decide +kernel
theorem d_X_finished_7 : decode b_X_finished 7 = .ok (.ifnonnull 8, 3) := by decide +kernel
theorem d_X_finished_10 : decode b_X_finished 10 = .ok (.bipush (-2), 2) := by decide +kernel
theorem d_X_finished_12 : decode b_X_finished 12 = .ok (.goto 7, 3) := by decide +kernel
theorem d_X_finished_15 : decode b_X_finished 15 = .ok (.aload_n 2, 1) := by decide +kernel
theorem d_X_finished_16 : decode b_X_finished 16 = .ok (.getfield 120, 3) := by decide +kernel
theorem d_X_finished_19 : decode b_X_finished 19 = .ok (.ireturn, 1) := by decide +kernel
theorem d_X_close_0 : decode b_X_close 0 = .ok (.aload_n 0, 1) := by decide +kernel
theorem d_X_close_1 : decode b_X_close 1 = .ok (.getfield 34, 3) := by decide +kernel
theorem d_X_close_4 : decode b_X_close 4 = .ok (.ifCond .eq 6, 3) := by decide +kernel
theorem d_X_close_7 : decode b_X_close 7 = .ok (.bipush (-5), 2) := by decide +kernel
theorem d_X_close_9 : decode b_X_close 9 = .ok (.ireturn, 1) := by decide +kernel
theorem d_X_close_10 : decode b_X_close 10 = .ok (.aload_n 0, 1) := by decide +kernel
theorem d_X_close_11 : decode b_X_close 11 = .ok (.iconst 1, 1) := by decide +kernel
theorem d_X_close_12 : decode b_X_close 12 = .ok (.putfield 34, 3) := by decide +kernel
theorem d_X_close_15 : decode b_X_close 15 = .ok (.aload_n 0, 1) := by decide +kernel
theorem d_X_close_16 : decode b_X_close 16 = .ok (.getfield 27, 3) := by decide +kernel
theorem d_X_close_19 : decode b_X_close 19 = .ok (.invokevirtual 88, 3) := by decide +kernel
theorem d_X_close_22 : decode b_X_close 22 = .ok (.aload_n 0, 1) := by decide +kernel
theorem d_X_close_23 : decode b_X_close 23 = .ok (.invokevirtual 123, 3) := by decide +kernel
theorem d_X_close_26 : decode b_X_close 26 = .ok (.istore_n 1, 1) := by decide +kernel
theorem d_X_close_27 : decode b_X_close 27 = .ok (.aload_n 0, 1) := by decide +kernel
theorem d_X_close_28 : decode b_X_close 28 = .ok (.invokevirtual 114, 3) := by decide +kernel
theorem d_X_close_31 : decode b_X_close 31 = .ok (.iload_n 1, 1) := by decide +kernel
theorem d_X_close_32 : decode b_X_close 32 = .ok (.ireturn, 1) := by decide +kernel
theorem d_X_count_0 : decode b_X_count 0 = .ok (.iload_n 1, 1) := by decide +kernel
theorem d_X_count_1 : decode b_X_count 1 = .ok (.tableswitch 83 0 5 #[39, 44, 52, 60, 65, 70], 39) := by decide +kernel
theorem d_X_count_40 : decode b_X_count 40 = .ok (.aload_n 0, 1) := by decide +kernel
theorem d_X_count_41 : decode b_X_count 41 = .ok (.getfield 38, 3) := by decide +kernel
theorem d_X_count_44 : decode b_X_count 44 = .ok (.ireturn, 1) := by decide +kernel
theorem d_X_count_45 : decode b_X_count 45 = .ok (.aload_n 0, 1) := by decide +kernel
theorem d_X_count_46 : decode b_X_count 46 = .ok (.getfield 27, 3) := by decide +kernel
theorem d_X_count_49 : decode b_X_count 49 = .ok (.getfield 76, 3) := by decide +kernel
theorem d_X_count_52 : decode b_X_count 52 = .ok (.ireturn, 1) := by decide +kernel
theorem d_X_count_53 : decode b_X_count 53 = .ok (.aload_n 0, 1) := by decide +kernel
theorem d_X_count_54 : decode b_X_count 54 = .ok (.getfield 31, 3) := by decide +kernel
theorem d_X_count_57 : decode b_X_count 57 = .ok (.getfield 76, 3) := by decide +kernel
theorem d_X_count_60 : decode b_X_count 60 = .ok (.ireturn, 1) := by decide +kernel
theorem d_X_count_61 : decode b_X_count 61 = .ok (.aload_n 0, 1) := by decide +kernel
theorem d_X_count_62 : decode b_X_count 62 = .ok (.invokevirtual 123, 3) := by decide +kernel
theorem d_X_count_65 : decode b_X_count 65 = .ok (.ireturn, 1) := by decide +kernel
theorem d_X_count_66 : decode b_X_count 66 = .ok (.aload_n 0, 1) := by decide +kernel
theorem d_X_count_67 : decode b_X_count 67 = .ok (.getfield 85, 3) := by decide +kernel
theorem d_X_count_70 : decode b_X_count 70 = .ok (.ireturn, 1) := by decide +kernel
theorem d_X_count_71 : decode b_X_count 71 = .ok (.aload_n 0, 1) := by decide +kernel
theorem d_X_count_72 : decode b_X_count 72 = .ok (.getfield 34, 3) := by decide +kernel
theorem d_X_count_75 : decode b_X_count 75 = .ok (.ifCond .eq 7, 3) := by decide +kernel
theorem d_X_count_78 : decode b_X_count 78 = .ok (.iconst 1, 1) := by decide +kernel
theorem d_X_count_79 : decode b_X_count 79 = .ok (.goto 4, 3) := by decide +kernel
theorem d_X_count_82 : decode b_X_count 82 = .ok (.iconst 0, 1) := by decide +kernel
theorem d_X_count_83 : decode b_X_count 83 = .ok (.ireturn, 1) := by decide +kernel
theorem d_X_count_84 : decode b_X_count 84 = .ok (.iload_n 1, 1) := by decide +kernel
theorem d_X_count_85 : decode b_X_count 85 = .ok (.bipush 10, 2) := by decide +kernel
theorem d_X_count_87 : decode b_X_count 87 = .ok (.isub, 1) := by decide +kernel
theorem d_X_count_88 : decode b_X_count 88 = .ok (.istore_n 2, 1) := by decide +kernel
theorem d_X_count_89 : decode b_X_count 89 = .ok (.iload_n 2, 1) := by decide +kernel
theorem d_X_count_90 : decode b_X_count 90 = .ok (.invokestatic 52, 3) := by decide +kernel
theorem d_X_count_93 : decode b_X_count 93 = .ok (.ifCond .eq 14, 3) := by decide +kernel
theorem d_X_count_96 : decode b_X_count 96 = .ok (.aload_n 0, 1) := by decide +kernel
theorem d_X_count_97 : decode b_X_count 97 = .ok (.getfield 18, 3) := by decide +kernel
theorem d_X_count_100 : decode b_X_count 100 = .ok (.iload_n 2, 1) := by decide +kernel
theorem d_X_count_101 : decode b_X_count 101 = .ok (.invokevirtual 69, 3) := by decide +kernel
theorem d_X_count_104 : decode b_X_count 104 = .ok (.goto 4, 3) := by decide +kernel
theorem d_X_count_107 : decode b_X_count 107 = .ok (.iconst (-1), 1) := by decide +kernel
theorem d_X_count_108 : decode b_X_count 108 = .ok (.ireturn, 1) := by decide +kernel
theorem d_X_done_0 : decode b_X_done 0 = .ok (.aload_n 0, 1) := by decide +kernel
theorem d_X_done_1 : decode b_X_done 1 = .ok (.iload_n 1, 1) := by decide +kernel
theorem d_X_done_2 : decode b_X_done 2 = .ok (.invokevirtual 45, 3) := by decide +kernel
theorem d_X_done_5 : decode b_X_done 5 = .ok (.astore_n 2, 1) := by decide +kernel
theorem d_X_done_6 : decode b_X_done 6 = .ok (.aload_n 2, 1) := by decide +kernel
theorem d_X_done_7 : decode b_X_done 7 = .ok (.ifnonnull 8, 3) := by decide +kernel
theorem d_X_done_10 : decode b_X_done 10 = .ok (.bipush (-2), 2) := by decide +kernel
theorem d_X_done_12 : decode b_X_done 12 = .ok (.goto 7, 3) := by decide +kernel
theorem d_X_done_15 : decode b_X_done 15 = .ok (.aload_n 2, 1) := by decide +kernel
theorem d_X_done_16 : decode b_X_done 16 = .ok (.getfield 126, 3) := by decide +kernel
theorem d_X_done_19 : decode b_X_done 19 = .ok (.ireturn, 1) := by decide +kernel
theorem d_X_find_0 : decode b_X_find 0 = .ok (.iload_n 1, 1) := by decide +kernel
theorem d_X_find_1 : decode b_X_find 1 = .ok (.iconst 1, 1) := by decide +kernel
theorem d_X_find_2 : decode b_X_find 2 = .ok (.if_icmp .lt 17, 3) := by decide +kernel
theorem d_X_find_5 : decode b_X_find 5 = .ok (.iload_n 1, 1) := by decide +kernel
theorem d_X_find_6 : decode b_X_find 6 = .ok (.aload_n 0, 1) := by decide +kernel
theorem d_X_find_7 : decode b_X_find 7 = .ok (.getfield 38, 3) := by decide +kernel
theorem d_X_find_10 : decode b_X_find 10 = .ok (.if_icmp .gt 9, 3) := by decide +kernel
theorem d_X_find_13 : decode b_X_find 13 = .ok (.iload_n 1, 1) := by decide +kernel
theorem d_X_find_14 : decode b_X_find 14 = .ok (.bipush 30, 2) := by decide +kernel
theorem d_X_find_16 : decode b_X_find 16 = .ok (.if_icmp .le 5, 3) := by decide +kernel
theorem d_X_find_19 : decode b_X_find 19 = .ok (.aconst_null, 1) := by decide +kernel
theorem d_X_find_20 : decode b_X_find 20 = .ok (.areturn, 1) := by decide +kernel
theorem d_X_find_21 : decode b_X_find 21 = .ok (.aload_n 0, 1) := by decide +kernel
theorem d_X_find_22 : decode b_X_find 22 = .ok (.getfield 11, 3) := by decide +kernel
theorem d_X_find_25 : decode b_X_find 25 = .ok (.iload_n 1, 1) := by decide +kernel
theorem d_X_find_26 : decode b_X_find 26 = .ok (.iconst 1, 1) := by decide +kernel
theorem d_X_find_27 : decode b_X_find 27 = .ok (.isub, 1) := by decide +kernel
theorem d_X_find_28 : decode b_X_find 28 = .ok (.aaload, 1) := by decide +kernel
theorem d_X_find_29 : decode b_X_find 29 = .ok (.areturn, 1) := by decide +kernel
theorem d_X_giveTurn_0 : decode b_X_giveTurn 0 = .ok (.aload_n 0, 1) := by decide +kernel
theorem d_X_giveTurn_1 : decode b_X_giveTurn 1 = .ok (.iload_n 1, 1) := by decide +kernel
theorem d_X_giveTurn_2 : decode b_X_giveTurn 2 = .ok (.invokevirtual 45, 3) := by decide +kernel
theorem d_X_giveTurn_5 : decode b_X_giveTurn 5 = .ok (.astore_n 2, 1) := by decide +kernel
theorem d_X_giveTurn_6 : decode b_X_giveTurn 6 = .ok (.aload_n 2, 1) := by decide +kernel
theorem d_X_giveTurn_7 : decode b_X_giveTurn 7 = .ok (.ifnonnull 5, 3) := by decide +kernel
theorem d_X_giveTurn_10 : decode b_X_giveTurn 10 = .ok (.iconst 0, 1) := by decide +kernel
theorem d_X_giveTurn_11 : decode b_X_giveTurn 11 = .ok (.ireturn, 1) := by decide +kernel
theorem d_X_giveTurn_12 : decode b_X_giveTurn 12 = .ok (.aload_n 2, 1) := by decide +kernel
theorem d_X_giveTurn_13 : decode b_X_giveTurn 13 = .ok (.aload_n 0, 1) := by decide +kernel
theorem d_X_giveTurn_14 : decode b_X_giveTurn 14 = .ok (.getfield 18, 3) := by decide +kernel
theorem d_X_giveTurn_17 : decode b_X_giveTurn 17 = .ok (.invokevirtual 129, 3) := by decide +kernel
theorem d_X_giveTurn_20 : decode b_X_giveTurn 20 = .ok (.istore_n 3, 1) := by decide +kernel
theorem d_X_giveTurn_21 : decode b_X_giveTurn 21 = .ok (.iload_n 3, 1) := by decide +kernel
theorem d_X_giveTurn_22 : decode b_X_giveTurn 22 = .ok (.iconst 1, 1) := by decide +kernel
theorem d_X_giveTurn_23 : decode b_X_giveTurn 23 = .ok (.if_icmp .ne 20, 3) := by decide +kernel
theorem d_X_giveTurn_26 : decode b_X_giveTurn 26 = .ok (.aload_n 0, 1) := by decide +kernel
theorem d_X_giveTurn_27 : decode b_X_giveTurn 27 = .ok (.getfield 31, 3) := by decide +kernel
theorem d_X_giveTurn_30 : decode b_X_giveTurn 30 = .ok (.sipush 1000, 3) := by decide +kernel
theorem d_X_giveTurn_33 : decode b_X_giveTurn 33 = .ok (.iload_n 1, 1) := by decide +kernel
theorem d_X_giveTurn_34 : decode b_X_giveTurn 34 = .ok (.imul, 1) := by decide +kernel
theorem d_X_giveTurn_35 : decode b_X_giveTurn 35 = .ok (.aload_n 2, 1) := by decide +kernel
theorem d_X_giveTurn_36 : decode b_X_giveTurn 36 = .ok (.getfield 126, 3) := by decide +kernel
theorem d_X_giveTurn_39 : decode b_X_giveTurn 39 = .ok (.iadd, 1) := by decide +kernel
theorem d_X_giveTurn_40 : decode b_X_giveTurn 40 = .ok (.invokevirtual 73, 3) := by decide +kernel
theorem d_X_giveTurn_43 : decode b_X_giveTurn 43 = .ok (.iload_n 3, 1) := by decide +kernel
theorem d_X_giveTurn_44 : decode b_X_giveTurn 44 = .ok (.ireturn, 1) := by decide +kernel
theorem d_X_giveRounds_0 : decode b_X_giveRounds 0 = .ok (.iconst 1, 1) := by decide +kernel
theorem d_X_giveRounds_1 : decode b_X_giveRounds 1 = .ok (.istore_n 1, 1) := by decide +kernel
theorem d_X_giveRounds_2 : decode b_X_giveRounds 2 = .ok (.iconst 0, 1) := by decide +kernel
theorem d_X_giveRounds_3 : decode b_X_giveRounds 3 = .ok (.istore_n 2, 1) := by decide +kernel
theorem d_X_giveRounds_4 : decode b_X_giveRounds 4 = .ok (.iload_n 1, 1) := by decide +kernel
theorem d_X_giveRounds_5 : decode b_X_giveRounds 5 = .ok (.ifCond .eq 21, 3) := by decide +kernel
theorem d_X_giveRounds_8 : decode b_X_giveRounds 8 = .ok (.iload_n 2, 1) := by decide +kernel
theorem d_X_giveRounds_9 : decode b_X_giveRounds 9 = .ok (.sipush 3031, 3) := by decide +kernel
theorem d_X_giveRounds_12 : decode b_X_giveRounds 12 = .ok (.if_icmp .ge 14, 3) := by decide +kernel
theorem d_X_giveRounds_15 : decode b_X_giveRounds 15 = .ok (.aload_n 0, 1) := by decide +kernel
theorem d_X_giveRounds_16 : decode b_X_giveRounds 16 = .ok (.invokevirtual 133, 3) := by decide +kernel
theorem d_X_giveRounds_19 : decode b_X_giveRounds 19 = .ok (.istore_n 1, 1) := by decide +kernel
theorem d_X_giveRounds_20 : decode b_X_giveRounds 20 = .ok (.iinc 2 1, 3) := by decide +kernel
theorem d_X_giveRounds_23 : decode b_X_giveRounds 23 = .ok (.goto (-19), 3) := by decide +kernel
theorem d_X_giveRounds_26 : decode b_X_giveRounds 26 = .ok (.return_, 1) := by decide +kernel
theorem d_X_giveOneRound_0 : decode b_X_giveOneRound 0 = .ok (.iconst 0, 1) := by decide +kernel
theorem d_X_giveOneRound_1 : decode b_X_giveOneRound 1 = .ok (.istore_n 1, 1) := by decide +kernel
theorem d_X_giveOneRound_2 : decode b_X_giveOneRound 2 = .ok (.iconst 1, 1) := by decide +kernel
theorem d_X_giveOneRound_3 : decode b_X_giveOneRound 3 = .ok (.istore_n 2, 1) := by decide +kernel
theorem d_X_giveOneRound_4 : decode b_X_giveOneRound 4 = .ok (.iload_n 2, 1) := by decide +kernel
theorem d_X_giveOneRound_5 : decode b_X_giveOneRound 5 = .ok (.aload_n 0, 1) := by decide +kernel
theorem d_X_giveOneRound_6 : decode b_X_giveOneRound 6 = .ok (.getfield 38, 3) := by decide +kernel
theorem d_X_giveOneRound_9 : decode b_X_giveOneRound 9 = .ok (.if_icmp .gt 19, 3) := by decide +kernel
theorem d_X_giveOneRound_12 : decode b_X_giveOneRound 12 = .ok (.aload_n 0, 1) := by decide +kernel
theorem d_X_giveOneRound_13 : decode b_X_giveOneRound 13 = .ok (.iload_n 2, 1) := by decide +kernel
theorem d_X_giveOneRound_14 : decode b_X_giveOneRound 14 = .ok (.invokevirtual 82, 3) := by decide +kernel
theorem d_X_giveOneRound_17 : decode b_X_giveOneRound 17 = .ok (.ifCond .eq 5, 3) := by decide +kernel
theorem d_X_giveOneRound_20 : decode b_X_giveOneRound 20 = .ok (.iconst 1, 1) := by decide +kernel
theorem d_X_giveOneRound_21 : decode b_X_giveOneRound 21 = .ok (.istore_n 1, 1) := by decide +kernel
theorem d_X_giveOneRound_22 : decode b_X_giveOneRound 22 = .ok (.iinc 2 1, 3) := by decide +kernel
theorem d_X_giveOneRound_25 : decode b_X_giveOneRound 25 = .ok (.goto (-21), 3) := by decide +kernel
theorem d_X_giveOneRound_28 : decode b_X_giveOneRound 28 = .ok (.iload_n 1, 1) := by decide +kernel
theorem d_X_giveOneRound_29 : decode b_X_giveOneRound 29 = .ok (.ireturn, 1) := by decide +kernel
theorem d_X_cancelThoseThatMay_0 : decode b_X_cancelThoseThatMay 0 = .ok (.iconst 1, 1) := by decide +kernel
theorem d_X_cancelThoseThatMay_1 : decode b_X_cancelThoseThatMay 1 = .ok (.istore_n 1, 1) := by decide +kernel
theorem d_X_cancelThoseThatMay_2 : decode b_X_cancelThoseThatMay 2 = .ok (.iload_n 1, 1) := by decide +kernel
theorem d_X_cancelThoseThatMay_3 : decode b_X_cancelThoseThatMay 3 = .ok (.aload_n 0, 1) := by decide +kernel
theorem d_X_cancelThoseThatMay_4 : decode b_X_cancelThoseThatMay 4 = .ok (.getfield 38, 3) := by decide +kernel
theorem d_X_cancelThoseThatMay_7 : decode b_X_cancelThoseThatMay 7 = .ok (.if_icmp .gt 38, 3) := by decide +kernel
theorem d_X_cancelThoseThatMay_10 : decode b_X_cancelThoseThatMay 10 = .ok (.aload_n 0, 1) := by decide +kernel
theorem d_X_cancelThoseThatMay_11 : decode b_X_cancelThoseThatMay 11 = .ok (.iload_n 1, 1) := by decide +kernel
theorem d_X_cancelThoseThatMay_12 : decode b_X_cancelThoseThatMay 12 = .ok (.invokevirtual 45, 3) := by decide +kernel
theorem d_X_cancelThoseThatMay_15 : decode b_X_cancelThoseThatMay 15 = .ok (.astore_n 2, 1) := by decide +kernel
theorem d_X_cancelThoseThatMay_16 : decode b_X_cancelThoseThatMay 16 = .ok (.aload_n 2, 1) := by decide +kernel
theorem d_X_cancelThoseThatMay_17 : decode b_X_cancelThoseThatMay 17 = .ok (.ifnull 22, 3) := by decide +kernel
theorem d_X_cancelThoseThatMay_20 : decode b_X_cancelThoseThatMay 20 = .ok (.aload_n 2, 1) := by decide +kernel
theorem d_X_cancelThoseThatMay_21 : decode b_X_cancelThoseThatMay 21 = .ok (.invokevirtual 91, 3) := by decide +kernel
theorem d_X_cancelThoseThatMay_24 : decode b_X_cancelThoseThatMay 24 = .ok (.ifCond .eq 15, 3) := by decide +kernel
theorem d_X_cancelThoseThatMay_27 : decode b_X_cancelThoseThatMay 27 = .ok (.aload_n 2, 1) := by decide +kernel
theorem d_X_cancelThoseThatMay_28 : decode b_X_cancelThoseThatMay 28 = .ok (.invokevirtual 136, 3) := by decide +kernel
theorem d_X_cancelThoseThatMay_31 : decode b_X_cancelThoseThatMay 31 = .ok (.ifCond .ne 8, 3) := by decide +kernel
theorem d_X_cancelThoseThatMay_34 : decode b_X_cancelThoseThatMay 34 = .ok (.aload_n 2, 1) := by decide +kernel
theorem d_X_cancelThoseThatMay_35 : decode b_X_cancelThoseThatMay 35 = .ok (.iconst 3, 1) := by decide +kernel
theorem d_X_cancelThoseThatMay_36 : decode b_X_cancelThoseThatMay 36 = .ok (.invokevirtual 139, 3) := by decide +kernel
theorem d_X_cancelThoseThatMay_39 : decode b_X_cancelThoseThatMay 39 = .ok (.iinc 1 1, 3) := by decide +kernel
theorem d_X_cancelThoseThatMay_42 : decode b_X_cancelThoseThatMay 42 = .ok (.goto (-40), 3) := by decide +kernel
theorem d_X_cancelThoseThatMay_45 : decode b_X_cancelThoseThatMay 45 = .ok (.return_, 1) := by decide +kernel
theorem d_X_countOpenUnits_0 : decode b_X_countOpenUnits 0 = .ok (.iconst 0, 1) := by decide +kernel
theorem d_X_countOpenUnits_1 : decode b_X_countOpenUnits 1 = .ok (.istore_n 1, 1) := by decide +kernel
theorem d_X_countOpenUnits_2 : decode b_X_countOpenUnits 2 = .ok (.iconst 1, 1) := by decide +kernel
theorem d_X_countOpenUnits_3 : decode b_X_countOpenUnits 3 = .ok (.istore_n 2, 1) := by decide +kernel
theorem d_X_countOpenUnits_4 : decode b_X_countOpenUnits 4 = .ok (.iload_n 2, 1) := by decide +kernel
theorem d_X_countOpenUnits_5 : decode b_X_countOpenUnits 5 = .ok (.aload_n 0, 1) := by decide +kernel
theorem d_X_countOpenUnits_6 : decode b_X_countOpenUnits 6 = .ok (.getfield 38, 3) := by decide +kernel
theorem d_X_countOpenUnits_9 : decode b_X_countOpenUnits 9 = .ok (.if_icmp .gt 36, 3) := by decide +kernel
theorem d_X_countOpenUnits_12 : decode b_X_countOpenUnits 12 = .ok (.aload_n 0, 1) := by decide +kernel
theorem d_X_countOpenUnits_13 : decode b_X_countOpenUnits 13 = .ok (.iload_n 2, 1) := by decide +kernel
theorem d_X_countOpenUnits_14 : decode b_X_countOpenUnits 14 = .ok (.invokevirtual 45, 3) := by decide +kernel
theorem d_X_countOpenUnits_17 : decode b_X_countOpenUnits 17 = .ok (.astore_n 3, 1) := by decide +kernel
theorem d_X_countOpenUnits_18 : decode b_X_countOpenUnits 18 = .ok (.aload_n 3, 1) := by decide +kernel
theorem d_X_countOpenUnits_19 : decode b_X_countOpenUnits 19 = .ok (.ifnull 20, 3) := by decide +kernel
theorem d_X_countOpenUnits_22 : decode b_X_countOpenUnits 22 = .ok (.aload_n 3, 1) := by decide +kernel
theorem d_X_countOpenUnits_23 : decode b_X_countOpenUnits 23 = .ok (.invokevirtual 91, 3) := by decide +kernel
theorem d_X_countOpenUnits_26 : decode b_X_countOpenUnits 26 = .ok (.ifCond .eq 13, 3) := by decide +kernel
theorem d_X_countOpenUnits_29 : decode b_X_countOpenUnits 29 = .ok (.aload_n 3, 1) := by decide +kernel
theorem d_X_countOpenUnits_30 : decode b_X_countOpenUnits 30 = .ok (.invokevirtual 142, 3) := by decide +kernel
theorem d_X_countOpenUnits_33 : decode b_X_countOpenUnits 33 = .ok (.ifCond .le 6, 3) := by decide +kernel
theorem d_X_countOpenUnits_36 : decode b_X_countOpenUnits 36 = .ok (.iinc 1 1, 3) := by decide +kernel
theorem d_X_countOpenUnits_39 : decode b_X_countOpenUnits 39 = .ok (.iinc 2 1, 3) := by decide +kernel
theorem d_X_countOpenUnits_42 : decode b_X_countOpenUnits 42 = .ok (.goto (-38), 3) := by decide +kernel
theorem d_X_countOpenUnits_45 : decode b_X_countOpenUnits 45 = .ok (.iload_n 1, 1) := by decide +kernel
theorem d_X_countOpenUnits_46 : decode b_X_countOpenUnits 46 = .ok (.ireturn, 1) := by decide +kernel
theorem d_X_countGoingOn_0 : decode b_X_countGoingOn 0 = .ok (.iconst 0, 1) := by decide +kernel
theorem d_X_countGoingOn_1 : decode b_X_countGoingOn 1 = .ok (.istore_n 1, 1) := by decide +kernel
theorem d_X_countGoingOn_2 : decode b_X_countGoingOn 2 = .ok (.iconst 1, 1) := by decide +kernel
theorem d_X_countGoingOn_3 : decode b_X_countGoingOn 3 = .ok (.istore_n 2, 1) := by decide +kernel
theorem d_X_countGoingOn_4 : decode b_X_countGoingOn 4 = .ok (.iload_n 2, 1) := by decide +kernel
theorem d_X_countGoingOn_5 : decode b_X_countGoingOn 5 = .ok (.aload_n 0, 1) := by decide +kernel
theorem d_X_countGoingOn_6 : decode b_X_countGoingOn 6 = .ok (.getfield 38, 3) := by decide +kernel
theorem d_X_countGoingOn_9 : decode b_X_countGoingOn 9 = .ok (.if_icmp .gt 29, 3) := by decide +kernel
theorem d_X_countGoingOn_12 : decode b_X_countGoingOn 12 = .ok (.aload_n 0, 1) := by decide +kernel
theorem d_X_countGoingOn_13 : decode b_X_countGoingOn 13 = .ok (.iload_n 2, 1) := by decide +kernel
theorem d_X_countGoingOn_14 : decode b_X_countGoingOn 14 = .ok (.invokevirtual 45, 3) := by decide +kernel
theorem d_X_countGoingOn_17 : decode b_X_countGoingOn 17 = .ok (.astore_n 3, 1) := by decide +kernel
theorem d_X_countGoingOn_18 : decode b_X_countGoingOn 18 = .ok (.aload_n 3, 1) := by decide +kernel
theorem d_X_countGoingOn_19 : decode b_X_countGoingOn 19 = .ok (.ifnull 13, 3) := by decide +kernel
theorem d_X_countGoingOn_22 : decode b_X_countGoingOn 22 = .ok (.aload_n 3, 1) := by decide +kernel
theorem d_X_countGoingOn_23 : decode b_X_countGoingOn 23 = .ok (.invokevirtual 91, 3) := by decide +kernel
theorem d_X_countGoingOn_26 : decode b_X_countGoingOn 26 = .ok (.ifCond .eq 6, 3) := by decide +kernel
theorem d_X_countGoingOn_29 : decode b_X_countGoingOn 29 = .ok (.iinc 1 1, 3) := by decide +kernel
theorem d_X_countGoingOn_32 : decode b_X_countGoingOn 32 = .ok (.iinc 2 1, 3) := by decide +kernel
theorem d_X_countGoingOn_35 : decode b_X_countGoingOn 35 = .ok (.goto (-31), 3) := by decide +kernel
theorem d_X_countGoingOn_38 : decode b_X_countGoingOn 38 = .ok (.iload_n 1, 1) := by decide +kernel
theorem d_X_countGoingOn_39 : decode b_X_countGoingOn 39 = .ok (.ireturn, 1) := by decide +kernel
theorem d_X_leaveAll_0 : decode b_X_leaveAll 0 = .ok (.iconst 1, 1) := by decide +kernel
theorem d_X_leaveAll_1 : decode b_X_leaveAll 1 = .ok (.istore_n 1, 1) := by decide +kernel
theorem d_X_leaveAll_2 : decode b_X_leaveAll 2 = .ok (.iload_n 1, 1) := by decide +kernel
theorem d_X_leaveAll_3 : decode b_X_leaveAll 3 = .ok (.aload_n 0, 1) := by decide +kernel
theorem d_X_leaveAll_4 : decode b_X_leaveAll 4 = .ok (.getfield 38, 3) := by decide +kernel
theorem d_X_leaveAll_7 : decode b_X_leaveAll 7 = .ok (.if_icmp .gt 31, 3) := by decide +kernel
theorem d_X_leaveAll_10 : decode b_X_leaveAll 10 = .ok (.aload_n 0, 1) := by decide +kernel
theorem d_X_leaveAll_11 : decode b_X_leaveAll 11 = .ok (.iload_n 1, 1) := by decide +kernel
theorem d_X_leaveAll_12 : decode b_X_leaveAll 12 = .ok (.invokevirtual 45, 3) := by decide +kernel
theorem d_X_leaveAll_15 : decode b_X_leaveAll 15 = .ok (.astore_n 2, 1) := by decide +kernel
theorem d_X_leaveAll_16 : decode b_X_leaveAll 16 = .ok (.aload_n 2, 1) := by decide +kernel
theorem d_X_leaveAll_17 : decode b_X_leaveAll 17 = .ok (.ifnull 15, 3) := by decide +kernel
theorem d_X_leaveAll_20 : decode b_X_leaveAll 20 = .ok (.aload_n 2, 1) := by decide +kernel
theorem d_X_leaveAll_21 : decode b_X_leaveAll 21 = .ok (.invokevirtual 91, 3) := by decide +kernel
theorem d_X_leaveAll_24 : decode b_X_leaveAll 24 = .ok (.ifCond .eq 8, 3) := by decide +kernel
theorem d_X_leaveAll_27 : decode b_X_leaveAll 27 = .ok (.aload_n 2, 1) := by decide +kernel
theorem d_X_leaveAll_28 : decode b_X_leaveAll 28 = .ok (.iconst 4, 1) := by decide +kernel
theorem d_X_leaveAll_29 : decode b_X_leaveAll 29 = .ok (.putfield 120, 3) := by decide +kernel
theorem d_X_leaveAll_32 : decode b_X_leaveAll 32 = .ok (.iinc 1 1, 3) := by decide +kernel
theorem d_X_leaveAll_35 : decode b_X_leaveAll 35 = .ok (.goto (-33), 3) := by decide +kernel
theorem d_X_leaveAll_38 : decode b_X_leaveAll 38 = .ok (.return_, 1) := by decide +kernel
