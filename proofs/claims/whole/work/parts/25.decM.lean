theorem d_M_init_0 : decode b_M_init 0 = .ok (.aload_n 0, 1) := by decide +kernel
theorem d_M_init_1 : decode b_M_init 1 = .ok (.invokespecial 1, 3) := by decide +kernel
theorem d_M_init_4 : decode b_M_init 4 = .ok (.aload_n 0, 1) := by decide +kernel
theorem d_M_init_5 : decode b_M_init 5 = .ok (.bipush 31, 2) := by decide +kernel
theorem d_M_init_7 : decode b_M_init 7 = .ok (.newarray .int, 2) := by decide +kernel
theorem d_M_init_9 : decode b_M_init 9 = .ok (.putfield 7, 3) := by decide +kernel
theorem d_M_init_12 : decode b_M_init 12 = .ok (.aload_n 0, 1) := by decide +kernel
theorem d_M_init_13 : decode b_M_init 13 = .ok (.bipush 31, 2) := by decide +kernel
theorem d_M_init_15 : decode b_M_init 15 = .ok (.newarray .int, 2) := by decide +kernel
theorem d_M_init_17 : decode b_M_init 17 = .ok (.putfield 13, 3) := by decide +kernel
theorem d_M_init_20 : decode b_M_init 20 = .ok (.aload_n 0, 1) := by decide +kernel
theorem d_M_init_21 : decode b_M_init 21 = .ok (.bipush 31, 2) := by decide +kernel
theorem d_M_init_23 : decode b_M_init 23 = .ok (.newarray .int, 2) := by decide +kernel
theorem d_M_init_25 : decode b_M_init 25 = .ok (.putfield 16, 3) := by decide +kernel
theorem d_M_init_28 : decode b_M_init 28 = .ok (.aload_n 0, 1) := by decide +kernel
theorem d_M_init_29 : decode b_M_init 29 = .ok (.bipush 31, 2) := by decide +kernel
theorem d_M_init_31 : decode b_M_init 31 = .ok (.newarray .int, 2) := by decide +kernel
theorem d_M_init_33 : decode b_M_init 33 = .ok (.putfield 19, 3) := by decide +kernel
theorem d_M_init_36 : decode b_M_init 36 = .ok (.aload_n 0, 1) := by decide +kernel
theorem d_M_init_37 : decode b_M_init 37 = .ok (.bipush 31, 2) := by decide +kernel
theorem d_M_init_39 : decode b_M_init 39 = .ok (.newarray .int, 2) := by decide +kernel
theorem d_M_init_41 : decode b_M_init 41 = .ok (.putfield 22, 3) := by decide +kernel
theorem d_M_init_44 : decode b_M_init 44 = .ok (.aload_n 0, 1) := by decide +kernel
theorem d_M_init_45 : decode b_M_init 45 = .ok (.bipush 31, 2) := by decide +kernel
theorem d_M_init_47 : decode b_M_init 47 = .ok (.newarray .int, 2) := by decide +kernel
theorem d_M_init_49 : decode b_M_init 49 = .ok (.putfield 25, 3) := by decide +kernel
theorem d_M_init_52 : decode b_M_init 52 = .ok (.aload_n 0, 1) := by decide +kernel
theorem d_M_init_53 : decode b_M_init 53 = .ok (.bipush 31, 2) := by decide +kernel
theorem d_M_init_55 : decode b_M_init 55 = .ok (.newarray .int, 2) := by decide +kernel
theorem d_M_init_57 : decode b_M_init 57 = .ok (.putfield 28, 3) := by decide +kernel
theorem d_M_init_60 : decode b_M_init 60 = .ok (.aload_n 0, 1) := by decide +kernel
theorem d_M_init_61 : decode b_M_init 61 = .ok (.bipush 31, 2) := by decide +kernel
theorem d_M_init_63 : decode b_M_init 63 = .ok (.newarray .int, 2) := by decide +kernel
theorem d_M_init_65 : decode b_M_init 65 = .ok (.putfield 31, 3) := by decide +kernel
theorem d_M_init_68 : decode b_M_init 68 = .ok (.aload_n 0, 1) := by decide +kernel
theorem d_M_init_69 : decode b_M_init 69 = .ok (.bipush 31, 2) := by decide +kernel
theorem d_M_init_71 : decode b_M_init 71 = .ok (.newarray .boolean, 2) := by decide +kernel
theorem d_M_init_73 : decode b_M_init 73 = .ok (.putfield 34, 3) := by decide +kernel
theorem d_M_init_76 : decode b_M_init 76 = .ok (.aload_n 0, 1) := by decide +kernel
theorem d_M_init_77 : decode b_M_init 77 = .ok (.sipush 620, 3) := by decide +kernel
theorem d_M_init_80 : decode b_M_init 80 = .ok (.newarray .boolean, 2) := by decide +kernel
theorem d_M_init_82 : decode b_M_init 82 = .ok (.putfield 38, 3) := by decide +kernel
theorem d_M_init_85 : decode b_M_init 85 = .ok (.aload_n 0, 1) := by decide +kernel
theorem d_M_init_86 : decode b_M_init 86 = .ok (.sipush 3131, 3) := by decide +kernel
theorem d_M_init_89 : decode b_M_init 89 = .ok (.newarray .int, 2) := by decide +kernel
theorem d_M_init_91 : decode b_M_init 91 = .ok (.putfield 41, 3) := by decide +kernel
theorem d_M_init_94 : decode b_M_init 94 = .ok (.aload_n 0, 1) := by decide +kernel
theorem d_M_init_95 : decode b_M_init 95 = .ok (.sipush 620, 3) := by decide +kernel
theorem d_M_init_98 : decode b_M_init 98 = .ok (.newarray .int, 2) := by decide +kernel
theorem d_M_init_100 : decode b_M_init 100 = .ok (.putfield 44, 3) := by decide +kernel
theorem d_M_init_103 : decode b_M_init 103 = .ok (.aload_n 0, 1) := by decide +kernel
theorem d_M_init_104 : decode b_M_init 104 = .ok (.sipush 620, 3) := by decide +kernel
theorem d_M_init_107 : decode b_M_init 107 = .ok (.newarray .int, 2) := by decide +kernel
theorem d_M_init_109 : decode b_M_init 109 = .ok (.putfield 47, 3) := by decide +kernel
theorem d_M_init_112 : decode b_M_init 112 = .ok (.aload_n 0, 1) := by decide +kernel
theorem d_M_init_113 : decode b_M_init 113 = .ok (.sipush 600, 3) := by decide +kernel
theorem d_M_init_116 : decode b_M_init 116 = .ok (.newarray .int, 2) := by decide +kernel
theorem d_M_init_118 : decode b_M_init 118 = .ok (.putfield 50, 3) := by decide +kernel
theorem d_M_init_121 : decode b_M_init 121 = .ok (.aload_n 0, 1) := by decide +kernel
theorem d_M_init_122 : decode b_M_init 122 = .ok (.bipush 16, 2) := by decide +kernel
theorem d_M_init_124 : decode b_M_init 124 = .ok (.newarray .int, 2) := by decide +kernel
theorem d_M_init_126 : decode b_M_init 126 = .ok (.putfield 53, 3) := by decide +kernel
theorem d_M_init_129 : decode b_M_init 129 = .ok (.aload_n 0, 1) := by decide +kernel
theorem d_M_init_130 : decode b_M_init 130 = .ok (.sipush 3100, 3) := by decide +kernel
theorem d_M_init_133 : decode b_M_init 133 = .ok (.newarray .int, 2) := by decide +kernel
theorem d_M_init_135 : decode b_M_init 135 = .ok (.putfield 56, 3) := by decide +kernel
theorem d_M_init_138 : decode b_M_init 138 = .ok (.return_, 1) := by decide +kernel
theorem d_M_isRegion_0 : decode b_M_isRegion 0 = .ok (.iload_n 1, 1) := by decide +kernel
theorem d_M_isRegion_1 : decode b_M_isRegion 1 = .ok (.ifCond .le 15, 3) := by decide +kernel
theorem d_M_isRegion_4 : decode b_M_isRegion 4 = .ok (.iload_n 1, 1) := by decide +kernel
theorem d_M_isRegion_5 : decode b_M_isRegion 5 = .ok (.aload_n 0, 1) := by decide +kernel
theorem d_M_isRegion_6 : decode b_M_isRegion 6 = .ok (.getfield 63, 3) := by decide +kernel
theorem d_M_isRegion_9 : decode b_M_isRegion 9 = .ok (.if_icmp .gt 7, 3) := by decide +kernel
theorem d_M_isRegion_12 : decode b_M_isRegion 12 = .ok (.iconst 1, 1) := by decide +kernel
theorem d_M_isRegion_13 : decode b_M_isRegion 13 = .ok (.goto 4, 3) := by decide +kernel
theorem d_M_isRegion_16 : decode b_M_isRegion 16 = .ok (.iconst 0, 1) := by decide +kernel
theorem d_M_isRegion_17 : decode b_M_isRegion 17 = .ok (.ireturn, 1) := by decide +kernel
theorem d_M_region_0 : decode b_M_region 0 = .ok (.aload_n 0, 1) := by decide +kernel
theorem d_M_region_1 : decode b_M_region 1 = .ok (.iconst 0, 1) := by decide +kernel
theorem d_M_region_2 : decode b_M_region 2 = .ok (.putfield 59, 3) := by decide +kernel
theorem d_M_region_5 : decode b_M_region 5 = .ok (.iload_n 1, 1) := by decide +kernel
theorem d_M_region_6 : decode b_M_region 6 = .ok (.iconst 1, 1) := by decide +kernel
theorem d_M_region_7 : decode b_M_region 7 = .ok (.if_icmp .lt 19, 3) := by decide +kernel
theorem d_M_region_10 : decode b_M_region 10 = .ok (.iload_n 1, 1) := by decide +kernel
theorem d_M_region_11 : decode b_M_region 11 = .ok (.bipush 100, 2) := by decide +kernel
theorem d_M_region_13 : decode b_M_region 13 = .ok (.if_icmp .gt 13, 3) := by decide +kernel
theorem d_M_region_16 : decode b_M_region 16 = .ok (.iload_n 2, 1) := by decide +kernel
theorem d_M_region_17 : decode b_M_region 17 = .ok (.ifCond .lt 9, 3) := by decide +kernel
theorem d_M_region_20 : decode b_M_region 20 = .ok (.iload_n 2, 1) := by decide +kernel
theorem d_M_region_21 : decode b_M_region 21 = .ok (.bipush 100, 2) := by decide +kernel
theorem d_M_region_23 : decode b_M_region 23 = .ok (.if_icmp .le 6, 3) := by decide +kernel
theorem d_M_region_26 : decode b_M_region 26 = .ok (.bipush (-4), 2) := by decide +kernel
theorem d_M_region_28 : decode b_M_region 28 = .ok (.ireturn, 1) := by decide +kernel
theorem d_M_region_29 : decode b_M_region 29 = .ok (.aload_n 0, 1) := by decide +kernel
theorem d_M_region_30 : decode b_M_region 30 = .ok (.getfield 66, 3) := by decide +kernel
theorem d_M_region_33 : decode b_M_region 33 = .ok (.ifCond .eq 6, 3) := by decide +kernel
theorem d_M_region_36 : decode b_M_region 36 = .ok (.bipush (-5), 2) := by decide +kernel
theorem d_M_region_38 : decode b_M_region 38 = .ok (.ireturn, 1) := by decide +kernel
theorem d_M_region_39 : decode b_M_region 39 = .ok (.aload_n 0, 1) := by decide +kernel
theorem d_M_region_40 : decode b_M_region 40 = .ok (.getfield 63, 3) := by decide +kernel
theorem d_M_region_43 : decode b_M_region 43 = .ok (.bipush 30, 2) := by decide +kernel
theorem d_M_region_45 : decode b_M_region 45 = .ok (.if_icmp .ne 5, 3) := by decide +kernel
theorem d_M_region_48 : decode b_M_region 48 = .ok (.iconst (-1), 1) := by decide +kernel
theorem d_M_region_49 : decode b_M_region 49 = .ok (.ireturn, 1) := by decide +kernel
theorem d_M_region_50 : decode b_M_region 50 = .ok (.aload_n 0, 1) := by decide +kernel
theorem d_M_region_51 : decode b_M_region 51 = .ok (.dup, 1) := by decide +kernel
theorem d_M_region_52 : decode b_M_region 52 = .ok (.getfield 63, 3) := by decide +kernel
theorem d_M_region_55 : decode b_M_region 55 = .ok (.iconst 1, 1) := by decide +kernel
theorem d_M_region_56 : decode b_M_region 56 = .ok (.iadd, 1) := by decide +kernel
theorem d_M_region_57 : decode b_M_region 57 = .ok (.putfield 63, 3) := by decide +kernel
theorem d_M_region_60 : decode b_M_region 60 = .ok (.aload_n 0, 1) := by decide +kernel
theorem d_M_region_61 : decode b_M_region 61 = .ok (.getfield 7, 3) := by decide +kernel
theorem d_M_region_64 : decode b_M_region 64 = .ok (.aload_n 0, 1) := by decide +kernel
theorem d_M_region_65 : decode b_M_region 65 = .ok (.getfield 63, 3) := by decide +kernel
theorem d_M_region_68 : decode b_M_region 68 = .ok (.iload_n 1, 1) := by decide +kernel
theorem d_M_region_69 : decode b_M_region 69 = .ok (.iastore, 1) := by decide +kernel
theorem d_M_region_70 : decode b_M_region 70 = .ok (.aload_n 0, 1) := by decide +kernel
theorem d_M_region_71 : decode b_M_region 71 = .ok (.getfield 13, 3) := by decide +kernel
theorem d_M_region_74 : decode b_M_region 74 = .ok (.aload_n 0, 1) := by decide +kernel
theorem d_M_region_75 : decode b_M_region 75 = .ok (.getfield 63, 3) := by decide +kernel
theorem d_M_region_78 : decode b_M_region 78 = .ok (.iload_n 2, 1) := by decide +kernel
theorem d_M_region_79 : decode b_M_region 79 = .ok (.iastore, 1) := by decide +kernel
theorem d_M_region_80 : decode b_M_region 80 = .ok (.aload_n 0, 1) := by decide +kernel
theorem d_M_region_81 : decode b_M_region 81 = .ok (.getfield 63, 3) := by decide +kernel
theorem d_M_region_84 : decode b_M_region 84 = .ok (.ireturn, 1) := by decide +kernel
theorem d_M_waits_0 : decode b_M_waits 0 = .ok (.aload_n 0, 1) := by decide +kernel
theorem d_M_waits_1 : decode b_M_waits 1 = .ok (.iconst 0, 1) := by decide +kernel
theorem d_M_waits_2 : decode b_M_waits 2 = .ok (.putfield 59, 3) := by decide +kernel
theorem d_M_waits_5 : decode b_M_waits 5 = .ok (.aload_n 0, 1) := by decide +kernel
theorem d_M_waits_6 : decode b_M_waits 6 = .ok (.iload_n 1, 1) := by decide +kernel
theorem d_M_waits_7 : decode b_M_waits 7 = .ok (.invokevirtual 70, 3) := by decide +kernel
theorem d_M_waits_10 : decode b_M_waits 10 = .ok (.ifCond .ne 6, 3) := by decide +kernel
theorem d_M_waits_13 : decode b_M_waits 13 = .ok (.bipush (-2), 2) := by decide +kernel
theorem d_M_waits_15 : decode b_M_waits 15 = .ok (.ireturn, 1) := by decide +kernel
theorem d_M_waits_16 : decode b_M_waits 16 = .ok (.iload_n 2, 1) := by decide +kernel
theorem d_M_waits_17 : decode b_M_waits 17 = .ok (.iconst 1, 1) := by decide +kernel
theorem d_M_waits_18 : decode b_M_waits 18 = .ok (.if_icmp .lt 23, 3) := by decide +kernel
theorem d_M_waits_21 : decode b_M_waits 21 = .ok (.iload_n 2, 1) := by decide +kernel
theorem d_M_waits_22 : decode b_M_waits 22 = .ok (.aload_n 0, 1) := by decide +kernel
theorem d_M_waits_23 : decode b_M_waits 23 = .ok (.getfield 7, 3) := by decide +kernel
theorem d_M_waits_26 : decode b_M_waits 26 = .ok (.iload_n 1, 1) := by decide +kernel
theorem d_M_waits_27 : decode b_M_waits 27 = .ok (.iaload, 1) := by decide +kernel
theorem d_M_waits_28 : decode b_M_waits 28 = .ok (.if_icmp .gt 13, 3) := by decide +kernel
theorem d_M_waits_31 : decode b_M_waits 31 = .ok (.iload_n 3, 1) := by decide +kernel
theorem d_M_waits_32 : decode b_M_waits 32 = .ok (.ifCond .lt 9, 3) := by decide +kernel
theorem d_M_waits_35 : decode b_M_waits 35 = .ok (.iload_n 3, 1) := by decide +kernel
theorem d_M_waits_36 : decode b_M_waits 36 = .ok (.bipush 15, 2) := by decide +kernel
theorem d_M_waits_38 : decode b_M_waits 38 = .ok (.if_icmp .le 6, 3) := by decide +kernel
theorem d_M_waits_41 : decode b_M_waits 41 = .ok (.bipush (-4), 2) := by decide +kernel
theorem d_M_waits_43 : decode b_M_waits 43 = .ok (.ireturn, 1) := by decide +kernel
theorem d_M_waits_44 : decode b_M_waits 44 = .ok (.aload_n 0, 1) := by decide +kernel
theorem d_M_waits_45 : decode b_M_waits 45 = .ok (.getfield 19, 3) := by decide +kernel
theorem d_M_waits_48 : decode b_M_waits 48 = .ok (.iload_n 1, 1) := by decide +kernel
theorem d_M_waits_49 : decode b_M_waits 49 = .ok (.iaload, 1) := by decide +kernel
theorem d_M_waits_50 : decode b_M_waits 50 = .ok (.iload_n 2, 1) := by decide +kernel
theorem d_M_waits_51 : decode b_M_waits 51 = .ok (.if_icmp .ge 12, 3) := by decide +kernel
theorem d_M_waits_54 : decode b_M_waits 54 = .ok (.aload_n 0, 1) := by decide +kernel
theorem d_M_waits_55 : decode b_M_waits 55 = .ok (.getfield 16, 3) := by decide +kernel
theorem d_M_waits_58 : decode b_M_waits 58 = .ok (.iload_n 1, 1) := by decide +kernel
theorem d_M_waits_59 : decode b_M_waits 59 = .ok (.iaload, 1) := by decide +kernel
theorem d_M_waits_60 : decode b_M_waits 60 = .ok (.ifCond .eq 6, 3) := by decide +kernel
theorem d_M_waits_63 : decode b_M_waits 63 = .ok (.bipush (-5), 2) := by decide +kernel
theorem d_M_waits_65 : decode b_M_waits 65 = .ok (.ireturn, 1) := by decide +kernel
theorem d_M_waits_66 : decode b_M_waits 66 = .ok (.aload_n 0, 1) := by decide +kernel
theorem d_M_waits_67 : decode b_M_waits 67 = .ok (.getfield 31, 3) := by decide +kernel
theorem d_M_waits_70 : decode b_M_waits 70 = .ok (.iload_n 1, 1) := by decide +kernel
theorem d_M_waits_71 : decode b_M_waits 71 = .ok (.iaload, 1) := by decide +kernel
theorem d_M_waits_72 : decode b_M_waits 72 = .ok (.bipush 20, 2) := by decide +kernel
theorem d_M_waits_74 : decode b_M_waits 74 = .ok (.if_icmp .ne 5, 3) := by decide +kernel
theorem d_M_waits_77 : decode b_M_waits 77 = .ok (.iconst (-1), 1) := by decide +kernel
theorem d_M_waits_78 : decode b_M_waits 78 = .ok (.ireturn, 1) := by decide +kernel
theorem d_M_waits_79 : decode b_M_waits 79 = .ok (.aload_n 0, 1) := by decide +kernel
theorem d_M_waits_80 : decode b_M_waits 80 = .ok (.getfield 44, 3) := by decide +kernel
theorem d_M_waits_83 : decode b_M_waits 83 = .ok (.bipush 20, 2) := by decide +kernel
theorem d_M_waits_85 : decode b_M_waits 85 = .ok (.iload_n 1, 1) := by decide +kernel
theorem d_M_waits_86 : decode b_M_waits 86 = .ok (.imul, 1) := by decide +kernel
theorem d_M_waits_87 : decode b_M_waits 87 = .ok (.bipush 20, 2) := by decide +kernel
theorem d_M_waits_89 : decode b_M_waits 89 = .ok (.isub, 1) := by decide +kernel
theorem d_M_waits_90 : decode b_M_waits 90 = .ok (.aload_n 0, 1) := by decide +kernel
theorem d_M_waits_91 : decode b_M_waits 91 = .ok (.getfield 31, 3) := by decide +kernel
theorem d_M_waits_94 : decode b_M_waits 94 = .ok (.iload_n 1, 1) := by decide +kernel
theorem d_M_waits_95 : decode b_M_waits 95 = .ok (.iaload, 1) := by decide +kernel
theorem d_M_waits_96 : decode b_M_waits 96 = .ok (.iadd, 1) := by decide +kernel
theorem d_M_waits_97 : decode b_M_waits 97 = .ok (.iload_n 2, 1) := by decide +kernel
theorem d_M_waits_98 : decode b_M_waits 98 = .ok (.iastore, 1) := by decide +kernel
theorem d_M_waits_99 : decode b_M_waits 99 = .ok (.aload_n 0, 1) := by decide +kernel
theorem d_M_waits_100 : decode b_M_waits 100 = .ok (.getfield 47, 3) := by decide +kernel
theorem d_M_waits_103 : decode b_M_waits 103 = .ok (.bipush 20, 2) := by decide +kernel
theorem d_M_waits_105 : decode b_M_waits 105 = .ok (.iload_n 1, 1) := by decide +kernel
theorem d_M_waits_106 : decode b_M_waits 106 = .ok (.imul, 1) := by decide +kernel
theorem d_M_waits_107 : decode b_M_waits 107 = .ok (.bipush 20, 2) := by decide +kernel
theorem d_M_waits_109 : decode b_M_waits 109 = .ok (.isub, 1) := by decide +kernel
theorem d_M_waits_110 : decode b_M_waits 110 = .ok (.aload_n 0, 1) := by decide +kernel
theorem d_M_waits_111 : decode b_M_waits 111 = .ok (.getfield 31, 3) := by decide +kernel
theorem d_M_waits_114 : decode b_M_waits 114 = .ok (.iload_n 1, 1) := by decide +kernel
theorem d_M_waits_115 : decode b_M_waits 115 = .ok (.iaload, 1) := by decide +kernel
theorem d_M_waits_116 : decode b_M_waits 116 = .ok (.iadd, 1) := by decide +kernel
theorem d_M_waits_117 : decode b_M_waits 117 = .ok (.iload_n 3, 1) := by decide +kernel
theorem d_M_waits_118 : decode b_M_waits 118 = .ok (.iastore, 1) := by decide +kernel
theorem d_M_waits_119 : decode b_M_waits 119 = .ok (.aload_n 0, 1) := by decide +kernel
theorem d_M_waits_120 : decode b_M_waits 120 = .ok (.getfield 31, 3) := by decide +kernel
theorem d_M_waits_123 : decode b_M_waits 123 = .ok (.iload_n 1, 1) := by decide +kernel
theorem d_M_waits_124 : decode b_M_waits 124 = .ok (.dup2, 1) := by decide +kernel
theorem d_M_waits_125 : decode b_M_waits 125 = .ok (.iaload, 1) := by decide +kernel
theorem d_M_waits_126 : decode b_M_waits 126 = .ok (.iconst 1, 1) := by decide +kernel
theorem d_M_waits_127 : decode b_M_waits 127 = .ok (.iadd, 1) := by decide +kernel
theorem d_M_waits_128 : decode b_M_waits 128 = .ok (.iastore, 1) := by decide +kernel
theorem d_M_waits_129 : decode b_M_waits 129 = .ok (.aload_n 0, 1) := by decide +kernel
theorem d_M_waits_130 : decode b_M_waits 130 = .ok (.getfield 31, 3) := by decide +kernel
theorem d_M_waits_133 : decode b_M_waits 133 = .ok (.iload_n 1, 1) := by decide +kernel
theorem d_M_waits_134 : decode b_M_waits 134 = .ok (.iaload, 1) := by decide +kernel
theorem d_M_waits_135 : decode b_M_waits 135 = .ok (.ireturn, 1) := by decide +kernel
theorem d_M_post_0 : decode b_M_post 0 = .ok (.aload_n 0, 1) := by decide +kernel
theorem d_M_post_1 : decode b_M_post 1 = .ok (.iconst 0, 1) := by decide +kernel
theorem d_M_post_2 : decode b_M_post 2 = .ok (.putfield 59, 3) := by decide +kernel
theorem d_M_post_5 : decode b_M_post 5 = .ok (.iload_n 1, 1) := by decide +kernel
theorem d_M_post_6 : decode b_M_post 6 = .ok (.ifCond .lt 9, 3) := by decide +kernel
theorem d_M_post_9 : decode b_M_post 9 = .ok (.iload_n 1, 1) := by decide +kernel
theorem d_M_post_10 : decode b_M_post 10 = .ok (.bipush 15, 2) := by decide +kernel
theorem d_M_post_12 : decode b_M_post 12 = .ok (.if_icmp .le 6, 3) := by decide +kernel
theorem d_M_post_15 : decode b_M_post 15 = .ok (.bipush (-4), 2) := by decide +kernel
theorem d_M_post_17 : decode b_M_post 17 = .ok (.ireturn, 1) := by decide +kernel
theorem d_M_post_18 : decode b_M_post 18 = .ok (.aload_n 0, 1) := by decide +kernel
theorem d_M_post_19 : decode b_M_post 19 = .ok (.getfield 66, 3) := by decide +kernel
theorem d_M_post_22 : decode b_M_post 22 = .ok (.ifCond .eq 6, 3) := by decide +kernel
theorem d_M_post_25 : decode b_M_post 25 = .ok (.bipush (-5), 2) := by decide +kernel
theorem d_M_post_27 : decode b_M_post 27 = .ok (.ireturn, 1) := by decide +kernel
theorem d_M_post_28 : decode b_M_post 28 = .ok (.aload_n 0, 1) := by decide +kernel
theorem d_M_post_29 : decode b_M_post 29 = .ok (.getfield 53, 3) := by decide +kernel
theorem d_M_post_32 : decode b_M_post 32 = .ok (.iload_n 1, 1) := by decide +kernel
theorem d_M_post_33 : decode b_M_post 33 = .ok (.dup2, 1) := by decide +kernel
theorem d_M_post_34 : decode b_M_post 34 = .ok (.iaload, 1) := by decide +kernel
theorem d_M_post_35 : decode b_M_post 35 = .ok (.iconst 1, 1) := by decide +kernel
theorem d_M_post_36 : decode b_M_post 36 = .ok (.iadd, 1) := by decide +kernel
theorem d_M_post_37 : decode b_M_post 37 = .ok (.iastore, 1) := by decide +kernel
theorem d_M_post_38 : decode b_M_post 38 = .ok (.aload_n 0, 1) := by decide +kernel
theorem d_M_post_39 : decode b_M_post 39 = .ok (.getfield 53, 3) := by decide +kernel
theorem d_M_post_42 : decode b_M_post 42 = .ok (.iload_n 1, 1) := by decide +kernel
theorem d_M_post_43 : decode b_M_post 43 = .ok (.iaload, 1) := by decide +kernel
theorem d_M_post_44 : decode b_M_post 44 = .ok (.ireturn, 1) := by decide +kernel
theorem d_M_turn_0 : decode b_M_turn 0 = .ok (.aload_n 0, 1) := by decide +kernel
theorem d_M_turn_1 : decode b_M_turn 1 = .ok (.iconst 0, 1) := by decide +kernel
theorem d_M_turn_2 : decode b_M_turn 2 = .ok (.putfield 59, 3) := by decide +kernel
theorem d_M_turn_5 : decode b_M_turn 5 = .ok (.aload_n 0, 1) := by decide +kernel
theorem d_M_turn_6 : decode b_M_turn 6 = .ok (.getfield 66, 3) := by decide +kernel
theorem d_M_turn_9 : decode b_M_turn 9 = .ok (.ifCond .ne 21, 3) := by decide +kernel
theorem d_M_turn_12 : decode b_M_turn 12 = .ok (.aload_n 0, 1) := by decide +kernel
theorem d_M_turn_13 : decode b_M_turn 13 = .ok (.iload_n 1, 1) := by decide +kernel
theorem d_M_turn_14 : decode b_M_turn 14 = .ok (.invokevirtual 70, 3) := by decide +kernel
theorem d_M_turn_17 : decode b_M_turn 17 = .ok (.ifCond .eq 13, 3) := by decide +kernel
theorem d_M_turn_20 : decode b_M_turn 20 = .ok (.aload_n 0, 1) := by decide +kernel
theorem d_M_turn_21 : decode b_M_turn 21 = .ok (.getfield 74, 3) := by decide +kernel
theorem d_M_turn_24 : decode b_M_turn 24 = .ok (.sipush 600, 3) := by decide +kernel
theorem d_M_turn_27 : decode b_M_turn 27 = .ok (.if_icmp .ne 4, 3) := by decide +kernel
theorem d_M_turn_30 : decode b_M_turn 30 = .ok (.return_, 1) := by decide +kernel
theorem d_M_turn_31 : decode b_M_turn 31 = .ok (.aload_n 0, 1) := by decide +kernel
theorem d_M_turn_32 : decode b_M_turn 32 = .ok (.getfield 50, 3) := by decide +kernel
theorem d_M_turn_35 : decode b_M_turn 35 = .ok (.aload_n 0, 1) := by decide +kernel
theorem d_M_turn_36 : decode b_M_turn 36 = .ok (.getfield 74, 3) := by decide +kernel
theorem d_M_turn_39 : decode b_M_turn 39 = .ok (.iload_n 1, 1) := by decide +kernel
theorem d_M_turn_40 : decode b_M_turn 40 = .ok (.iastore, 1) := by decide +kernel
theorem d_M_turn_41 : decode b_M_turn 41 = .ok (.aload_n 0, 1) := by decide +kernel
theorem d_M_turn_42 : decode b_M_turn 42 = .ok (.dup, 1) := by decide +kernel
theorem d_M_turn_43 : decode b_M_turn 43 = .ok (.getfield 74, 3) := by decide +kernel
theorem d_M_turn_46 : decode b_M_turn 46 = .ok (.iconst 1, 1) := by decide +kernel
theorem d_M_turn_47 : decode b_M_turn 47 = .ok (.iadd, 1) := by decide +kernel
theorem d_M_turn_48 : decode b_M_turn 48 = .ok (.putfield 74, 3) := by decide +kernel
theorem d_M_turn_51 : decode b_M_turn 51 = .ok (.return_, 1) := by decide +kernel
theorem d_M_of_0 : decode b_M_of 0 = .ok (.bipush 101, 2) := by decide +kernel
theorem d_M_of_2 : decode b_M_of 2 = .ok (.iload_n 0, 1) := by decide +kernel
theorem d_M_of_3 : decode b_M_of 3 = .ok (.imul, 1) := by decide +kernel
theorem d_M_of_4 : decode b_M_of 4 = .ok (.iload_n 1, 1) := by decide +kernel
theorem d_M_of_5 : decode b_M_of 5 = .ok (.iadd, 1) := by decide +kernel
theorem d_M_of_6 : decode b_M_of 6 = .ok (.ireturn, 1) := by decide +kernel
theorem d_M_decision_0 : decode b_M_decision 0 = .ok (.aload_n 0, 1) := by decide +kernel
theorem d_M_decision_1 : decode b_M_decision 1 = .ok (.iconst 0, 1) := by decide +kernel
theorem d_M_decision_2 : decode b_M_decision 2 = .ok (.putfield 59, 3) := by decide +kernel
theorem d_M_decision_5 : decode b_M_decision 5 = .ok (.aload_n 0, 1) := by decide +kernel
theorem d_M_decision_6 : decode b_M_decision 6 = .ok (.iload_n 1, 1) := by decide +kernel
theorem d_M_decision_7 : decode b_M_decision 7 = .ok (.invokevirtual 70, 3) := by decide +kernel
theorem d_M_decision_10 : decode b_M_decision 10 = .ok (.ifCond .ne 6, 3) := by decide +kernel
theorem d_M_decision_13 : decode b_M_decision 13 = .ok (.bipush (-2), 2) := by decide +kernel
theorem d_M_decision_15 : decode b_M_decision 15 = .ok (.ireturn, 1) := by decide +kernel
theorem d_M_decision_16 : decode b_M_decision 16 = .ok (.iload_n 2, 1) := by decide +kernel
theorem d_M_decision_17 : decode b_M_decision 17 = .ok (.iconst 1, 1) := by decide +kernel
theorem d_M_decision_18 : decode b_M_decision 18 = .ok (.if_icmp .lt 13, 3) := by decide +kernel
theorem d_M_decision_21 : decode b_M_decision 21 = .ok (.iload_n 2, 1) := by decide +kernel
theorem d_M_decision_22 : decode b_M_decision 22 = .ok (.aload_n 0, 1) := by decide +kernel
theorem d_M_decision_23 : decode b_M_decision 23 = .ok (.getfield 7, 3) := by decide +kernel
theorem d_M_decision_26 : decode b_M_decision 26 = .ok (.iload_n 1, 1) := by decide +kernel
theorem d_M_decision_27 : decode b_M_decision 27 = .ok (.iaload, 1) := by decide +kernel
theorem d_M_decision_28 : decode b_M_decision 28 = .ok (.if_icmp .lt 6, 3) := by decide +kernel
theorem d_M_decision_31 : decode b_M_decision 31 = .ok (.bipush (-4), 2) := by decide +kernel
theorem d_M_decision_33 : decode b_M_decision 33 = .ok (.ireturn, 1) := by decide +kernel
theorem d_M_decision_34 : decode b_M_decision 34 = .ok (.aload_n 0, 1) := by decide +kernel
theorem d_M_decision_35 : decode b_M_decision 35 = .ok (.getfield 19, 3) := by decide +kernel
theorem d_M_decision_38 : decode b_M_decision 38 = .ok (.iload_n 1, 1) := by decide +kernel
theorem d_M_decision_39 : decode b_M_decision 39 = .ok (.iaload, 1) := by decide +kernel
theorem d_M_decision_40 : decode b_M_decision 40 = .ok (.iload_n 2, 1) := by decide +kernel
theorem d_M_decision_41 : decode b_M_decision 41 = .ok (.if_icmp .ge 12, 3) := by decide +kernel
theorem d_M_decision_44 : decode b_M_decision 44 = .ok (.aload_n 0, 1) := by decide +kernel
theorem d_M_decision_45 : decode b_M_decision 45 = .ok (.getfield 16, 3) := by decide +kernel
theorem d_M_decision_48 : decode b_M_decision 48 = .ok (.iload_n 1, 1) := by decide +kernel
theorem d_M_decision_49 : decode b_M_decision 49 = .ok (.iaload, 1) := by decide +kernel
theorem d_M_decision_50 : decode b_M_decision 50 = .ok (.ifCond .eq 6, 3) := by decide +kernel
theorem d_M_decision_53 : decode b_M_decision 53 = .ok (.bipush (-5), 2) := by decide +kernel
theorem d_M_decision_55 : decode b_M_decision 55 = .ok (.ireturn, 1) := by decide +kernel
theorem d_M_decision_56 : decode b_M_decision 56 = .ok (.aload_n 0, 1) := by decide +kernel
theorem d_M_decision_57 : decode b_M_decision 57 = .ok (.getfield 41, 3) := by decide +kernel
theorem d_M_decision_60 : decode b_M_decision 60 = .ok (.iload_n 1, 1) := by decide +kernel
theorem d_M_decision_61 : decode b_M_decision 61 = .ok (.iload_n 2, 1) := by decide +kernel
theorem d_M_decision_62 : decode b_M_decision 62 = .ok (.invokestatic 77, 3) := by decide +kernel
theorem d_M_decision_65 : decode b_M_decision 65 = .ok (.iaload, 1) := by decide +kernel
theorem d_M_decision_66 : decode b_M_decision 66 = .ok (.aload_n 0, 1) := by decide +kernel
theorem d_M_decision_67 : decode b_M_decision 67 = .ok (.getfield 41, 3) := by decide +kernel
theorem d_M_decision_70 : decode b_M_decision 70 = .ok (.iload_n 1, 1) := by decide +kernel
theorem d_M_decision_71 : decode b_M_decision 71 = .ok (.iload_n 2, 1) := by decide +kernel
theorem d_M_decision_72 : decode b_M_decision 72 = .ok (.iconst 1, 1) := by decide +kernel
theorem d_M_decision_73 : decode b_M_decision 73 = .ok (.iadd, 1) := by decide +kernel
theorem d_M_decision_74 : decode b_M_decision 74 = .ok (.invokestatic 77, 3) := by decide +kernel
theorem d_M_decision_77 : decode b_M_decision 77 = .ok (.iaload, 1) := by decide +kernel
theorem d_M_decision_78 : decode b_M_decision 78 = .ok (.iadd, 1) := by decide +kernel
theorem d_M_decision_79 : decode b_M_decision 79 = .ok (.ifCond .le 5, 3) := by decide +kernel
theorem d_M_decision_82 : decode b_M_decision 82 = .ok (.iconst 0, 1) := by decide +kernel
theorem d_M_decision_83 : decode b_M_decision 83 = .ok (.ireturn, 1) := by decide +kernel
theorem d_M_decision_84 : decode b_M_decision 84 = .ok (.aload_n 0, 1) := by decide +kernel
theorem d_M_decision_85 : decode b_M_decision 85 = .ok (.getfield 41, 3) := by decide +kernel
theorem d_M_decision_88 : decode b_M_decision 88 = .ok (.iload_n 1, 1) := by decide +kernel
theorem d_M_decision_89 : decode b_M_decision 89 = .ok (.iload_n 2, 1) := by decide +kernel
theorem d_M_decision_90 : decode b_M_decision 90 = .ok (.invokestatic 77, 3) := by decide +kernel
theorem d_M_decision_93 : decode b_M_decision 93 = .ok (.iconst 1, 1) := by decide +kernel
theorem d_M_decision_94 : decode b_M_decision 94 = .ok (.iastore, 1) := by decide +kernel
theorem d_M_decision_95 : decode b_M_decision 95 = .ok (.aload_n 0, 1) := by decide +kernel
theorem d_M_decision_96 : decode b_M_decision 96 = .ok (.getfield 41, 3) := by decide +kernel
theorem d_M_decision_99 : decode b_M_decision 99 = .ok (.iload_n 1, 1) := by decide +kernel
theorem d_M_decision_100 : decode b_M_decision 100 = .ok (.iload_n 2, 1) := by decide +kernel
theorem d_M_decision_101 : decode b_M_decision 101 = .ok (.iconst 1, 1) := by decide +kernel
theorem d_M_decision_102 : decode b_M_decision 102 = .ok (.iadd, 1) := by decide +kernel
theorem d_M_decision_103 : decode b_M_decision 103 = .ok (.invokestatic 77, 3) := by decide +kernel
theorem d_M_decision_106 : decode b_M_decision 106 = .ok (.iconst 2, 1) := by decide +kernel
theorem d_M_decision_107 : decode b_M_decision 107 = .ok (.iastore, 1) := by decide +kernel
theorem d_M_decision_108 : decode b_M_decision 108 = .ok (.iconst 1, 1) := by decide +kernel
theorem d_M_decision_109 : decode b_M_decision 109 = .ok (.ireturn, 1) := by decide +kernel
theorem d_M_isBetween_0 : decode b_M_isBetween 0 = .ok (.aload_n 0, 1) := by decide +kernel
theorem d_M_isBetween_1 : decode b_M_isBetween 1 = .ok (.getfield 19, 3) := by decide +kernel
theorem d_M_isBetween_4 : decode b_M_isBetween 4 = .ok (.iload_n 1, 1) := by decide +kernel
theorem d_M_isBetween_5 : decode b_M_isBetween 5 = .ok (.iaload, 1) := by decide +kernel
theorem d_M_isBetween_6 : decode b_M_isBetween 6 = .ok (.ifCond .le 26, 3) := by decide +kernel
theorem d_M_isBetween_9 : decode b_M_isBetween 9 = .ok (.aload_n 0, 1) := by decide +kernel
theorem d_M_isBetween_10 : decode b_M_isBetween 10 = .ok (.getfield 41, 3) := by decide +kernel
theorem d_M_isBetween_13 : decode b_M_isBetween 13 = .ok (.iload_n 1, 1) := by decide +kernel
theorem d_M_isBetween_14 : decode b_M_isBetween 14 = .ok (.aload_n 0, 1) := by decide +kernel
theorem d_M_isBetween_15 : decode b_M_isBetween 15 = .ok (.getfield 19, 3) := by decide +kernel
theorem d_M_isBetween_18 : decode b_M_isBetween 18 = .ok (.iload_n 1, 1) := by decide +kernel
theorem d_M_isBetween_19 : decode b_M_isBetween 19 = .ok (.iaload, 1) := by decide +kernel
theorem d_M_isBetween_20 : decode b_M_isBetween 20 = .ok (.invokestatic 77, 3) := by decide +kernel
theorem d_M_isBetween_23 : decode b_M_isBetween 23 = .ok (.iaload, 1) := by decide +kernel
theorem d_M_isBetween_24 : decode b_M_isBetween 24 = .ok (.iconst 1, 1) := by decide +kernel
theorem d_M_isBetween_25 : decode b_M_isBetween 25 = .ok (.if_icmp .ne 7, 3) := by decide +kernel
theorem d_M_isBetween_28 : decode b_M_isBetween 28 = .ok (.iconst 1, 1) := by decide +kernel
theorem d_M_isBetween_29 : decode b_M_isBetween 29 = .ok (.goto 4, 3) := by decide +kernel
theorem d_M_isBetween_32 : decode b_M_isBetween 32 = .ok (.iconst 0, 1) := by decide +kernel
theorem d_M_isBetween_33 : decode b_M_isBetween 33 = .ok (.ireturn, 1) := by decide +kernel
theorem d_M_end_0 : decode b_M_end 0 = .ok (.aload_n 0, 1) := by decide +kernel
theorem d_M_end_1 : decode b_M_end 1 = .ok (.getfield 16, 3) := by decide +kernel
theorem d_M_end_4 : decode b_M_end 4 = .ok (.iload_n 1, 1) := by decide +kernel
theorem d_M_end_5 : decode b_M_end 5 = .ok (.iload_n 2, 1) := by decide +kernel
theorem d_M_end_6 : decode b_M_end 6 = .ok (.iastore, 1) := by decide +kernel
theorem d_M_end_7 : decode b_M_end 7 = .ok (.aload_n 0, 1) := by decide +kernel
theorem d_M_end_8 : decode b_M_end 8 = .ok (.getfield 25, 3) := by decide +kernel
theorem d_M_end_11 : decode b_M_end 11 = .ok (.iload_n 1, 1) := by decide +kernel
theorem d_M_end_12 : decode b_M_end 12 = .ok (.dup2, 1) := by decide +kernel
theorem d_M_end_13 : decode b_M_end 13 = .ok (.iaload, 1) := by decide +kernel
theorem d_M_end_14 : decode b_M_end 14 = .ok (.iconst 1, 1) := by decide +kernel
theorem d_M_end_15 : decode b_M_end 15 = .ok (.iadd, 1) := by decide +kernel
theorem d_M_end_16 : decode b_M_end 16 = .ok (.iastore, 1) := by decide +kernel
theorem d_M_end_17 : decode b_M_end 17 = .ok (.aload_n 0, 1) := by decide +kernel
theorem d_M_end_18 : decode b_M_end 18 = .ok (.getfield 28, 3) := by decide +kernel
theorem d_M_end_21 : decode b_M_end 21 = .ok (.iload_n 1, 1) := by decide +kernel
theorem d_M_end_22 : decode b_M_end 22 = .ok (.iload_n 2, 1) := by decide +kernel
theorem d_M_end_23 : decode b_M_end 23 = .ok (.iconst 1, 1) := by decide +kernel
theorem d_M_end_24 : decode b_M_end 24 = .ok (.if_icmp .ne 7, 3) := by decide +kernel
theorem d_M_end_27 : decode b_M_end 27 = .ok (.iconst 0, 1) := by decide +kernel
theorem d_M_end_28 : decode b_M_end 28 = .ok (.goto 16, 3) := by decide +kernel
theorem d_M_end_31 : decode b_M_end 31 = .ok (.aload_n 0, 1) := by decide +kernel
theorem d_M_end_32 : decode b_M_end 32 = .ok (.getfield 19, 3) := by decide +kernel
theorem d_M_end_35 : decode b_M_end 35 = .ok (.iload_n 1, 1) := by decide +kernel
theorem d_M_end_36 : decode b_M_end 36 = .ok (.iaload, 1) := by decide +kernel
theorem d_M_end_37 : decode b_M_end 37 = .ok (.aload_n 0, 1) := by decide +kernel
theorem d_M_end_38 : decode b_M_end 38 = .ok (.getfield 22, 3) := by decide +kernel
theorem d_M_end_41 : decode b_M_end 41 = .ok (.iload_n 1, 1) := by decide +kernel
theorem d_M_end_42 : decode b_M_end 42 = .ok (.iaload, 1) := by decide +kernel
theorem d_M_end_43 : decode b_M_end 43 = .ok (.isub, 1) := by decide +kernel
theorem d_M_end_44 : decode b_M_end 44 = .ok (.iastore, 1) := by decide +kernel
theorem d_M_end_45 : decode b_M_end 45 = .ok (.return_, 1) := by decide +kernel
theorem d_M_isFree_0 : decode b_M_isFree 0 = .ok (.bipush 20, 2) := by decide +kernel
theorem d_M_isFree_2 : decode b_M_isFree 2 = .ok (.iload_n 1, 1) := by decide +kernel
theorem d_M_isFree_3 : decode b_M_isFree 3 = .ok (.imul, 1) := by decide +kernel
theorem d_M_isFree_4 : decode b_M_isFree 4 = .ok (.bipush 20, 2) := by decide +kernel
theorem d_M_isFree_6 : decode b_M_isFree 6 = .ok (.isub, 1) := by decide +kernel
theorem d_M_isFree_7 : decode b_M_isFree 7 = .ok (.istore_n 2, 1) := by decide +kernel
theorem d_M_isFree_8 : decode b_M_isFree 8 = .ok (.iload_n 2, 1) := by decide +kernel
theorem d_M_isFree_9 : decode b_M_isFree 9 = .ok (.bipush 20, 2) := by decide +kernel
theorem d_M_isFree_11 : decode b_M_isFree 11 = .ok (.iload_n 1, 1) := by decide +kernel
theorem d_M_isFree_12 : decode b_M_isFree 12 = .ok (.imul, 1) := by decide +kernel
theorem d_M_isFree_13 : decode b_M_isFree 13 = .ok (.bipush 20, 2) := by decide +kernel
theorem d_M_isFree_15 : decode b_M_isFree 15 = .ok (.isub, 1) := by decide +kernel
theorem d_M_isFree_16 : decode b_M_isFree 16 = .ok (.aload_n 0, 1) := by decide +kernel
theorem d_M_isFree_17 : decode b_M_isFree 17 = .ok (.getfield 31, 3) := by decide +kernel
theorem d_M_isFree_20 : decode b_M_isFree 20 = .ok (.iload_n 1, 1) := by decide +kernel
theorem d_M_isFree_21 : decode b_M_isFree 21 = .ok (.iaload, 1) := by decide +kernel
theorem d_M_isFree_22 : decode b_M_isFree 22 = .ok (.iadd, 1) := by decide +kernel
theorem d_M_isFree_23 : decode b_M_isFree 23 = .ok (.if_icmp .ge 76, 3) := by decide +kernel
theorem d_M_isFree_26 : decode b_M_isFree 26 = .ok (.aload_n 0, 1) := by decide +kernel
theorem d_M_isFree_27 : decode b_M_isFree 27 = .ok (.getfield 44, 3) := by decide +kernel
theorem d_M_isFree_30 : decode b_M_isFree 30 = .ok (.iload_n 2, 1) := by decide +kernel
theorem d_M_isFree_31 : decode b_M_isFree 31 = .ok (.iaload, 1) := by decide +kernel
theorem d_M_isFree_32 : decode b_M_isFree 32 = .ok (.aload_n 0, 1) := by decide +kernel
theorem d_M_isFree_33 : decode b_M_isFree 33 = .ok (.getfield 19, 3) := by decide +kernel
theorem d_M_isFree_36 : decode b_M_isFree 36 = .ok (.iload_n 1, 1) := by decide +kernel
theorem d_M_isFree_37 : decode b_M_isFree 37 = .ok (.iaload, 1) := by decide +kernel
theorem d_M_isFree_38 : decode b_M_isFree 38 = .ok (.iconst 1, 1) := by decide +kernel
theorem d_M_isFree_39 : decode b_M_isFree 39 = .ok (.iadd, 1) := by decide +kernel
theorem d_M_isFree_40 : decode b_M_isFree 40 = .ok (.if_icmp .ne 53, 3) := by decide +kernel
theorem d_M_isFree_43 : decode b_M_isFree 43 = .ok (.aload_n 0, 1) := by decide +kernel
theorem d_M_isFree_44 : decode b_M_isFree 44 = .ok (.getfield 38, 3) := by decide +kernel
theorem d_M_isFree_47 : decode b_M_isFree 47 = .ok (.iload_n 2, 1) := by decide +kernel
theorem d_M_isFree_48 : decode b_M_isFree 48 = .ok (.baload, 1) := by decide +kernel
theorem d_M_isFree_49 : decode b_M_isFree 49 = .ok (.ifCond .eq 6, 3) := by decide +kernel
theorem d_M_isFree_52 : decode b_M_isFree 52 = .ok (.goto 41, 3) := by decide +kernel
theorem d_M_isFree_55 : decode b_M_isFree 55 = .ok (.aload_n 0, 1) := by decide +kernel
theorem d_M_isFree_56 : decode b_M_isFree 56 = .ok (.getfield 53, 3) := by decide +kernel
theorem d_M_isFree_59 : decode b_M_isFree 59 = .ok (.aload_n 0, 1) := by decide +kernel
theorem d_M_isFree_60 : decode b_M_isFree 60 = .ok (.getfield 47, 3) := by decide +kernel
theorem d_M_isFree_63 : decode b_M_isFree 63 = .ok (.iload_n 2, 1) := by decide +kernel
theorem d_M_isFree_64 : decode b_M_isFree 64 = .ok (.iaload, 1) := by decide +kernel
theorem d_M_isFree_65 : decode b_M_isFree 65 = .ok (.iaload, 1) := by decide +kernel
theorem d_M_isFree_66 : decode b_M_isFree 66 = .ok (.ifCond .ne 5, 3) := by decide +kernel
theorem d_M_isFree_69 : decode b_M_isFree 69 = .ok (.iconst 0, 1) := by decide +kernel
theorem d_M_isFree_70 : decode b_M_isFree 70 = .ok (.ireturn, 1) := by decide +kernel
theorem d_M_isFree_71 : decode b_M_isFree 71 = .ok (.aload_n 0, 1) := by decide +kernel
theorem d_M_isFree_72 : decode b_M_isFree 72 = .ok (.getfield 53, 3) := by decide +kernel
theorem d_M_isFree_75 : decode b_M_isFree 75 = .ok (.aload_n 0, 1) := by decide +kernel
theorem d_M_isFree_76 : decode b_M_isFree 76 = .ok (.getfield 47, 3) := by decide +kernel
theorem d_M_isFree_79 : decode b_M_isFree 79 = .ok (.iload_n 2, 1) := by decide +kernel
theorem d_M_isFree_80 : decode b_M_isFree 80 = .ok (.iaload, 1) := by decide +kernel
theorem d_M_isFree_81 : decode b_M_isFree 81 = .ok (.dup2, 1) := by decide +kernel
theorem d_M_isFree_82 : decode b_M_isFree 82 = .ok (.iaload, 1) := by decide +kernel
theorem d_M_isFree_83 : decode b_M_isFree 83 = .ok (.iconst 1, 1) := by decide +kernel
theorem d_M_isFree_84 : decode b_M_isFree 84 = .ok (.isub, 1) := by decide +kernel
theorem d_M_isFree_85 : decode b_M_isFree 85 = .ok (.iastore, 1) := by decide +kernel
theorem d_M_isFree_86 : decode b_M_isFree 86 = .ok (.aload_n 0, 1) := by decide +kernel
theorem d_M_isFree_87 : decode b_M_isFree 87 = .ok (.getfield 38, 3) := by decide +kernel
theorem d_M_isFree_90 : decode b_M_isFree 90 = .ok (.iload_n 2, 1) := by decide +kernel
theorem d_M_isFree_91 : decode b_M_isFree 91 = .ok (.iconst 1, 1) := by decide +kernel
theorem d_M_isFree_92 : decode b_M_isFree 92 = .ok (.bastore, 1) := by decide +kernel
theorem d_M_isFree_93 : decode b_M_isFree 93 = .ok (.iinc 2 1, 3) := by decide +kernel
theorem d_M_isFree_96 : decode b_M_isFree 96 = .ok (.goto (-88), 3) := by decide +kernel
theorem d_M_isFree_99 : decode b_M_isFree 99 = .ok (.iconst 1, 1) := by decide +kernel
theorem d_M_isFree_100 : decode b_M_isFree 100 = .ok (.ireturn, 1) := by decide +kernel
theorem d_M_goes_0 : decode b_M_goes 0 = .ok (.aload_n 0, 1) := by decide +kernel
theorem d_M_goes_1 : decode b_M_goes 1 = .ok (.getfield 16, 3) := by decide +kernel
theorem d_M_goes_4 : decode b_M_goes 4 = .ok (.iload_n 1, 1) := by decide +kernel
theorem d_M_goes_5 : decode b_M_goes 5 = .ok (.iaload, 1) := by decide +kernel
theorem d_M_goes_6 : decode b_M_goes 6 = .ok (.ifCond .eq 5, 3) := by decide +kernel
theorem d_M_goes_9 : decode b_M_goes 9 = .ok (.iconst 0, 1) := by decide +kernel
theorem d_M_goes_10 : decode b_M_goes 10 = .ok (.ireturn, 1) := by decide +kernel
theorem d_M_goes_11 : decode b_M_goes 11 = .ok (.aload_n 0, 1) := by decide +kernel
theorem d_M_goes_12 : decode b_M_goes 12 = .ok (.getfield 34, 3) := by decide +kernel
theorem d_M_goes_15 : decode b_M_goes 15 = .ok (.iload_n 1, 1) := by decide +kernel
theorem d_M_goes_16 : decode b_M_goes 16 = .ok (.baload, 1) := by decide +kernel
theorem d_M_goes_17 : decode b_M_goes 17 = .ok (.ifCond .eq 19, 3) := by decide +kernel
theorem d_M_goes_20 : decode b_M_goes 20 = .ok (.aload_n 0, 1) := by decide +kernel
theorem d_M_goes_21 : decode b_M_goes 21 = .ok (.iload_n 1, 1) := by decide +kernel
theorem d_M_goes_22 : decode b_M_goes 22 = .ok (.invokevirtual 81, 3) := by decide +kernel
theorem d_M_goes_25 : decode b_M_goes 25 = .ok (.ifCond .ne 11, 3) := by decide +kernel
theorem d_M_goes_28 : decode b_M_goes 28 = .ok (.aload_n 0, 1) := by decide +kernel
theorem d_M_goes_29 : decode b_M_goes 29 = .ok (.iload_n 1, 1) := by decide +kernel
theorem d_M_goes_30 : decode b_M_goes 30 = .ok (.iconst 3, 1) := by decide +kernel
theorem d_M_goes_31 : decode b_M_goes 31 = .ok (.invokevirtual 84, 3) := by decide +kernel
theorem d_M_goes_34 : decode b_M_goes 34 = .ok (.iconst 2, 1) := by decide +kernel
theorem d_M_goes_35 : decode b_M_goes 35 = .ok (.ireturn, 1) := by decide +kernel
theorem d_M_goes_36 : decode b_M_goes 36 = .ok (.aload_n 0, 1) := by decide +kernel
theorem d_M_goes_37 : decode b_M_goes 37 = .ok (.iload_n 1, 1) := by decide +kernel
theorem d_M_goes_38 : decode b_M_goes 38 = .ok (.invokevirtual 88, 3) := by decide +kernel
theorem d_M_goes_41 : decode b_M_goes 41 = .ok (.ifCond .ne 5, 3) := by decide +kernel
theorem d_M_goes_44 : decode b_M_goes 44 = .ok (.iconst 0, 1) := by decide +kernel
theorem d_M_goes_45 : decode b_M_goes 45 = .ok (.ireturn, 1) := by decide +kernel
theorem d_M_goes_46 : decode b_M_goes 46 = .ok (.aload_n 0, 1) := by decide +kernel
theorem d_M_goes_47 : decode b_M_goes 47 = .ok (.getfield 13, 3) := by decide +kernel
theorem d_M_goes_50 : decode b_M_goes 50 = .ok (.iload_n 1, 1) := by decide +kernel
theorem d_M_goes_51 : decode b_M_goes 51 = .ok (.iaload, 1) := by decide +kernel
theorem d_M_goes_52 : decode b_M_goes 52 = .ok (.aload_n 0, 1) := by decide +kernel
theorem d_M_goes_53 : decode b_M_goes 53 = .ok (.getfield 19, 3) := by decide +kernel
theorem d_M_goes_56 : decode b_M_goes 56 = .ok (.iload_n 1, 1) := by decide +kernel
theorem d_M_goes_57 : decode b_M_goes 57 = .ok (.iaload, 1) := by decide +kernel
theorem d_M_goes_58 : decode b_M_goes 58 = .ok (.iconst 1, 1) := by decide +kernel
theorem d_M_goes_59 : decode b_M_goes 59 = .ok (.iadd, 1) := by decide +kernel
theorem d_M_goes_60 : decode b_M_goes 60 = .ok (.if_icmp .ne 11, 3) := by decide +kernel
theorem d_M_goes_63 : decode b_M_goes 63 = .ok (.aload_n 0, 1) := by decide +kernel
theorem d_M_goes_64 : decode b_M_goes 64 = .ok (.iload_n 1, 1) := by decide +kernel
theorem d_M_goes_65 : decode b_M_goes 65 = .ok (.iconst 2, 1) := by decide +kernel
theorem d_M_goes_66 : decode b_M_goes 66 = .ok (.invokevirtual 84, 3) := by decide +kernel
theorem d_M_goes_69 : decode b_M_goes 69 = .ok (.iconst 2, 1) := by decide +kernel
theorem d_M_goes_70 : decode b_M_goes 70 = .ok (.ireturn, 1) := by decide +kernel
theorem d_M_goes_71 : decode b_M_goes 71 = .ok (.aload_n 0, 1) := by decide +kernel
theorem d_M_goes_72 : decode b_M_goes 72 = .ok (.getfield 19, 3) := by decide +kernel
theorem d_M_goes_75 : decode b_M_goes 75 = .ok (.iload_n 1, 1) := by decide +kernel
theorem d_M_goes_76 : decode b_M_goes 76 = .ok (.dup2, 1) := by decide +kernel
theorem d_M_goes_77 : decode b_M_goes 77 = .ok (.iaload, 1) := by decide +kernel
theorem d_M_goes_78 : decode b_M_goes 78 = .ok (.iconst 1, 1) := by decide +kernel
theorem d_M_goes_79 : decode b_M_goes 79 = .ok (.iadd, 1) := by decide +kernel
theorem d_M_goes_80 : decode b_M_goes 80 = .ok (.iastore, 1) := by decide +kernel
theorem d_M_goes_81 : decode b_M_goes 81 = .ok (.aload_n 0, 1) := by decide +kernel
theorem d_M_goes_82 : decode b_M_goes 82 = .ok (.getfield 56, 3) := by decide +kernel
theorem d_M_goes_85 : decode b_M_goes 85 = .ok (.aload_n 0, 1) := by decide +kernel
theorem d_M_goes_86 : decode b_M_goes 86 = .ok (.getfield 91, 3) := by decide +kernel
theorem d_M_goes_89 : decode b_M_goes 89 = .ok (.sipush 1000, 3) := by decide +kernel
theorem d_M_goes_92 : decode b_M_goes 92 = .ok (.iload_n 1, 1) := by decide +kernel
theorem d_M_goes_93 : decode b_M_goes 93 = .ok (.imul, 1) := by decide +kernel
theorem d_M_goes_94 : decode b_M_goes 94 = .ok (.aload_n 0, 1) := by decide +kernel
theorem d_M_goes_95 : decode b_M_goes 95 = .ok (.getfield 19, 3) := by decide +kernel
theorem d_M_goes_98 : decode b_M_goes 98 = .ok (.iload_n 1, 1) := by decide +kernel
theorem d_M_goes_99 : decode b_M_goes 99 = .ok (.iaload, 1) := by decide +kernel
theorem d_M_goes_100 : decode b_M_goes 100 = .ok (.iadd, 1) := by decide +kernel
theorem d_M_goes_101 : decode b_M_goes 101 = .ok (.iastore, 1) := by decide +kernel
theorem d_M_goes_102 : decode b_M_goes 102 = .ok (.aload_n 0, 1) := by decide +kernel
theorem d_M_goes_103 : decode b_M_goes 103 = .ok (.dup, 1) := by decide +kernel
theorem d_M_goes_104 : decode b_M_goes 104 = .ok (.getfield 91, 3) := by decide +kernel
theorem d_M_goes_107 : decode b_M_goes 107 = .ok (.iconst 1, 1) := by decide +kernel
theorem d_M_goes_108 : decode b_M_goes 108 = .ok (.iadd, 1) := by decide +kernel
theorem d_M_goes_109 : decode b_M_goes 109 = .ok (.putfield 91, 3) := by decide +kernel
theorem d_M_goes_112 : decode b_M_goes 112 = .ok (.aload_n 0, 1) := by decide +kernel
theorem d_M_goes_113 : decode b_M_goes 113 = .ok (.getfield 41, 3) := by decide +kernel
theorem d_M_goes_116 : decode b_M_goes 116 = .ok (.iload_n 1, 1) := by decide +kernel
theorem d_M_goes_117 : decode b_M_goes 117 = .ok (.aload_n 0, 1) := by decide +kernel
theorem d_M_goes_118 : decode b_M_goes 118 = .ok (.getfield 19, 3) := by decide +kernel
theorem d_M_goes_121 : decode b_M_goes 121 = .ok (.iload_n 1, 1) := by decide +kernel
theorem d_M_goes_122 : decode b_M_goes 122 = .ok (.iaload, 1) := by decide +kernel
theorem d_M_goes_123 : decode b_M_goes 123 = .ok (.invokestatic 77, 3) := by decide +kernel
theorem d_M_goes_126 : decode b_M_goes 126 = .ok (.iaload, 1) := by decide +kernel
theorem d_M_goes_127 : decode b_M_goes 127 = .ok (.iconst 2, 1) := by decide +kernel
theorem d_M_goes_128 : decode b_M_goes 128 = .ok (.if_icmp .ne 15, 3) := by decide +kernel
theorem d_M_goes_131 : decode b_M_goes 131 = .ok (.aload_n 0, 1) := by decide +kernel
theorem d_M_goes_132 : decode b_M_goes 132 = .ok (.getfield 22, 3) := by decide +kernel
theorem d_M_goes_135 : decode b_M_goes 135 = .ok (.iload_n 1, 1) := by decide +kernel
theorem d_M_goes_136 : decode b_M_goes 136 = .ok (.aload_n 0, 1) := by decide +kernel
theorem d_M_goes_137 : decode b_M_goes 137 = .ok (.getfield 19, 3) := by decide +kernel
theorem d_M_goes_140 : decode b_M_goes 140 = .ok (.iload_n 1, 1) := by decide +kernel
theorem d_M_goes_141 : decode b_M_goes 141 = .ok (.iaload, 1) := by decide +kernel
theorem d_M_goes_142 : decode b_M_goes 142 = .ok (.iastore, 1) := by decide +kernel
theorem d_M_goes_143 : decode b_M_goes 143 = .ok (.aload_n 0, 1) := by decide +kernel
theorem d_M_goes_144 : decode b_M_goes 144 = .ok (.getfield 19, 3) := by decide +kernel
theorem d_M_goes_147 : decode b_M_goes 147 = .ok (.iload_n 1, 1) := by decide +kernel
theorem d_M_goes_148 : decode b_M_goes 148 = .ok (.iaload, 1) := by decide +kernel
theorem d_M_goes_149 : decode b_M_goes 149 = .ok (.aload_n 0, 1) := by decide +kernel
theorem d_M_goes_150 : decode b_M_goes 150 = .ok (.getfield 7, 3) := by decide +kernel
theorem d_M_goes_153 : decode b_M_goes 153 = .ok (.iload_n 1, 1) := by decide +kernel
theorem d_M_goes_154 : decode b_M_goes 154 = .ok (.iaload, 1) := by decide +kernel
theorem d_M_goes_155 : decode b_M_goes 155 = .ok (.if_icmp .ne 9, 3) := by decide +kernel
theorem d_M_goes_158 : decode b_M_goes 158 = .ok (.aload_n 0, 1) := by decide +kernel
theorem d_M_goes_159 : decode b_M_goes 159 = .ok (.iload_n 1, 1) := by decide +kernel
theorem d_M_goes_160 : decode b_M_goes 160 = .ok (.iconst 1, 1) := by decide +kernel
theorem d_M_goes_161 : decode b_M_goes 161 = .ok (.invokevirtual 84, 3) := by decide +kernel
theorem d_M_goes_164 : decode b_M_goes 164 = .ok (.iconst 1, 1) := by decide +kernel
theorem d_M_goes_165 : decode b_M_goes 165 = .ok (.ireturn, 1) := by decide +kernel
theorem d_M_run_0 : decode b_M_run 0 = .ok (.aload_n 0, 1) := by decide +kernel
theorem d_M_run_1 : decode b_M_run 1 = .ok (.iconst 0, 1) := by decide +kernel
theorem d_M_run_2 : decode b_M_run 2 = .ok (.putfield 59, 3) := by decide +kernel
theorem d_M_run_5 : decode b_M_run 5 = .ok (.aload_n 0, 1) := by decide +kernel
theorem d_M_run_6 : decode b_M_run 6 = .ok (.getfield 66, 3) := by decide +kernel
theorem d_M_run_9 : decode b_M_run 9 = .ok (.ifCond .eq 6, 3) := by decide +kernel
theorem d_M_run_12 : decode b_M_run 12 = .ok (.bipush (-5), 2) := by decide +kernel
theorem d_M_run_14 : decode b_M_run 14 = .ok (.ireturn, 1) := by decide +kernel
theorem d_M_run_15 : decode b_M_run 15 = .ok (.iconst 0, 1) := by decide +kernel
theorem d_M_run_16 : decode b_M_run 16 = .ok (.istore_n 1, 1) := by decide +kernel
theorem d_M_run_17 : decode b_M_run 17 = .ok (.iconst 0, 1) := by decide +kernel
theorem d_M_run_18 : decode b_M_run 18 = .ok (.istore_n 2, 1) := by decide +kernel
theorem d_M_run_19 : decode b_M_run 19 = .ok (.iload_n 2, 1) := by decide +kernel
theorem d_M_run_20 : decode b_M_run 20 = .ok (.aload_n 0, 1) := by decide +kernel
theorem d_M_run_21 : decode b_M_run 21 = .ok (.getfield 74, 3) := by decide +kernel
theorem d_M_run_24 : decode b_M_run 24 = .ok (.if_icmp .ge 51, 3) := by decide +kernel
theorem d_M_run_27 : decode b_M_run 27 = .ok (.aload_n 0, 1) := by decide +kernel
theorem d_M_run_28 : decode b_M_run 28 = .ok (.aload_n 0, 1) := by decide +kernel
theorem d_M_run_29 : decode b_M_run 29 = .ok (.getfield 50, 3) := by decide +kernel
theorem d_M_run_32 : decode b_M_run 32 = .ok (.iload_n 2, 1) := by decide +kernel
theorem d_M_run_33 : decode b_M_run 33 = .ok (.iaload, 1) := by decide +kernel
theorem d_M_run_34 : decode b_M_run 34 = .ok (.invokevirtual 94, 3) := by decide +kernel
theorem d_M_run_37 : decode b_M_run 37 = .ok (.istore_n 3, 1) := by decide +kernel
theorem d_M_run_38 : decode b_M_run 38 = .ok (.iload_n 1, 1) := by decide +kernel
theorem d_M_run_39 : decode b_M_run 39 = .ok (.iload_n 3, 1) := by decide +kernel
theorem d_M_run_40 : decode b_M_run 40 = .ok (.iconst 1, 1) := by decide +kernel
theorem d_M_run_41 : decode b_M_run 41 = .ok (.if_icmp .ne 7, 3) := by decide +kernel
theorem d_M_run_44 : decode b_M_run 44 = .ok (.iconst 1, 1) := by decide +kernel
theorem d_M_run_45 : decode b_M_run 45 = .ok (.goto 4, 3) := by decide +kernel
theorem d_M_run_48 : decode b_M_run 48 = .ok (.iconst 0, 1) := by decide +kernel
theorem d_M_run_49 : decode b_M_run 49 = .ok (.iadd, 1) := by decide +kernel
theorem d_M_run_50 : decode b_M_run 50 = .ok (.istore_n 1, 1) := by decide +kernel
theorem d_M_run_51 : decode b_M_run 51 = .ok (.aload_n 0, 1) := by decide +kernel
theorem d_M_run_52 : decode b_M_run 52 = .ok (.dup, 1) := by decide +kernel
theorem d_M_run_53 : decode b_M_run 53 = .ok (.getfield 98, 3) := by decide +kernel
theorem d_M_run_56 : decode b_M_run 56 = .ok (.iload_n 3, 1) := by decide +kernel
theorem d_M_run_57 : decode b_M_run 57 = .ok (.ifCond .ne 7, 3) := by decide +kernel
theorem d_M_run_60 : decode b_M_run 60 = .ok (.iconst 1, 1) := by decide +kernel
theorem d_M_run_61 : decode b_M_run 61 = .ok (.goto 4, 3) := by decide +kernel
theorem d_M_run_64 : decode b_M_run 64 = .ok (.iconst 0, 1) := by decide +kernel
theorem d_M_run_65 : decode b_M_run 65 = .ok (.iadd, 1) := by decide +kernel
theorem d_M_run_66 : decode b_M_run 66 = .ok (.putfield 98, 3) := by decide +kernel
theorem d_M_run_69 : decode b_M_run 69 = .ok (.iinc 2 1, 3) := by decide +kernel
theorem d_M_run_72 : decode b_M_run 72 = .ok (.goto (-53), 3) := by decide +kernel
theorem d_M_run_75 : decode b_M_run 75 = .ok (.aload_n 0, 1) := by decide +kernel
theorem d_M_run_76 : decode b_M_run 76 = .ok (.iconst 0, 1) := by decide +kernel
theorem d_M_run_77 : decode b_M_run 77 = .ok (.putfield 74, 3) := by decide +kernel
theorem d_M_run_80 : decode b_M_run 80 = .ok (.iload_n 1, 1) := by decide +kernel
theorem d_M_run_81 : decode b_M_run 81 = .ok (.ireturn, 1) := by decide +kernel
theorem d_M_cancel_0 : decode b_M_cancel 0 = .ok (.aload_n 0, 1) := by decide +kernel
theorem d_M_cancel_1 : decode b_M_cancel 1 = .ok (.iconst 0, 1) := by decide +kernel
theorem d_M_cancel_2 : decode b_M_cancel 2 = .ok (.putfield 59, 3) := by decide +kernel
theorem d_M_cancel_5 : decode b_M_cancel 5 = .ok (.aload_n 0, 1) := by decide +kernel
theorem d_M_cancel_6 : decode b_M_cancel 6 = .ok (.getfield 66, 3) := by decide +kernel
theorem d_M_cancel_9 : decode b_M_cancel 9 = .ok (.ifCond .ne 29, 3) := by decide +kernel
theorem d_M_cancel_12 : decode b_M_cancel 12 = .ok (.aload_n 0, 1) := by decide +kernel
theorem d_M_cancel_13 : decode b_M_cancel 13 = .ok (.iload_n 1, 1) := by decide +kernel
theorem d_M_cancel_14 : decode b_M_cancel 14 = .ok (.invokevirtual 70, 3) := by decide +kernel
theorem d_M_cancel_17 : decode b_M_cancel 17 = .ok (.ifCond .eq 21, 3) := by decide +kernel
theorem d_M_cancel_20 : decode b_M_cancel 20 = .ok (.aload_n 0, 1) := by decide +kernel
theorem d_M_cancel_21 : decode b_M_cancel 21 = .ok (.getfield 16, 3) := by decide +kernel
theorem d_M_cancel_24 : decode b_M_cancel 24 = .ok (.iload_n 1, 1) := by decide +kernel
theorem d_M_cancel_25 : decode b_M_cancel 25 = .ok (.iaload, 1) := by decide +kernel
theorem d_M_cancel_26 : decode b_M_cancel 26 = .ok (.ifCond .ne 12, 3) := by decide +kernel
theorem d_M_cancel_29 : decode b_M_cancel 29 = .ok (.aload_n 0, 1) := by decide +kernel
theorem d_M_cancel_30 : decode b_M_cancel 30 = .ok (.getfield 34, 3) := by decide +kernel
theorem d_M_cancel_33 : decode b_M_cancel 33 = .ok (.iload_n 1, 1) := by decide +kernel
theorem d_M_cancel_34 : decode b_M_cancel 34 = .ok (.baload, 1) := by decide +kernel
theorem d_M_cancel_35 : decode b_M_cancel 35 = .ok (.ifCond .eq 5, 3) := by decide +kernel
theorem d_M_cancel_38 : decode b_M_cancel 38 = .ok (.iconst 0, 1) := by decide +kernel
theorem d_M_cancel_39 : decode b_M_cancel 39 = .ok (.ireturn, 1) := by decide +kernel
theorem d_M_cancel_40 : decode b_M_cancel 40 = .ok (.aload_n 0, 1) := by decide +kernel
theorem d_M_cancel_41 : decode b_M_cancel 41 = .ok (.getfield 34, 3) := by decide +kernel
theorem d_M_cancel_44 : decode b_M_cancel 44 = .ok (.iload_n 1, 1) := by decide +kernel
theorem d_M_cancel_45 : decode b_M_cancel 45 = .ok (.iconst 1, 1) := by decide +kernel
theorem d_M_cancel_46 : decode b_M_cancel 46 = .ok (.bastore, 1) := by decide +kernel
theorem d_M_cancel_47 : decode b_M_cancel 47 = .ok (.iconst 1, 1) := by decide +kernel
theorem d_M_cancel_48 : decode b_M_cancel 48 = .ok (.ireturn, 1) := by decide +kernel
theorem d_M_leave_0 : decode b_M_leave 0 = .ok (.aload_n 0, 1) := by decide +kernel
theorem d_M_leave_1 : decode b_M_leave 1 = .ok (.getfield 16, 3) := by decide +kernel
theorem d_M_leave_4 : decode b_M_leave 4 = .ok (.iload_n 1, 1) := by decide +kernel
theorem d_M_leave_5 : decode b_M_leave 5 = .ok (.iconst 4, 1) := by decide +kernel
theorem d_M_leave_6 : decode b_M_leave 6 = .ok (.iastore, 1) := by decide +kernel
theorem d_M_leave_7 : decode b_M_leave 7 = .ok (.aload_n 0, 1) := by decide +kernel
theorem d_M_leave_8 : decode b_M_leave 8 = .ok (.getfield 19, 3) := by decide +kernel
theorem d_M_leave_11 : decode b_M_leave 11 = .ok (.iload_n 1, 1) := by decide +kernel
theorem d_M_leave_12 : decode b_M_leave 12 = .ok (.iaload, 1) := by decide +kernel
theorem d_M_leave_13 : decode b_M_leave 13 = .ok (.aload_n 0, 1) := by decide +kernel
theorem d_M_leave_14 : decode b_M_leave 14 = .ok (.getfield 22, 3) := by decide +kernel
theorem d_M_leave_17 : decode b_M_leave 17 = .ok (.iload_n 1, 1) := by decide +kernel
theorem d_M_leave_18 : decode b_M_leave 18 = .ok (.iaload, 1) := by decide +kernel
theorem d_M_leave_19 : decode b_M_leave 19 = .ok (.if_icmp .le 7, 3) := by decide +kernel
theorem d_M_leave_22 : decode b_M_leave 22 = .ok (.iconst 1, 1) := by decide +kernel
theorem d_M_leave_23 : decode b_M_leave 23 = .ok (.goto 4, 3) := by decide +kernel
theorem d_M_leave_26 : decode b_M_leave 26 = .ok (.iconst 0, 1) := by decide +kernel
theorem d_M_leave_27 : decode b_M_leave 27 = .ok (.ireturn, 1) := by decide +kernel
theorem d_M_shutdown_0 : decode b_M_shutdown 0 = .ok (.aload_n 0, 1) := by decide +kernel
theorem d_M_shutdown_1 : decode b_M_shutdown 1 = .ok (.iconst 0, 1) := by decide +kernel
theorem d_M_shutdown_2 : decode b_M_shutdown 2 = .ok (.putfield 59, 3) := by decide +kernel
theorem d_M_shutdown_5 : decode b_M_shutdown 5 = .ok (.aload_n 0, 1) := by decide +kernel
theorem d_M_shutdown_6 : decode b_M_shutdown 6 = .ok (.getfield 66, 3) := by decide +kernel
theorem d_M_shutdown_9 : decode b_M_shutdown 9 = .ok (.ifCond .eq 6, 3) := by decide +kernel
theorem d_M_shutdown_12 : decode b_M_shutdown 12 = .ok (.bipush (-5), 2) := by decide +kernel
theorem d_M_shutdown_14 : decode b_M_shutdown 14 = .ok (.ireturn, 1) := by decide +kernel
theorem d_M_shutdown_15 : decode b_M_shutdown 15 = .ok (.aload_n 0, 1) := by decide +kernel
theorem d_M_shutdown_16 : decode b_M_shutdown 16 = .ok (.iconst 0, 1) := by decide +kernel
theorem d_M_shutdown_17 : decode b_M_shutdown 17 = .ok (.putfield 74, 3) := by decide +kernel
theorem d_M_shutdown_20 : decode b_M_shutdown 20 = .ok (.iload_n 1, 1) := by decide +kernel
theorem d_M_shutdown_21 : decode b_M_shutdown 21 = .ok (.ifCond .ne 7, 3) := by decide +kernel
theorem d_M_shutdown_24 : decode b_M_shutdown 24 = .ok (.iconst 1, 1) := by decide +kernel
theorem d_M_shutdown_25 : decode b_M_shutdown 25 = .ok (.goto 4, 3) := by decide +kernel
theorem d_M_shutdown_28 : decode b_M_shutdown 28 = .ok (.iconst 0, 1) := by decide +kernel
theorem d_M_shutdown_29 : decode b_M_shutdown 29 = .ok (.istore_n 2, 1) := by decide +kernel
theorem d_M_shutdown_30 : decode b_M_shutdown 30 = .ok (.iload_n 2, 1) := by decide +kernel
theorem d_M_shutdown_31 : decode b_M_shutdown 31 = .ok (.ifCond .eq 54, 3) := by decide +kernel
theorem d_M_shutdown_34 : decode b_M_shutdown 34 = .ok (.iconst 0, 1) := by decide +kernel
theorem d_M_shutdown_35 : decode b_M_shutdown 35 = .ok (.istore_n 2, 1) := by decide +kernel
theorem d_M_shutdown_36 : decode b_M_shutdown 36 = .ok (.iconst 1, 1) := by decide +kernel
theorem d_M_shutdown_37 : decode b_M_shutdown 37 = .ok (.istore_n 3, 1) := by decide +kernel
theorem d_M_shutdown_38 : decode b_M_shutdown 38 = .ok (.iload_n 3, 1) := by decide +kernel
theorem d_M_shutdown_39 : decode b_M_shutdown 39 = .ok (.aload_n 0, 1) := by decide +kernel
theorem d_M_shutdown_40 : decode b_M_shutdown 40 = .ok (.getfield 63, 3) := by decide +kernel
theorem d_M_shutdown_43 : decode b_M_shutdown 43 = .ok (.if_icmp .gt 39, 3) := by decide +kernel
theorem d_M_shutdown_46 : decode b_M_shutdown 46 = .ok (.aload_n 0, 1) := by decide +kernel
theorem d_M_shutdown_47 : decode b_M_shutdown 47 = .ok (.iload_n 3, 1) := by decide +kernel
theorem d_M_shutdown_48 : decode b_M_shutdown 48 = .ok (.invokevirtual 94, 3) := by decide +kernel
theorem d_M_shutdown_51 : decode b_M_shutdown 51 = .ok (.ifCond .le 7, 3) := by decide +kernel
theorem d_M_shutdown_54 : decode b_M_shutdown 54 = .ok (.iconst 1, 1) := by decide +kernel
theorem d_M_shutdown_55 : decode b_M_shutdown 55 = .ok (.goto 4, 3) := by decide +kernel
theorem d_M_shutdown_58 : decode b_M_shutdown 58 = .ok (.iconst 0, 1) := by decide +kernel
theorem d_M_shutdown_59 : decode b_M_shutdown 59 = .ok (.istore 4, 2) := by decide +kernel
theorem d_M_shutdown_61 : decode b_M_shutdown 61 = .ok (.iload_n 2, 1) := by decide +kernel
theorem d_M_shutdown_62 : decode b_M_shutdown 62 = .ok (.ifCond .ne 8, 3) := by decide +kernel
theorem d_M_shutdown_65 : decode b_M_shutdown 65 = .ok (.iload 4, 2) := by decide +kernel
theorem d_M_shutdown_67 : decode b_M_shutdown 67 = .ok (.ifCond .eq 7, 3) := by decide +kernel
theorem d_M_shutdown_70 : decode b_M_shutdown 70 = .ok (.iconst 1, 1) := by decide +kernel
theorem d_M_shutdown_71 : decode b_M_shutdown 71 = .ok (.goto 4, 3) := by decide +kernel
theorem d_M_shutdown_74 : decode b_M_shutdown 74 = .ok (.iconst 0, 1) := by decide +kernel
theorem d_M_shutdown_75 : decode b_M_shutdown 75 = .ok (.istore_n 2, 1) := by decide +kernel
theorem d_M_shutdown_76 : decode b_M_shutdown 76 = .ok (.iinc 3 1, 3) := by decide +kernel
theorem d_M_shutdown_79 : decode b_M_shutdown 79 = .ok (.goto (-41), 3) := by decide +kernel
theorem d_M_shutdown_82 : decode b_M_shutdown 82 = .ok (.goto (-52), 3) := by decide +kernel
theorem d_M_shutdown_85 : decode b_M_shutdown 85 = .ok (.iconst 0, 1) := by decide +kernel
theorem d_M_shutdown_86 : decode b_M_shutdown 86 = .ok (.istore_n 3, 1) := by decide +kernel
theorem d_M_shutdown_87 : decode b_M_shutdown 87 = .ok (.iconst 1, 1) := by decide +kernel
theorem d_M_shutdown_88 : decode b_M_shutdown 88 = .ok (.istore 4, 2) := by decide +kernel
theorem d_M_shutdown_90 : decode b_M_shutdown 90 = .ok (.iload 4, 2) := by decide +kernel
theorem d_M_shutdown_92 : decode b_M_shutdown 92 = .ok (.aload_n 0, 1) := by decide +kernel
theorem d_M_shutdown_93 : decode b_M_shutdown 93 = .ok (.getfield 63, 3) := by decide +kernel
theorem d_M_shutdown_96 : decode b_M_shutdown 96 = .ok (.if_icmp .gt 54, 3) := by decide +kernel
theorem d_M_shutdown_99 : decode b_M_shutdown 99 = .ok (.aload_n 0, 1) := by decide +kernel
theorem d_M_shutdown_100 : decode b_M_shutdown 100 = .ok (.getfield 16, 3) := by decide +kernel
theorem d_M_shutdown_103 : decode b_M_shutdown 103 = .ok (.iload 4, 2) := by decide +kernel
theorem d_M_shutdown_105 : decode b_M_shutdown 105 = .ok (.iaload, 1) := by decide +kernel
theorem d_M_shutdown_106 : decode b_M_shutdown 106 = .ok (.ifCond .eq 6, 3) := by decide +kernel
theorem d_M_shutdown_109 : decode b_M_shutdown 109 = .ok (.goto 35, 3) := by decide +kernel
theorem d_M_shutdown_112 : decode b_M_shutdown 112 = .ok (.iload_n 1, 1) := by decide +kernel
theorem d_M_shutdown_113 : decode b_M_shutdown 113 = .ok (.ifCond .ne 12, 3) := by decide +kernel
theorem d_M_shutdown_116 : decode b_M_shutdown 116 = .ok (.aload_n 0, 1) := by decide +kernel
theorem d_M_shutdown_117 : decode b_M_shutdown 117 = .ok (.iload 4, 2) := by decide +kernel
theorem d_M_shutdown_119 : decode b_M_shutdown 119 = .ok (.invokevirtual 81, 3) := by decide +kernel
theorem d_M_shutdown_122 : decode b_M_shutdown 122 = .ok (.ifCond .eq 15, 3) := by decide +kernel
theorem d_M_shutdown_125 : decode b_M_shutdown 125 = .ok (.iload_n 3, 1) := by decide +kernel
theorem d_M_shutdown_126 : decode b_M_shutdown 126 = .ok (.aload_n 0, 1) := by decide +kernel
theorem d_M_shutdown_127 : decode b_M_shutdown 127 = .ok (.iload 4, 2) := by decide +kernel
theorem d_M_shutdown_129 : decode b_M_shutdown 129 = .ok (.invokevirtual 101, 3) := by decide +kernel
theorem d_M_shutdown_132 : decode b_M_shutdown 132 = .ok (.iadd, 1) := by decide +kernel
theorem d_M_shutdown_133 : decode b_M_shutdown 133 = .ok (.istore_n 3, 1) := by decide +kernel
theorem d_M_shutdown_134 : decode b_M_shutdown 134 = .ok (.goto 10, 3) := by decide +kernel
theorem d_M_shutdown_137 : decode b_M_shutdown 137 = .ok (.aload_n 0, 1) := by decide +kernel
theorem d_M_shutdown_138 : decode b_M_shutdown 138 = .ok (.iload 4, 2) := by decide +kernel
theorem d_M_shutdown_140 : decode b_M_shutdown 140 = .ok (.iconst 3, 1) := by decide +kernel
theorem d_M_shutdown_141 : decode b_M_shutdown 141 = .ok (.invokevirtual 84, 3) := by decide +kernel
theorem d_M_shutdown_144 : decode b_M_shutdown 144 = .ok (.iinc 4 1, 3) := by decide +kernel
theorem d_M_shutdown_147 : decode b_M_shutdown 147 = .ok (.goto (-57), 3) := by decide +kernel
theorem d_M_shutdown_150 : decode b_M_shutdown 150 = .ok (.iload_n 3, 1) := by decide +kernel
theorem d_M_shutdown_151 : decode b_M_shutdown 151 = .ok (.ireturn, 1) := by decide +kernel
theorem d_M_close_0 : decode b_M_close 0 = .ok (.aload_n 0, 1) := by decide +kernel
theorem d_M_close_1 : decode b_M_close 1 = .ok (.iconst 0, 1) := by decide +kernel
theorem d_M_close_2 : decode b_M_close 2 = .ok (.putfield 59, 3) := by decide +kernel
theorem d_M_close_5 : decode b_M_close 5 = .ok (.aload_n 0, 1) := by decide +kernel
theorem d_M_close_6 : decode b_M_close 6 = .ok (.getfield 66, 3) := by decide +kernel
theorem d_M_close_9 : decode b_M_close 9 = .ok (.ifCond .eq 6, 3) := by decide +kernel
theorem d_M_close_12 : decode b_M_close 12 = .ok (.bipush (-5), 2) := by decide +kernel
theorem d_M_close_14 : decode b_M_close 14 = .ok (.ireturn, 1) := by decide +kernel
theorem d_M_close_15 : decode b_M_close 15 = .ok (.aload_n 0, 1) := by decide +kernel
theorem d_M_close_16 : decode b_M_close 16 = .ok (.iconst 1, 1) := by decide +kernel
theorem d_M_close_17 : decode b_M_close 17 = .ok (.putfield 66, 3) := by decide +kernel
theorem d_M_close_20 : decode b_M_close 20 = .ok (.aload_n 0, 1) := by decide +kernel
theorem d_M_close_21 : decode b_M_close 21 = .ok (.iconst 0, 1) := by decide +kernel
theorem d_M_close_22 : decode b_M_close 22 = .ok (.putfield 74, 3) := by decide +kernel
theorem d_M_close_25 : decode b_M_close 25 = .ok (.iconst 0, 1) := by decide +kernel
theorem d_M_close_26 : decode b_M_close 26 = .ok (.istore_n 1, 1) := by decide +kernel
theorem d_M_close_27 : decode b_M_close 27 = .ok (.iconst 1, 1) := by decide +kernel
theorem d_M_close_28 : decode b_M_close 28 = .ok (.istore_n 2, 1) := by decide +kernel
theorem d_M_close_29 : decode b_M_close 29 = .ok (.iload_n 2, 1) := by decide +kernel
theorem d_M_close_30 : decode b_M_close 30 = .ok (.aload_n 0, 1) := by decide +kernel
theorem d_M_close_31 : decode b_M_close 31 = .ok (.getfield 63, 3) := by decide +kernel
theorem d_M_close_34 : decode b_M_close 34 = .ok (.if_icmp .gt 51, 3) := by decide +kernel
theorem d_M_close_37 : decode b_M_close 37 = .ok (.iload_n 1, 1) := by decide +kernel
theorem d_M_close_38 : decode b_M_close 38 = .ok (.aload_n 0, 1) := by decide +kernel
theorem d_M_close_39 : decode b_M_close 39 = .ok (.getfield 16, 3) := by decide +kernel
theorem d_M_close_42 : decode b_M_close 42 = .ok (.iload_n 2, 1) := by decide +kernel
theorem d_M_close_43 : decode b_M_close 43 = .ok (.iaload, 1) := by decide +kernel
theorem d_M_close_44 : decode b_M_close 44 = .ok (.ifCond .ne 7, 3) := by decide +kernel
theorem d_M_close_47 : decode b_M_close 47 = .ok (.iconst 1, 1) := by decide +kernel
theorem d_M_close_48 : decode b_M_close 48 = .ok (.goto 4, 3) := by decide +kernel
theorem d_M_close_51 : decode b_M_close 51 = .ok (.iconst 0, 1) := by decide +kernel
theorem d_M_close_52 : decode b_M_close 52 = .ok (.iadd, 1) := by decide +kernel
theorem d_M_close_53 : decode b_M_close 53 = .ok (.istore_n 1, 1) := by decide +kernel
theorem d_M_close_54 : decode b_M_close 54 = .ok (.aload_n 0, 1) := by decide +kernel
theorem d_M_close_55 : decode b_M_close 55 = .ok (.getfield 16, 3) := by decide +kernel
theorem d_M_close_58 : decode b_M_close 58 = .ok (.iload_n 2, 1) := by decide +kernel
theorem d_M_close_59 : decode b_M_close 59 = .ok (.aload_n 0, 1) := by decide +kernel
theorem d_M_close_60 : decode b_M_close 60 = .ok (.getfield 16, 3) := by decide +kernel
theorem d_M_close_63 : decode b_M_close 63 = .ok (.iload_n 2, 1) := by decide +kernel
theorem d_M_close_64 : decode b_M_close 64 = .ok (.iaload, 1) := by decide +kernel
theorem d_M_close_65 : decode b_M_close 65 = .ok (.ifCond .ne 7, 3) := by decide +kernel
theorem d_M_close_68 : decode b_M_close 68 = .ok (.iconst 4, 1) := by decide +kernel
theorem d_M_close_69 : decode b_M_close 69 = .ok (.goto 9, 3) := by decide +kernel
theorem d_M_close_72 : decode b_M_close 72 = .ok (.aload_n 0, 1) := by decide +kernel
theorem d_M_close_73 : decode b_M_close 73 = .ok (.getfield 16, 3) := by decide +kernel
theorem d_M_close_76 : decode b_M_close 76 = .ok (.iload_n 2, 1) := by decide +kernel
theorem d_M_close_77 : decode b_M_close 77 = .ok (.iaload, 1) := by decide +kernel
theorem d_M_close_78 : decode b_M_close 78 = .ok (.iastore, 1) := by decide +kernel
theorem d_M_close_79 : decode b_M_close 79 = .ok (.iinc 2 1, 3) := by decide +kernel
theorem d_M_close_82 : decode b_M_close 82 = .ok (.goto (-53), 3) := by decide +kernel
theorem d_M_close_85 : decode b_M_close 85 = .ok (.iload_n 1, 1) := by decide +kernel
theorem d_M_close_86 : decode b_M_close 86 = .ok (.ireturn, 1) := by decide +kernel
theorem d_M_log_0 : decode b_M_log 0 = .ok (.aload_n 0, 1) := by decide +kernel
theorem d_M_log_1 : decode b_M_log 1 = .ok (.iconst 0, 1) := by decide +kernel
theorem d_M_log_2 : decode b_M_log 2 = .ok (.putfield 59, 3) := by decide +kernel
theorem d_M_log_5 : decode b_M_log 5 = .ok (.iload_n 1, 1) := by decide +kernel
theorem d_M_log_6 : decode b_M_log 6 = .ok (.ifCond .lt 20, 3) := by decide +kernel
theorem d_M_log_9 : decode b_M_log 9 = .ok (.iload_n 1, 1) := by decide +kernel
theorem d_M_log_10 : decode b_M_log 10 = .ok (.aload_n 0, 1) := by decide +kernel
theorem d_M_log_11 : decode b_M_log 11 = .ok (.getfield 91, 3) := by decide +kernel
theorem d_M_log_14 : decode b_M_log 14 = .ok (.if_icmp .ge 12, 3) := by decide +kernel
theorem d_M_log_17 : decode b_M_log 17 = .ok (.aload_n 0, 1) := by decide +kernel
theorem d_M_log_18 : decode b_M_log 18 = .ok (.getfield 56, 3) := by decide +kernel
theorem d_M_log_21 : decode b_M_log 21 = .ok (.iload_n 1, 1) := by decide +kernel
theorem d_M_log_22 : decode b_M_log 22 = .ok (.iaload, 1) := by decide +kernel
theorem d_M_log_23 : decode b_M_log 23 = .ok (.goto 4, 3) := by decide +kernel
theorem d_M_log_26 : decode b_M_log 26 = .ok (.iconst 0, 1) := by decide +kernel
theorem d_M_log_27 : decode b_M_log 27 = .ok (.ireturn, 1) := by decide +kernel
theorem d_M_cleaned_0 : decode b_M_cleaned 0 = .ok (.aload_n 0, 1) := by decide +kernel
theorem d_M_cleaned_1 : decode b_M_cleaned 1 = .ok (.iconst 0, 1) := by decide +kernel
theorem d_M_cleaned_2 : decode b_M_cleaned 2 = .ok (.putfield 59, 3) := by decide +kernel
theorem d_M_cleaned_5 : decode b_M_cleaned 5 = .ok (.aload_n 0, 1) := by decide +kernel
theorem d_M_cleaned_6 : decode b_M_cleaned 6 = .ok (.iload_n 1, 1) := by decide +kernel
theorem d_M_cleaned_7 : decode b_M_cleaned 7 = .ok (.invokevirtual 70, 3) := by decide +kernel
theorem d_M_cleaned_10 : decode b_M_cleaned 10 = .ok (.ifCond .eq 12, 3) := by decide +kernel
theorem d_M_cleaned_13 : decode b_M_cleaned 13 = .ok (.aload_n 0, 1) := by decide +kernel
theorem d_M_cleaned_14 : decode b_M_cleaned 14 = .ok (.getfield 25, 3) := by decide +kernel
theorem d_M_cleaned_17 : decode b_M_cleaned 17 = .ok (.iload_n 1, 1) := by decide +kernel
theorem d_M_cleaned_18 : decode b_M_cleaned 18 = .ok (.iaload, 1) := by decide +kernel
theorem d_M_cleaned_19 : decode b_M_cleaned 19 = .ok (.goto 5, 3) := by decide +kernel
theorem d_M_cleaned_22 : decode b_M_cleaned 22 = .ok (.bipush (-2), 2) := by decide +kernel
theorem d_M_cleaned_24 : decode b_M_cleaned 24 = .ok (.ireturn, 1) := by decide +kernel
theorem d_M_backed_0 : decode b_M_backed 0 = .ok (.aload_n 0, 1) := by decide +kernel
theorem d_M_backed_1 : decode b_M_backed 1 = .ok (.iconst 0, 1) := by decide +kernel
theorem d_M_backed_2 : decode b_M_backed 2 = .ok (.putfield 59, 3) := by decide +kernel
theorem d_M_backed_5 : decode b_M_backed 5 = .ok (.aload_n 0, 1) := by decide +kernel
theorem d_M_backed_6 : decode b_M_backed 6 = .ok (.iload_n 1, 1) := by decide +kernel
theorem d_M_backed_7 : decode b_M_backed 7 = .ok (.invokevirtual 70, 3) := by decide +kernel
theorem d_M_backed_10 : decode b_M_backed 10 = .ok (.ifCond .eq 12, 3) := by decide +kernel
theorem d_M_backed_13 : decode b_M_backed 13 = .ok (.aload_n 0, 1) := by decide +kernel
theorem d_M_backed_14 : decode b_M_backed 14 = .ok (.getfield 28, 3) := by decide +kernel
theorem d_M_backed_17 : decode b_M_backed 17 = .ok (.iload_n 1, 1) := by decide +kernel
theorem d_M_backed_18 : decode b_M_backed 18 = .ok (.iaload, 1) := by decide +kernel
theorem d_M_backed_19 : decode b_M_backed 19 = .ok (.goto 5, 3) := by decide +kernel
theorem d_M_backed_22 : decode b_M_backed 22 = .ok (.bipush (-2), 2) := by decide +kernel
theorem d_M_backed_24 : decode b_M_backed 24 = .ok (.ireturn, 1) := by decide +kernel
theorem d_M_finished_0 : decode b_M_finished 0 = .ok (.aload_n 0, 1) := by decide +kernel
theorem d_M_finished_1 : decode b_M_finished 1 = .ok (.iconst 0, 1) := by decide +kernel
theorem d_M_finished_2 : decode b_M_finished 2 = .ok (.putfield 59, 3) := by decide +kernel
theorem d_M_finished_5 : decode b_M_finished 5 = .ok (.aload_n 0, 1) := by decide +kernel
theorem d_M_finished_6 : decode b_M_finished 6 = .ok (.iload_n 1, 1) := by decide +kernel
theorem d_M_finished_7 : decode b_M_finished 7 = .ok (.invokevirtual 70, 3) := by decide +kernel
theorem d_M_finished_10 : decode b_M_finished 10 = .ok (.ifCond .eq 12, 3) := by decide +kernel
theorem d_M_finished_13 : decode b_M_finished 13 = .ok (.aload_n 0, 1) := by decide +kernel
theorem d_M_finished_14 : decode b_M_finished 14 = .ok (.getfield 16, 3) := by decide +kernel
theorem d_M_finished_17 : decode b_M_finished 17 = .ok (.iload_n 1, 1) := by decide +kernel
theorem d_M_finished_18 : decode b_M_finished 18 = .ok (.iaload, 1) := by decide +kernel
theorem d_M_finished_19 : decode b_M_finished 19 = .ok (.goto 5, 3) := by decide +kernel
theorem d_M_finished_22 : decode b_M_finished 22 = .ok (.bipush (-2), 2) := by decide +kernel
theorem d_M_finished_24 : decode b_M_finished 24 = .ok (.ireturn, 1) := by decide +kernel
theorem d_M_done_0 : decode b_M_done 0 = .ok (.aload_n 0, 1) := by decide +kernel
theorem d_M_done_1 : decode b_M_done 1 = .ok (.iconst 0, 1) := by decide +kernel
theorem d_M_done_2 : decode b_M_done 2 = .ok (.putfield 59, 3) := by decide +kernel
theorem d_M_done_5 : decode b_M_done 5 = .ok (.aload_n 0, 1) := by decide +kernel
theorem d_M_done_6 : decode b_M_done 6 = .ok (.iload_n 1, 1) := by decide +kernel
theorem d_M_done_7 : decode b_M_done 7 = .ok (.invokevirtual 70, 3) := by decide +kernel
theorem d_M_done_10 : decode b_M_done 10 = .ok (.ifCond .eq 12, 3) := by decide +kernel
theorem d_M_done_13 : decode b_M_done 13 = .ok (.aload_n 0, 1) := by decide +kernel
theorem d_M_done_14 : decode b_M_done 14 = .ok (.getfield 19, 3) := by decide +kernel
theorem d_M_done_17 : decode b_M_done 17 = .ok (.iload_n 1, 1) := by decide +kernel
theorem d_M_done_18 : decode b_M_done 18 = .ok (.iaload, 1) := by decide +kernel
theorem d_M_done_19 : decode b_M_done 19 = .ok (.goto 5, 3) := by decide +kernel
theorem d_M_done_22 : decode b_M_done 22 = .ok (.bipush (-2), 2) := by decide +kernel
theorem d_M_done_24 : decode b_M_done 24 = .ok (.ireturn, 1) := by decide +kernel
theorem d_M_count_0 : decode b_M_count 0 = .ok (.aload_n 0, 1) := by decide +kernel
theorem d_M_count_1 : decode b_M_count 1 = .ok (.iconst 0, 1) := by decide +kernel
theorem d_M_count_2 : decode b_M_count 2 = .ok (.putfield 59, 3) := by decide +kernel
theorem d_M_count_5 : decode b_M_count 5 = .ok (.iconst 0, 1) := by decide +kernel
theorem d_M_count_6 : decode b_M_count 6 = .ok (.istore_n 2, 1) := by decide +kernel
theorem d_M_count_7 : decode b_M_count 7 = .ok (.iconst 1, 1) := by decide +kernel
theorem d_M_count_8 : decode b_M_count 8 = .ok (.istore_n 3, 1) := by decide +kernel
theorem d_M_count_9 : decode b_M_count 9 = .ok (.iload_n 3, 1) := by decide +kernel
theorem d_M_count_10 : decode b_M_count 10 = .ok (.aload_n 0, 1) := by decide +kernel
theorem d_M_count_11 : decode b_M_count 11 = .ok (.getfield 63, 3) := by decide +kernel
theorem d_M_count_14 : decode b_M_count 14 = .ok (.if_icmp .gt 26, 3) := by decide +kernel
theorem d_M_count_17 : decode b_M_count 17 = .ok (.iload_n 2, 1) := by decide +kernel
theorem d_M_count_18 : decode b_M_count 18 = .ok (.aload_n 0, 1) := by decide +kernel
theorem d_M_count_19 : decode b_M_count 19 = .ok (.getfield 16, 3) := by decide +kernel
theorem d_M_count_22 : decode b_M_count 22 = .ok (.iload_n 3, 1) := by decide +kernel
theorem d_M_count_23 : decode b_M_count 23 = .ok (.iaload, 1) := by decide +kernel
theorem d_M_count_24 : decode b_M_count 24 = .ok (.ifCond .ne 7, 3) := by decide +kernel
theorem d_M_count_27 : decode b_M_count 27 = .ok (.iconst 1, 1) := by decide +kernel
theorem d_M_count_28 : decode b_M_count 28 = .ok (.goto 4, 3) := by decide +kernel
theorem d_M_count_31 : decode b_M_count 31 = .ok (.iconst 0, 1) := by decide +kernel
theorem d_M_count_32 : decode b_M_count 32 = .ok (.iadd, 1) := by decide +kernel
theorem d_M_count_33 : decode b_M_count 33 = .ok (.istore_n 2, 1) := by decide +kernel
theorem d_M_count_34 : decode b_M_count 34 = .ok (.iinc 3 1, 3) := by decide +kernel
theorem d_M_count_37 : decode b_M_count 37 = .ok (.goto (-28), 3) := by decide +kernel
theorem d_M_count_40 : decode b_M_count 40 = .ok (.iload_n 1, 1) := by decide +kernel
theorem d_M_count_41 : decode b_M_count 41 = .ok (.tableswitch 74 0 5 #[39, 44, 49, 54, 56, 61], 39) := by decide +kernel
theorem d_M_count_80 : decode b_M_count 80 = .ok (.aload_n 0, 1) := by decide +kernel
theorem d_M_count_81 : decode b_M_count 81 = .ok (.getfield 63, 3) := by decide +kernel
theorem d_M_count_84 : decode b_M_count 84 = .ok (.ireturn, 1) := by decide +kernel
theorem d_M_count_85 : decode b_M_count 85 = .ok (.aload_n 0, 1) := by decide +kernel
theorem d_M_count_86 : decode b_M_count 86 = .ok (.getfield 74, 3) := by decide +kernel
theorem d_M_count_89 : decode b_M_count 89 = .ok (.ireturn, 1) := by decide +kernel
theorem d_M_count_90 : decode b_M_count 90 = .ok (.aload_n 0, 1) := by decide +kernel
theorem d_M_count_91 : decode b_M_count 91 = .ok (.getfield 91, 3) := by decide +kernel
theorem d_M_count_94 : decode b_M_count 94 = .ok (.ireturn, 1) := by decide +kernel
theorem d_M_count_95 : decode b_M_count 95 = .ok (.iload_n 2, 1) := by decide +kernel
theorem d_M_count_96 : decode b_M_count 96 = .ok (.ireturn, 1) := by decide +kernel
theorem d_M_count_97 : decode b_M_count 97 = .ok (.aload_n 0, 1) := by decide +kernel
theorem d_M_count_98 : decode b_M_count 98 = .ok (.getfield 98, 3) := by decide +kernel
theorem d_M_count_101 : decode b_M_count 101 = .ok (.ireturn, 1) := by decide +kernel
theorem d_M_count_102 : decode b_M_count 102 = .ok (.aload_n 0, 1) := by decide +kernel
theorem d_M_count_103 : decode b_M_count 103 = .ok (.getfield 66, 3) := by decide +kernel
theorem d_M_count_106 : decode b_M_count 106 = .ok (.ifCond .eq 7, 3) := by decide +kernel
theorem d_M_count_109 : decode b_M_count 109 = .ok (.iconst 1, 1) := by decide +kernel
theorem d_M_count_110 : decode b_M_count 110 = .ok (.goto 4, 3) := by decide +kernel
theorem d_M_count_113 : decode b_M_count 113 = .ok (.iconst 0, 1) := by decide +kernel
theorem d_M_count_114 : decode b_M_count 114 = .ok (.ireturn, 1) := by decide +kernel
theorem d_M_count_115 : decode b_M_count 115 = .ok (.iload_n 1, 1) := by decide +kernel
theorem d_M_count_116 : decode b_M_count 116 = .ok (.bipush 9, 2) := by decide +kernel
theorem d_M_count_118 : decode b_M_count 118 = .ok (.if_icmp .le 21, 3) := by decide +kernel
theorem d_M_count_121 : decode b_M_count 121 = .ok (.iload_n 1, 1) := by decide +kernel
theorem d_M_count_122 : decode b_M_count 122 = .ok (.bipush 26, 2) := by decide +kernel
theorem d_M_count_124 : decode b_M_count 124 = .ok (.if_icmp .ge 15, 3) := by decide +kernel
theorem d_M_count_127 : decode b_M_count 127 = .ok (.aload_n 0, 1) := by decide +kernel
theorem d_M_count_128 : decode b_M_count 128 = .ok (.getfield 53, 3) := by decide +kernel
theorem d_M_count_131 : decode b_M_count 131 = .ok (.iload_n 1, 1) := by decide +kernel
theorem d_M_count_132 : decode b_M_count 132 = .ok (.bipush 10, 2) := by decide +kernel
theorem d_M_count_134 : decode b_M_count 134 = .ok (.isub, 1) := by decide +kernel
theorem d_M_count_135 : decode b_M_count 135 = .ok (.iaload, 1) := by decide +kernel
theorem d_M_count_136 : decode b_M_count 136 = .ok (.goto 4, 3) := by decide +kernel
theorem d_M_count_139 : decode b_M_count 139 = .ok (.iconst (-1), 1) := by decide +kernel
theorem d_M_count_140 : decode b_M_count 140 = .ok (.ireturn, 1) := by decide +kernel
