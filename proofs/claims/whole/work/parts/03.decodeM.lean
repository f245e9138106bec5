theorem dM_init_0 : decode cM_init 0 = .ok (.aload_n 0, 1) := by decide +kernel
theorem dM_init_1 : decode cM_init 1 = .ok (.invokespecial 1, 3) := by decide +kernel
theorem dM_init_4 : decode cM_init 4 = .ok (.aload_n 0, 1) := by decide +kernel
theorem dM_init_5 : decode cM_init 5 = .ok (.bipush 8, 2) := by decide +kernel
theorem dM_init_7 : decode cM_init 7 = .ok (.newarray .boolean, 2) := by decide +kernel
theorem dM_init_9 : decode cM_init 9 = .ok (.putfield 7, 3) := by decide +kernel
theorem dM_init_12 : decode cM_init 12 = .ok (.aload_n 0, 1) := by decide +kernel
theorem dM_init_13 : decode cM_init 13 = .ok (.bipush 8, 2) := by decide +kernel
theorem dM_init_15 : decode cM_init 15 = .ok (.newarray .boolean, 2) := by decide +kernel
theorem dM_init_17 : decode cM_init 17 = .ok (.putfield 13, 3) := by decide +kernel
theorem dM_init_20 : decode cM_init 20 = .ok (.aload_n 0, 1) := by decide +kernel
theorem dM_init_21 : decode cM_init 21 = .ok (.bipush 8, 2) := by decide +kernel
theorem dM_init_23 : decode cM_init 23 = .ok (.newarray .int, 2) := by decide +kernel
theorem dM_init_25 : decode cM_init 25 = .ok (.putfield 16, 3) := by decide +kernel
theorem dM_init_28 : decode cM_init 28 = .ok (.aload_n 0, 1) := by decide +kernel
theorem dM_init_29 : decode cM_init 29 = .ok (.bipush 8, 2) := by decide +kernel
theorem dM_init_31 : decode cM_init 31 = .ok (.newarray .int, 2) := by decide +kernel
theorem dM_init_33 : decode cM_init 33 = .ok (.putfield 20, 3) := by decide +kernel
theorem dM_init_36 : decode cM_init 36 = .ok (.aload_n 0, 1) := by decide +kernel
theorem dM_init_37 : decode cM_init 37 = .ok (.bipush 8, 2) := by decide +kernel
theorem dM_init_39 : decode cM_init 39 = .ok (.newarray .int, 2) := by decide +kernel
theorem dM_init_41 : decode cM_init 41 = .ok (.putfield 23, 3) := by decide +kernel
theorem dM_init_44 : decode cM_init 44 = .ok (.aload_n 0, 1) := by decide +kernel
theorem dM_init_45 : decode cM_init 45 = .ok (.bipush 8, 2) := by decide +kernel
theorem dM_init_47 : decode cM_init 47 = .ok (.newarray .int, 2) := by decide +kernel
theorem dM_init_49 : decode cM_init 49 = .ok (.putfield 26, 3) := by decide +kernel
theorem dM_init_52 : decode cM_init 52 = .ok (.aload_n 0, 1) := by decide +kernel
theorem dM_init_53 : decode cM_init 53 = .ok (.bipush 8, 2) := by decide +kernel
theorem dM_init_55 : decode cM_init 55 = .ok (.newarray .boolean, 2) := by decide +kernel
theorem dM_init_57 : decode cM_init 57 = .ok (.putfield 29, 3) := by decide +kernel
theorem dM_init_60 : decode cM_init 60 = .ok (.aload_n 0, 1) := by decide +kernel
theorem dM_init_61 : decode cM_init 61 = .ok (.bipush 8, 2) := by decide +kernel
theorem dM_init_63 : decode cM_init 63 = .ok (.newarray .boolean, 2) := by decide +kernel
theorem dM_init_65 : decode cM_init 65 = .ok (.putfield 32, 3) := by decide +kernel
theorem dM_init_68 : decode cM_init 68 = .ok (.aload_n 0, 1) := by decide +kernel
theorem dM_init_69 : decode cM_init 69 = .ok (.bipush 8, 2) := by decide +kernel
theorem dM_init_71 : decode cM_init 71 = .ok (.newarray .int, 2) := by decide +kernel
theorem dM_init_73 : decode cM_init 73 = .ok (.putfield 35, 3) := by decide +kernel
theorem dM_init_76 : decode cM_init 76 = .ok (.aload_n 0, 1) := by decide +kernel
theorem dM_init_77 : decode cM_init 77 = .ok (.bipush 8, 2) := by decide +kernel
theorem dM_init_79 : decode cM_init 79 = .ok (.newarray .int, 2) := by decide +kernel
theorem dM_init_81 : decode cM_init 81 = .ok (.putfield 38, 3) := by decide +kernel
theorem dM_init_84 : decode cM_init 84 = .ok (.aload_n 0, 1) := by decide +kernel
theorem dM_init_85 : decode cM_init 85 = .ok (.bipush 8, 2) := by decide +kernel
theorem dM_init_87 : decode cM_init 87 = .ok (.newarray .boolean, 2) := by decide +kernel
theorem dM_init_89 : decode cM_init 89 = .ok (.putfield 41, 3) := by decide +kernel
theorem dM_init_92 : decode cM_init 92 = .ok (.aload_n 0, 1) := by decide +kernel
theorem dM_init_93 : decode cM_init 93 = .ok (.bipush 8, 2) := by decide +kernel
theorem dM_init_95 : decode cM_init 95 = .ok (.newarray .int, 2) := by decide +kernel
theorem dM_init_97 : decode cM_init 97 = .ok (.putfield 44, 3) := by decide +kernel
theorem dM_init_100 : decode cM_init 100 = .ok (.aload_n 0, 1) := by decide +kernel
theorem dM_init_101 : decode cM_init 101 = .ok (.bipush 8, 2) := by decide +kernel
theorem dM_init_103 : decode cM_init 103 = .ok (.newarray .int, 2) := by decide +kernel
theorem dM_init_105 : decode cM_init 105 = .ok (.putfield 47, 3) := by decide +kernel
theorem dM_init_108 : decode cM_init 108 = .ok (.aload_n 0, 1) := by decide +kernel
theorem dM_init_109 : decode cM_init 109 = .ok (.bipush 12, 2) := by decide +kernel
theorem dM_init_111 : decode cM_init 111 = .ok (.newarray .int, 2) := by decide +kernel
theorem dM_init_113 : decode cM_init 113 = .ok (.putfield 50, 3) := by decide +kernel
theorem dM_init_116 : decode cM_init 116 = .ok (.aload_n 0, 1) := by decide +kernel
theorem dM_init_117 : decode cM_init 117 = .ok (.bipush 12, 2) := by decide +kernel
theorem dM_init_119 : decode cM_init 119 = .ok (.newarray .int, 2) := by decide +kernel
theorem dM_init_121 : decode cM_init 121 = .ok (.putfield 53, 3) := by decide +kernel
theorem dM_init_124 : decode cM_init 124 = .ok (.aload_n 0, 1) := by decide +kernel
theorem dM_init_125 : decode cM_init 125 = .ok (.bipush 12, 2) := by decide +kernel
theorem dM_init_127 : decode cM_init 127 = .ok (.newarray .int, 2) := by decide +kernel
theorem dM_init_129 : decode cM_init 129 = .ok (.putfield 56, 3) := by decide +kernel
theorem dM_init_132 : decode cM_init 132 = .ok (.iconst 0, 1) := by decide +kernel
theorem dM_init_133 : decode cM_init 133 = .ok (.istore_n 1, 1) := by decide +kernel
theorem dM_init_134 : decode cM_init 134 = .ok (.iload_n 1, 1) := by decide +kernel
theorem dM_init_135 : decode cM_init 135 = .ok (.bipush 12, 2) := by decide +kernel
theorem dM_init_137 : decode cM_init 137 = .ok (.if_icmp .ge 16, 3) := by decide +kernel
theorem dM_init_140 : decode cM_init 140 = .ok (.aload_n 0, 1) := by decide +kernel
theorem dM_init_141 : decode cM_init 141 = .ok (.getfield 56, 3) := by decide +kernel
theorem dM_init_144 : decode cM_init 144 = .ok (.iload_n 1, 1) := by decide +kernel
theorem dM_init_145 : decode cM_init 145 = .ok (.iconst (-1), 1) := by decide +kernel
theorem dM_init_146 : decode cM_init 146 = .ok (.iastore, 1) := by decide +kernel
theorem dM_init_147 : decode cM_init 147 = .ok (.iinc 1 1, 3) := by decide +kernel
theorem dM_init_150 : decode cM_init 150 = .ok (.goto (-16), 3) := by decide +kernel
theorem dM_init_153 : decode cM_init 153 = .ok (.return_, 1) := by decide +kernel
theorem dM_thrown_0 : decode cM_thrown 0 = .ok (.aload_n 0, 1) := by decide +kernel
theorem dM_thrown_1 : decode cM_thrown 1 = .ok (.getfield 59, 3) := by decide +kernel
theorem dM_thrown_4 : decode cM_thrown 4 = .ok (.ireturn, 1) := by decide +kernel
theorem dM_raise_0 : decode cM_raise 0 = .ok (.aload_n 0, 1) := by decide +kernel
theorem dM_raise_1 : decode cM_raise 1 = .ok (.iload_n 1, 1) := by decide +kernel
theorem dM_raise_2 : decode cM_raise 2 = .ok (.putfield 59, 3) := by decide +kernel
theorem dM_raise_5 : decode cM_raise 5 = .ok (.iconst 0, 1) := by decide +kernel
theorem dM_raise_6 : decode cM_raise 6 = .ok (.ireturn, 1) := by decide +kernel
theorem dM_in_0 : decode cM_in 0 = .ok (.iload_n 0, 1) := by decide +kernel
theorem dM_in_1 : decode cM_in 1 = .ok (.iload_n 1, 1) := by decide +kernel
theorem dM_in_2 : decode cM_in 2 = .ok (.if_icmp .lt 12, 3) := by decide +kernel
theorem dM_in_5 : decode cM_in 5 = .ok (.iload_n 0, 1) := by decide +kernel
theorem dM_in_6 : decode cM_in 6 = .ok (.iload_n 2, 1) := by decide +kernel
theorem dM_in_7 : decode cM_in 7 = .ok (.if_icmp .gt 7, 3) := by decide +kernel
theorem dM_in_10 : decode cM_in 10 = .ok (.iconst 1, 1) := by decide +kernel
theorem dM_in_11 : decode cM_in 11 = .ok (.goto 4, 3) := by decide +kernel
theorem dM_in_14 : decode cM_in 14 = .ok (.iconst 0, 1) := by decide +kernel
theorem dM_in_15 : decode cM_in 15 = .ok (.ireturn, 1) := by decide +kernel
theorem dM_isTrain_0 : decode cM_isTrain 0 = .ok (.iload_n 1, 1) := by decide +kernel
theorem dM_isTrain_1 : decode cM_isTrain 1 = .ok (.iconst 0, 1) := by decide +kernel
theorem dM_isTrain_2 : decode cM_isTrain 2 = .ok (.aload_n 0, 1) := by decide +kernel
theorem dM_isTrain_3 : decode cM_isTrain 3 = .ok (.getfield 63, 3) := by decide +kernel
theorem dM_isTrain_6 : decode cM_isTrain 6 = .ok (.iconst 1, 1) := by decide +kernel
theorem dM_isTrain_7 : decode cM_isTrain 7 = .ok (.isub, 1) := by decide +kernel
theorem dM_isTrain_8 : decode cM_isTrain 8 = .ok (.invokestatic 66, 3) := by decide +kernel
theorem dM_isTrain_11 : decode cM_isTrain 11 = .ok (.ifCond .eq 16, 3) := by decide +kernel
theorem dM_isTrain_14 : decode cM_isTrain 14 = .ok (.aload_n 0, 1) := by decide +kernel
theorem dM_isTrain_15 : decode cM_isTrain 15 = .ok (.getfield 7, 3) := by decide +kernel
theorem dM_isTrain_18 : decode cM_isTrain 18 = .ok (.iload_n 1, 1) := by decide +kernel
theorem dM_isTrain_19 : decode cM_isTrain 19 = .ok (.baload, 1) := by decide +kernel
theorem dM_isTrain_20 : decode cM_isTrain 20 = .ok (.ifCond .eq 7, 3) := by decide +kernel
theorem dM_isTrain_23 : decode cM_isTrain 23 = .ok (.iconst 1, 1) := by decide +kernel
theorem dM_isTrain_24 : decode cM_isTrain 24 = .ok (.goto 4, 3) := by decide +kernel
theorem dM_isTrain_27 : decode cM_isTrain 27 = .ok (.iconst 0, 1) := by decide +kernel
theorem dM_isTrain_28 : decode cM_isTrain 28 = .ok (.ireturn, 1) := by decide +kernel
theorem dM_last_0 : decode cM_last 0 = .ok (.aload_n 0, 1) := by decide +kernel
theorem dM_last_1 : decode cM_last 1 = .ok (.getfield 16, 3) := by decide +kernel
theorem dM_last_4 : decode cM_last 4 = .ok (.iload_n 1, 1) := by decide +kernel
theorem dM_last_5 : decode cM_last 5 = .ok (.iaload, 1) := by decide +kernel
theorem dM_last_6 : decode cM_last 6 = .ok (.aload_n 0, 1) := by decide +kernel
theorem dM_last_7 : decode cM_last 7 = .ok (.getfield 20, 3) := by decide +kernel
theorem dM_last_10 : decode cM_last 10 = .ok (.iload_n 1, 1) := by decide +kernel
theorem dM_last_11 : decode cM_last 11 = .ok (.iaload, 1) := by decide +kernel
theorem dM_last_12 : decode cM_last 12 = .ok (.isub, 1) := by decide +kernel
theorem dM_last_13 : decode cM_last 13 = .ok (.iconst 1, 1) := by decide +kernel
theorem dM_last_14 : decode cM_last 14 = .ok (.iadd, 1) := by decide +kernel
theorem dM_last_15 : decode cM_last 15 = .ok (.ireturn, 1) := by decide +kernel
theorem dM_standsOn_0 : decode cM_standsOn 0 = .ok (.iconst 0, 1) := by decide +kernel
theorem dM_standsOn_1 : decode cM_standsOn 1 = .ok (.istore_n 3, 1) := by decide +kernel
theorem dM_standsOn_2 : decode cM_standsOn 2 = .ok (.iload_n 3, 1) := by decide +kernel
theorem dM_standsOn_3 : decode cM_standsOn 3 = .ok (.aload_n 0, 1) := by decide +kernel
theorem dM_standsOn_4 : decode cM_standsOn 4 = .ok (.getfield 63, 3) := by decide +kernel
theorem dM_standsOn_7 : decode cM_standsOn 7 = .ok (.if_icmp .ge 44, 3) := by decide +kernel
theorem dM_standsOn_10 : decode cM_standsOn 10 = .ok (.iload_n 3, 1) := by decide +kernel
theorem dM_standsOn_11 : decode cM_standsOn 11 = .ok (.iload_n 2, 1) := by decide +kernel
theorem dM_standsOn_12 : decode cM_standsOn 12 = .ok (.if_icmp .eq 33, 3) := by decide +kernel
theorem dM_standsOn_15 : decode cM_standsOn 15 = .ok (.aload_n 0, 1) := by decide +kernel
theorem dM_standsOn_16 : decode cM_standsOn 16 = .ok (.getfield 13, 3) := by decide +kernel
theorem dM_standsOn_19 : decode cM_standsOn 19 = .ok (.iload_n 3, 1) := by decide +kernel
theorem dM_standsOn_20 : decode cM_standsOn 20 = .ok (.baload, 1) := by decide +kernel
theorem dM_standsOn_21 : decode cM_standsOn 21 = .ok (.ifCond .eq 24, 3) := by decide +kernel
theorem dM_standsOn_24 : decode cM_standsOn 24 = .ok (.iload_n 1, 1) := by decide +kernel
theorem dM_standsOn_25 : decode cM_standsOn 25 = .ok (.aload_n 0, 1) := by decide +kernel
theorem dM_standsOn_26 : decode cM_standsOn 26 = .ok (.getfield 16, 3) := by decide +kernel
theorem dM_standsOn_29 : decode cM_standsOn 29 = .ok (.iload_n 3, 1) := by decide +kernel
theorem dM_standsOn_30 : decode cM_standsOn 30 = .ok (.iaload, 1) := by decide +kernel
theorem dM_standsOn_31 : decode cM_standsOn 31 = .ok (.if_icmp .gt 14, 3) := by decide +kernel
theorem dM_standsOn_34 : decode cM_standsOn 34 = .ok (.iload_n 1, 1) := by decide +kernel
theorem dM_standsOn_35 : decode cM_standsOn 35 = .ok (.aload_n 0, 1) := by decide +kernel
theorem dM_standsOn_36 : decode cM_standsOn 36 = .ok (.iload_n 3, 1) := by decide +kernel
theorem dM_standsOn_37 : decode cM_standsOn 37 = .ok (.invokevirtual 70, 3) := by decide +kernel
theorem dM_standsOn_40 : decode cM_standsOn 40 = .ok (.if_icmp .lt 5, 3) := by decide +kernel
theorem dM_standsOn_43 : decode cM_standsOn 43 = .ok (.iload_n 3, 1) := by decide +kernel
theorem dM_standsOn_44 : decode cM_standsOn 44 = .ok (.ireturn, 1) := by decide +kernel
theorem dM_standsOn_45 : decode cM_standsOn 45 = .ok (.iinc 3 1, 3) := by decide +kernel
theorem dM_standsOn_48 : decode cM_standsOn 48 = .ok (.goto (-46), 3) := by decide +kernel
theorem dM_standsOn_51 : decode cM_standsOn 51 = .ok (.iconst (-1), 1) := by decide +kernel
theorem dM_standsOn_52 : decode cM_standsOn 52 = .ok (.ireturn, 1) := by decide +kernel
theorem dM_occupied_0 : decode cM_occupied 0 = .ok (.iconst 0, 1) := by decide +kernel
theorem dM_occupied_1 : decode cM_occupied 1 = .ok (.istore_n 2, 1) := by decide +kernel
theorem dM_occupied_2 : decode cM_occupied 2 = .ok (.iload_n 2, 1) := by decide +kernel
theorem dM_occupied_3 : decode cM_occupied 3 = .ok (.aload_n 0, 1) := by decide +kernel
theorem dM_occupied_4 : decode cM_occupied 4 = .ok (.getfield 63, 3) := by decide +kernel
theorem dM_occupied_7 : decode cM_occupied 7 = .ok (.if_icmp .ge 45, 3) := by decide +kernel
theorem dM_occupied_10 : decode cM_occupied 10 = .ok (.aload_n 0, 1) := by decide +kernel
theorem dM_occupied_11 : decode cM_occupied 11 = .ok (.getfield 13, 3) := by decide +kernel
theorem dM_occupied_14 : decode cM_occupied 14 = .ok (.iload_n 2, 1) := by decide +kernel
theorem dM_occupied_15 : decode cM_occupied 15 = .ok (.baload, 1) := by decide +kernel
theorem dM_occupied_16 : decode cM_occupied 16 = .ok (.ifCond .eq 30, 3) := by decide +kernel
theorem dM_occupied_19 : decode cM_occupied 19 = .ok (.aload_n 0, 1) := by decide +kernel
theorem dM_occupied_20 : decode cM_occupied 20 = .ok (.getfield 16, 3) := by decide +kernel
theorem dM_occupied_23 : decode cM_occupied 23 = .ok (.iload_n 2, 1) := by decide +kernel
theorem dM_occupied_24 : decode cM_occupied 24 = .ok (.iaload, 1) := by decide +kernel
theorem dM_occupied_25 : decode cM_occupied 25 = .ok (.bipush 30, 2) := by decide +kernel
theorem dM_occupied_27 : decode cM_occupied 27 = .ok (.idiv, 1) := by decide +kernel
theorem dM_occupied_28 : decode cM_occupied 28 = .ok (.iload_n 1, 1) := by decide +kernel
theorem dM_occupied_29 : decode cM_occupied 29 = .ok (.if_icmp .lt 17, 3) := by decide +kernel
theorem dM_occupied_32 : decode cM_occupied 32 = .ok (.aload_n 0, 1) := by decide +kernel
theorem dM_occupied_33 : decode cM_occupied 33 = .ok (.iload_n 2, 1) := by decide +kernel
theorem dM_occupied_34 : decode cM_occupied 34 = .ok (.invokevirtual 70, 3) := by decide +kernel
theorem dM_occupied_37 : decode cM_occupied 37 = .ok (.bipush 30, 2) := by decide +kernel
theorem dM_occupied_39 : decode cM_occupied 39 = .ok (.idiv, 1) := by decide +kernel
theorem dM_occupied_40 : decode cM_occupied 40 = .ok (.iload_n 1, 1) := by decide +kernel
theorem dM_occupied_41 : decode cM_occupied 41 = .ok (.if_icmp .gt 5, 3) := by decide +kernel
theorem dM_occupied_44 : decode cM_occupied 44 = .ok (.iconst 1, 1) := by decide +kernel
theorem dM_occupied_45 : decode cM_occupied 45 = .ok (.ireturn, 1) := by decide +kernel
theorem dM_occupied_46 : decode cM_occupied 46 = .ok (.iinc 2 1, 3) := by decide +kernel
theorem dM_occupied_49 : decode cM_occupied 49 = .ok (.goto (-47), 3) := by decide +kernel
theorem dM_occupied_52 : decode cM_occupied 52 = .ok (.iconst 0, 1) := by decide +kernel
theorem dM_occupied_53 : decode cM_occupied 53 = .ok (.ireturn, 1) := by decide +kernel
theorem dM_mute_0 : decode cM_mute 0 = .ok (.aload_n 0, 1) := by decide +kernel
theorem dM_mute_1 : decode cM_mute 1 = .ok (.getfield 44, 3) := by decide +kernel
theorem dM_mute_4 : decode cM_mute 4 = .ok (.iload_n 1, 1) := by decide +kernel
theorem dM_mute_5 : decode cM_mute 5 = .ok (.iaload, 1) := by decide +kernel
theorem dM_mute_6 : decode cM_mute 6 = .ok (.iconst 5, 1) := by decide +kernel
theorem dM_mute_7 : decode cM_mute 7 = .ok (.if_icmp .le 7, 3) := by decide +kernel
theorem dM_mute_10 : decode cM_mute 10 = .ok (.iconst 1, 1) := by decide +kernel
theorem dM_mute_11 : decode cM_mute 11 = .ok (.goto 4, 3) := by decide +kernel
theorem dM_mute_14 : decode cM_mute 14 = .ok (.iconst 0, 1) := by decide +kernel
theorem dM_mute_15 : decode cM_mute 15 = .ok (.ireturn, 1) := by decide +kernel
theorem dM_located_0 : decode cM_located 0 = .ok (.aload_n 0, 1) := by decide +kernel
theorem dM_located_1 : decode cM_located 1 = .ok (.getfield 7, 3) := by decide +kernel
theorem dM_located_4 : decode cM_located 4 = .ok (.iload_n 1, 1) := by decide +kernel
theorem dM_located_5 : decode cM_located 5 = .ok (.baload, 1) := by decide +kernel
theorem dM_located_6 : decode cM_located 6 = .ok (.ifCond .eq 41, 3) := by decide +kernel
theorem dM_located_9 : decode cM_located 9 = .ok (.aload_n 0, 1) := by decide +kernel
theorem dM_located_10 : decode cM_located 10 = .ok (.iload_n 1, 1) := by decide +kernel
theorem dM_located_11 : decode cM_located 11 = .ok (.invokevirtual 74, 3) := by decide +kernel
theorem dM_located_14 : decode cM_located 14 = .ok (.ifCond .ne 33, 3) := by decide +kernel
theorem dM_located_17 : decode cM_located 17 = .ok (.aload_n 0, 1) := by decide +kernel
theorem dM_located_18 : decode cM_located 18 = .ok (.getfield 38, 3) := by decide +kernel
theorem dM_located_21 : decode cM_located 21 = .ok (.iload_n 1, 1) := by decide +kernel
theorem dM_located_22 : decode cM_located 22 = .ok (.iaload, 1) := by decide +kernel
theorem dM_located_23 : decode cM_located 23 = .ok (.bipush 10, 2) := by decide +kernel
theorem dM_located_25 : decode cM_located 25 = .ok (.idiv, 1) := by decide +kernel
theorem dM_located_26 : decode cM_located 26 = .ok (.iload_n 2, 1) := by decide +kernel
theorem dM_located_27 : decode cM_located 27 = .ok (.if_icmp .gt 20, 3) := by decide +kernel
theorem dM_located_30 : decode cM_located 30 = .ok (.aload_n 0, 1) := by decide +kernel
theorem dM_located_31 : decode cM_located 31 = .ok (.getfield 35, 3) := by decide +kernel
theorem dM_located_34 : decode cM_located 34 = .ok (.iload_n 1, 1) := by decide +kernel
theorem dM_located_35 : decode cM_located 35 = .ok (.iaload, 1) := by decide +kernel
theorem dM_located_36 : decode cM_located 36 = .ok (.bipush 10, 2) := by decide +kernel
theorem dM_located_38 : decode cM_located 38 = .ok (.idiv, 1) := by decide +kernel
theorem dM_located_39 : decode cM_located 39 = .ok (.iload_n 2, 1) := by decide +kernel
theorem dM_located_40 : decode cM_located 40 = .ok (.if_icmp .lt 7, 3) := by decide +kernel
theorem dM_located_43 : decode cM_located 43 = .ok (.iconst 1, 1) := by decide +kernel
theorem dM_located_44 : decode cM_located 44 = .ok (.goto 4, 3) := by decide +kernel
theorem dM_located_47 : decode cM_located 47 = .ok (.iconst 0, 1) := by decide +kernel
theorem dM_located_48 : decode cM_located 48 = .ok (.ireturn, 1) := by decide +kernel
theorem dM_claims_0 : decode cM_claims 0 = .ok (.aload_n 0, 1) := by decide +kernel
theorem dM_claims_1 : decode cM_claims 1 = .ok (.getfield 7, 3) := by decide +kernel
theorem dM_claims_4 : decode cM_claims 4 = .ok (.iload_n 1, 1) := by decide +kernel
theorem dM_claims_5 : decode cM_claims 5 = .ok (.baload, 1) := by decide +kernel
theorem dM_claims_6 : decode cM_claims 6 = .ok (.ifCond .eq 33, 3) := by decide +kernel
theorem dM_claims_9 : decode cM_claims 9 = .ok (.aload_n 0, 1) := by decide +kernel
theorem dM_claims_10 : decode cM_claims 10 = .ok (.getfield 38, 3) := by decide +kernel
theorem dM_claims_13 : decode cM_claims 13 = .ok (.iload_n 1, 1) := by decide +kernel
theorem dM_claims_14 : decode cM_claims 14 = .ok (.iaload, 1) := by decide +kernel
theorem dM_claims_15 : decode cM_claims 15 = .ok (.bipush 10, 2) := by decide +kernel
theorem dM_claims_17 : decode cM_claims 17 = .ok (.idiv, 1) := by decide +kernel
theorem dM_claims_18 : decode cM_claims 18 = .ok (.iload_n 2, 1) := by decide +kernel
theorem dM_claims_19 : decode cM_claims 19 = .ok (.if_icmp .gt 20, 3) := by decide +kernel
theorem dM_claims_22 : decode cM_claims 22 = .ok (.aload_n 0, 1) := by decide +kernel
theorem dM_claims_23 : decode cM_claims 23 = .ok (.getfield 26, 3) := by decide +kernel
theorem dM_claims_26 : decode cM_claims 26 = .ok (.iload_n 1, 1) := by decide +kernel
theorem dM_claims_27 : decode cM_claims 27 = .ok (.iaload, 1) := by decide +kernel
theorem dM_claims_28 : decode cM_claims 28 = .ok (.bipush 10, 2) := by decide +kernel
theorem dM_claims_30 : decode cM_claims 30 = .ok (.idiv, 1) := by decide +kernel
theorem dM_claims_31 : decode cM_claims 31 = .ok (.iload_n 2, 1) := by decide +kernel
theorem dM_claims_32 : decode cM_claims 32 = .ok (.if_icmp .lt 7, 3) := by decide +kernel
theorem dM_claims_35 : decode cM_claims 35 = .ok (.iconst 1, 1) := by decide +kernel
theorem dM_claims_36 : decode cM_claims 36 = .ok (.goto 4, 3) := by decide +kernel
theorem dM_claims_39 : decode cM_claims 39 = .ok (.iconst 0, 1) := by decide +kernel
theorem dM_claims_40 : decode cM_claims 40 = .ok (.ireturn, 1) := by decide +kernel
theorem dM_claimed_0 : decode cM_claimed 0 = .ok (.iconst 0, 1) := by decide +kernel
theorem dM_claimed_1 : decode cM_claimed 1 = .ok (.istore_n 3, 1) := by decide +kernel
theorem dM_claimed_2 : decode cM_claimed 2 = .ok (.iload_n 3, 1) := by decide +kernel
theorem dM_claimed_3 : decode cM_claimed 3 = .ok (.aload_n 0, 1) := by decide +kernel
theorem dM_claimed_4 : decode cM_claimed 4 = .ok (.getfield 63, 3) := by decide +kernel
theorem dM_claimed_7 : decode cM_claimed 7 = .ok (.if_icmp .ge 25, 3) := by decide +kernel
theorem dM_claimed_10 : decode cM_claimed 10 = .ok (.iload_n 3, 1) := by decide +kernel
theorem dM_claimed_11 : decode cM_claimed 11 = .ok (.iload_n 2, 1) := by decide +kernel
theorem dM_claimed_12 : decode cM_claimed 12 = .ok (.if_icmp .eq 14, 3) := by decide +kernel
theorem dM_claimed_15 : decode cM_claimed 15 = .ok (.aload_n 0, 1) := by decide +kernel
theorem dM_claimed_16 : decode cM_claimed 16 = .ok (.iload_n 3, 1) := by decide +kernel
theorem dM_claimed_17 : decode cM_claimed 17 = .ok (.iload_n 1, 1) := by decide +kernel
theorem dM_claimed_18 : decode cM_claimed 18 = .ok (.invokevirtual 78, 3) := by decide +kernel
theorem dM_claimed_21 : decode cM_claimed 21 = .ok (.ifCond .eq 5, 3) := by decide +kernel
theorem dM_claimed_24 : decode cM_claimed 24 = .ok (.iconst 1, 1) := by decide +kernel
theorem dM_claimed_25 : decode cM_claimed 25 = .ok (.ireturn, 1) := by decide +kernel
theorem dM_claimed_26 : decode cM_claimed 26 = .ok (.iinc 3 1, 3) := by decide +kernel
theorem dM_claimed_29 : decode cM_claimed 29 = .ok (.goto (-27), 3) := by decide +kernel
theorem dM_claimed_32 : decode cM_claimed 32 = .ok (.iconst 0, 1) := by decide +kernel
theorem dM_claimed_33 : decode cM_claimed 33 = .ok (.ireturn, 1) := by decide +kernel
theorem dM_left_0 : decode cM_left 0 = .ok (.iconst 0, 1) := by decide +kernel
theorem dM_left_1 : decode cM_left 1 = .ok (.istore_n 2, 1) := by decide +kernel
theorem dM_left_2 : decode cM_left 2 = .ok (.iload_n 2, 1) := by decide +kernel
theorem dM_left_3 : decode cM_left 3 = .ok (.aload_n 0, 1) := by decide +kernel
theorem dM_left_4 : decode cM_left 4 = .ok (.getfield 63, 3) := by decide +kernel
theorem dM_left_7 : decode cM_left 7 = .ok (.if_icmp .ge 76, 3) := by decide +kernel
theorem dM_left_10 : decode cM_left 10 = .ok (.aload_n 0, 1) := by decide +kernel
theorem dM_left_11 : decode cM_left 11 = .ok (.getfield 7, 3) := by decide +kernel
theorem dM_left_14 : decode cM_left 14 = .ok (.iload_n 2, 1) := by decide +kernel
theorem dM_left_15 : decode cM_left 15 = .ok (.baload, 1) := by decide +kernel
theorem dM_left_16 : decode cM_left 16 = .ok (.ifCond .eq 61, 3) := by decide +kernel
theorem dM_left_19 : decode cM_left 19 = .ok (.aload_n 0, 1) := by decide +kernel
theorem dM_left_20 : decode cM_left 20 = .ok (.getfield 44, 3) := by decide +kernel
theorem dM_left_23 : decode cM_left 23 = .ok (.iload_n 2, 1) := by decide +kernel
theorem dM_left_24 : decode cM_left 24 = .ok (.iaload, 1) := by decide +kernel
theorem dM_left_25 : decode cM_left 25 = .ok (.ifCond .ne 52, 3) := by decide +kernel
theorem dM_left_28 : decode cM_left 28 = .ok (.aload_n 0, 1) := by decide +kernel
theorem dM_left_29 : decode cM_left 29 = .ok (.getfield 41, 3) := by decide +kernel
theorem dM_left_32 : decode cM_left 32 = .ok (.iload_n 2, 1) := by decide +kernel
theorem dM_left_33 : decode cM_left 33 = .ok (.baload, 1) := by decide +kernel
theorem dM_left_34 : decode cM_left 34 = .ok (.ifCond .ne 43, 3) := by decide +kernel
theorem dM_left_37 : decode cM_left 37 = .ok (.aload_n 0, 1) := by decide +kernel
theorem dM_left_38 : decode cM_left 38 = .ok (.getfield 47, 3) := by decide +kernel
theorem dM_left_41 : decode cM_left 41 = .ok (.iload_n 2, 1) := by decide +kernel
theorem dM_left_42 : decode cM_left 42 = .ok (.iaload, 1) := by decide +kernel
theorem dM_left_43 : decode cM_left 43 = .ok (.ifCond .ge 6, 3) := by decide +kernel
theorem dM_left_46 : decode cM_left 46 = .ok (.goto 31, 3) := by decide +kernel
theorem dM_left_49 : decode cM_left 49 = .ok (.aload_n 0, 1) := by decide +kernel
theorem dM_left_50 : decode cM_left 50 = .ok (.getfield 47, 3) := by decide +kernel
theorem dM_left_53 : decode cM_left 53 = .ok (.iload_n 2, 1) := by decide +kernel
theorem dM_left_54 : decode cM_left 54 = .ok (.iaload, 1) := by decide +kernel
theorem dM_left_55 : decode cM_left 55 = .ok (.bipush 10, 2) := by decide +kernel
theorem dM_left_57 : decode cM_left 57 = .ok (.idiv, 1) := by decide +kernel
theorem dM_left_58 : decode cM_left 58 = .ok (.iload_n 1, 1) := by decide +kernel
theorem dM_left_59 : decode cM_left 59 = .ok (.if_icmp .gt 18, 3) := by decide +kernel
theorem dM_left_62 : decode cM_left 62 = .ok (.iload_n 1, 1) := by decide +kernel
theorem dM_left_63 : decode cM_left 63 = .ok (.aload_n 0, 1) := by decide +kernel
theorem dM_left_64 : decode cM_left 64 = .ok (.getfield 38, 3) := by decide +kernel
theorem dM_left_67 : decode cM_left 67 = .ok (.iload_n 2, 1) := by decide +kernel
theorem dM_left_68 : decode cM_left 68 = .ok (.iaload, 1) := by decide +kernel
theorem dM_left_69 : decode cM_left 69 = .ok (.bipush 10, 2) := by decide +kernel
theorem dM_left_71 : decode cM_left 71 = .ok (.idiv, 1) := by decide +kernel
theorem dM_left_72 : decode cM_left 72 = .ok (.if_icmp .ge 5, 3) := by decide +kernel
theorem dM_left_75 : decode cM_left 75 = .ok (.iconst 1, 1) := by decide +kernel
theorem dM_left_76 : decode cM_left 76 = .ok (.ireturn, 1) := by decide +kernel
theorem dM_left_77 : decode cM_left 77 = .ok (.iinc 2 1, 3) := by decide +kernel
theorem dM_left_80 : decode cM_left 80 = .ok (.goto (-78), 3) := by decide +kernel
theorem dM_left_83 : decode cM_left 83 = .ok (.iconst 0, 1) := by decide +kernel
theorem dM_left_84 : decode cM_left 84 = .ok (.ireturn, 1) := by decide +kernel
theorem dM_accounted_0 : decode cM_accounted 0 = .ok (.iconst 0, 1) := by decide +kernel
theorem dM_accounted_1 : decode cM_accounted 1 = .ok (.istore_n 2, 1) := by decide +kernel
theorem dM_accounted_2 : decode cM_accounted 2 = .ok (.iload_n 2, 1) := by decide +kernel
theorem dM_accounted_3 : decode cM_accounted 3 = .ok (.aload_n 0, 1) := by decide +kernel
theorem dM_accounted_4 : decode cM_accounted 4 = .ok (.getfield 63, 3) := by decide +kernel
theorem dM_accounted_7 : decode cM_accounted 7 = .ok (.if_icmp .ge 65, 3) := by decide +kernel
theorem dM_accounted_10 : decode cM_accounted 10 = .ok (.iconst 3, 1) := by decide +kernel
theorem dM_accounted_11 : decode cM_accounted 11 = .ok (.iload_n 1, 1) := by decide +kernel
theorem dM_accounted_12 : decode cM_accounted 12 = .ok (.imul, 1) := by decide +kernel
theorem dM_accounted_13 : decode cM_accounted 13 = .ok (.istore_n 3, 1) := by decide +kernel
theorem dM_accounted_14 : decode cM_accounted 14 = .ok (.iload_n 3, 1) := by decide +kernel
theorem dM_accounted_15 : decode cM_accounted 15 = .ok (.iconst 3, 1) := by decide +kernel
theorem dM_accounted_16 : decode cM_accounted 16 = .ok (.iload_n 1, 1) := by decide +kernel
theorem dM_accounted_17 : decode cM_accounted 17 = .ok (.imul, 1) := by decide +kernel
theorem dM_accounted_18 : decode cM_accounted 18 = .ok (.iconst 3, 1) := by decide +kernel
theorem dM_accounted_19 : decode cM_accounted 19 = .ok (.iadd, 1) := by decide +kernel
theorem dM_accounted_20 : decode cM_accounted 20 = .ok (.if_icmp .ge 46, 3) := by decide +kernel
theorem dM_accounted_23 : decode cM_accounted 23 = .ok (.aload_n 0, 1) := by decide +kernel
theorem dM_accounted_24 : decode cM_accounted 24 = .ok (.iload_n 2, 1) := by decide +kernel
theorem dM_accounted_25 : decode cM_accounted 25 = .ok (.iload_n 3, 1) := by decide +kernel
theorem dM_accounted_26 : decode cM_accounted 26 = .ok (.invokevirtual 82, 3) := by decide +kernel
theorem dM_accounted_29 : decode cM_accounted 29 = .ok (.ifCond .ne 29, 3) := by decide +kernel
theorem dM_accounted_32 : decode cM_accounted 32 = .ok (.aload_n 0, 1) := by decide +kernel
theorem dM_accounted_33 : decode cM_accounted 33 = .ok (.getfield 7, 3) := by decide +kernel
theorem dM_accounted_36 : decode cM_accounted 36 = .ok (.iload_n 2, 1) := by decide +kernel
theorem dM_accounted_37 : decode cM_accounted 37 = .ok (.baload, 1) := by decide +kernel
theorem dM_accounted_38 : decode cM_accounted 38 = .ok (.ifCond .eq 22, 3) := by decide +kernel
theorem dM_accounted_41 : decode cM_accounted 41 = .ok (.aload_n 0, 1) := by decide +kernel
theorem dM_accounted_42 : decode cM_accounted 42 = .ok (.iload_n 2, 1) := by decide +kernel
theorem dM_accounted_43 : decode cM_accounted 43 = .ok (.invokevirtual 74, 3) := by decide +kernel
theorem dM_accounted_46 : decode cM_accounted 46 = .ok (.ifCond .eq 14, 3) := by decide +kernel
theorem dM_accounted_49 : decode cM_accounted 49 = .ok (.aload_n 0, 1) := by decide +kernel
theorem dM_accounted_50 : decode cM_accounted 50 = .ok (.iload_n 2, 1) := by decide +kernel
theorem dM_accounted_51 : decode cM_accounted 51 = .ok (.iload_n 3, 1) := by decide +kernel
theorem dM_accounted_52 : decode cM_accounted 52 = .ok (.invokevirtual 78, 3) := by decide +kernel
theorem dM_accounted_55 : decode cM_accounted 55 = .ok (.ifCond .eq 5, 3) := by decide +kernel
theorem dM_accounted_58 : decode cM_accounted 58 = .ok (.iconst 1, 1) := by decide +kernel
theorem dM_accounted_59 : decode cM_accounted 59 = .ok (.ireturn, 1) := by decide +kernel
theorem dM_accounted_60 : decode cM_accounted 60 = .ok (.iinc 3 1, 3) := by decide +kernel
theorem dM_accounted_63 : decode cM_accounted 63 = .ok (.goto (-49), 3) := by decide +kernel
theorem dM_accounted_66 : decode cM_accounted 66 = .ok (.iinc 2 1, 3) := by decide +kernel
theorem dM_accounted_69 : decode cM_accounted 69 = .ok (.goto (-67), 3) := by decide +kernel
theorem dM_accounted_72 : decode cM_accounted 72 = .ok (.iconst 0, 1) := by decide +kernel
theorem dM_accounted_73 : decode cM_accounted 73 = .ok (.ireturn, 1) := by decide +kernel
theorem dM_many_0 : decode cM_many 0 = .ok (.iconst 0, 1) := by decide +kernel
theorem dM_many_1 : decode cM_many 1 = .ok (.istore_n 2, 1) := by decide +kernel
theorem dM_many_2 : decode cM_many 2 = .ok (.iconst 0, 1) := by decide +kernel
theorem dM_many_3 : decode cM_many 3 = .ok (.istore_n 3, 1) := by decide +kernel
theorem dM_many_4 : decode cM_many 4 = .ok (.iconst 0, 1) := by decide +kernel
theorem dM_many_5 : decode cM_many 5 = .ok (.istore 4, 2) := by decide +kernel
theorem dM_many_7 : decode cM_many 7 = .ok (.iload 4, 2) := by decide +kernel
theorem dM_many_9 : decode cM_many 9 = .ok (.aload_n 0, 1) := by decide +kernel
theorem dM_many_10 : decode cM_many 10 = .ok (.getfield 63, 3) := by decide +kernel
theorem dM_many_13 : decode cM_many 13 = .ok (.if_icmp .ge 28, 3) := by decide +kernel
theorem dM_many_16 : decode cM_many 16 = .ok (.aload_n 0, 1) := by decide +kernel
theorem dM_many_17 : decode cM_many 17 = .ok (.iload 4, 2) := by decide +kernel
theorem dM_many_19 : decode cM_many 19 = .ok (.iload_n 1, 1) := by decide +kernel
theorem dM_many_20 : decode cM_many 20 = .ok (.invokevirtual 82, 3) := by decide +kernel
theorem dM_many_23 : decode cM_many 23 = .ok (.ifCond .ne 6, 3) := by decide +kernel
theorem dM_many_26 : decode cM_many 26 = .ok (.goto 9, 3) := by decide +kernel
theorem dM_many_29 : decode cM_many 29 = .ok (.iinc 2 1, 3) := by decide +kernel
theorem dM_many_32 : decode cM_many 32 = .ok (.iload 4, 2) := by decide +kernel
theorem dM_many_34 : decode cM_many 34 = .ok (.istore_n 3, 1) := by decide +kernel
theorem dM_many_35 : decode cM_many 35 = .ok (.iinc 4 1, 3) := by decide +kernel
theorem dM_many_38 : decode cM_many 38 = .ok (.goto (-31), 3) := by decide +kernel
theorem dM_many_41 : decode cM_many 41 = .ok (.iload_n 2, 1) := by decide +kernel
theorem dM_many_42 : decode cM_many 42 = .ok (.iconst 1, 1) := by decide +kernel
theorem dM_many_43 : decode cM_many 43 = .ok (.if_icmp .ne 10, 3) := by decide +kernel
theorem dM_many_46 : decode cM_many 46 = .ok (.iload_n 3, 1) := by decide +kernel
theorem dM_many_47 : decode cM_many 47 = .ok (.bipush 100, 2) := by decide +kernel
theorem dM_many_49 : decode cM_many 49 = .ok (.isub, 1) := by decide +kernel
theorem dM_many_50 : decode cM_many 50 = .ok (.goto 4, 3) := by decide +kernel
theorem dM_many_53 : decode cM_many 53 = .ok (.iload_n 2, 1) := by decide +kernel
theorem dM_many_54 : decode cM_many 54 = .ok (.ireturn, 1) := by decide +kernel
theorem dM_found_0 : decode cM_found 0 = .ok (.aload_n 0, 1) := by decide +kernel
theorem dM_found_1 : decode cM_found 1 = .ok (.iload_n 1, 1) := by decide +kernel
theorem dM_found_2 : decode cM_found 2 = .ok (.iconst 3, 1) := by decide +kernel
theorem dM_found_3 : decode cM_found 3 = .ok (.idiv, 1) := by decide +kernel
theorem dM_found_4 : decode cM_found 4 = .ok (.invokevirtual 85, 3) := by decide +kernel
theorem dM_found_7 : decode cM_found 7 = .ok (.ifCond .ne 5, 3) := by decide +kernel
theorem dM_found_10 : decode cM_found 10 = .ok (.iconst 0, 1) := by decide +kernel
theorem dM_found_11 : decode cM_found 11 = .ok (.ireturn, 1) := by decide +kernel
theorem dM_found_12 : decode cM_found 12 = .ok (.aload_n 0, 1) := by decide +kernel
theorem dM_found_13 : decode cM_found 13 = .ok (.iload_n 1, 1) := by decide +kernel
theorem dM_found_14 : decode cM_found 14 = .ok (.invokevirtual 88, 3) := by decide +kernel
theorem dM_found_17 : decode cM_found 17 = .ok (.istore_n 2, 1) := by decide +kernel
theorem dM_found_18 : decode cM_found 18 = .ok (.iload_n 2, 1) := by decide +kernel
theorem dM_found_19 : decode cM_found 19 = .ok (.ifCond .eq 35, 3) := by decide +kernel
theorem dM_found_22 : decode cM_found 22 = .ok (.iload_n 2, 1) := by decide +kernel
theorem dM_found_23 : decode cM_found 23 = .ok (.ifCond .ge 29, 3) := by decide +kernel
theorem dM_found_26 : decode cM_found 26 = .ok (.aload_n 0, 1) := by decide +kernel
theorem dM_found_27 : decode cM_found 27 = .ok (.getfield 41, 3) := by decide +kernel
theorem dM_found_30 : decode cM_found 30 = .ok (.iload_n 2, 1) := by decide +kernel
theorem dM_found_31 : decode cM_found 31 = .ok (.bipush 100, 2) := by decide +kernel
theorem dM_found_33 : decode cM_found 33 = .ok (.iadd, 1) := by decide +kernel
theorem dM_found_34 : decode cM_found 34 = .ok (.baload, 1) := by decide +kernel
theorem dM_found_35 : decode cM_found 35 = .ok (.ifCond .eq 17, 3) := by decide +kernel
theorem dM_found_38 : decode cM_found 38 = .ok (.aload_n 0, 1) := by decide +kernel
theorem dM_found_39 : decode cM_found 39 = .ok (.getfield 50, 3) := by decide +kernel
theorem dM_found_42 : decode cM_found 42 = .ok (.iload_n 1, 1) := by decide +kernel
theorem dM_found_43 : decode cM_found 43 = .ok (.iaload, 1) := by decide +kernel
theorem dM_found_44 : decode cM_found 44 = .ok (.iconst 2, 1) := by decide +kernel
theorem dM_found_45 : decode cM_found 45 = .ok (.if_icmp .ge 7, 3) := by decide +kernel
theorem dM_found_48 : decode cM_found 48 = .ok (.iconst 1, 1) := by decide +kernel
theorem dM_found_49 : decode cM_found 49 = .ok (.goto 4, 3) := by decide +kernel
theorem dM_found_52 : decode cM_found 52 = .ok (.iconst 2, 1) := by decide +kernel
theorem dM_found_53 : decode cM_found 53 = .ok (.ireturn, 1) := by decide +kernel
theorem dM_found_54 : decode cM_found 54 = .ok (.aload_n 0, 1) := by decide +kernel
theorem dM_found_55 : decode cM_found 55 = .ok (.getfield 50, 3) := by decide +kernel
theorem dM_found_58 : decode cM_found 58 = .ok (.iload_n 1, 1) := by decide +kernel
theorem dM_found_59 : decode cM_found 59 = .ok (.iaload, 1) := by decide +kernel
theorem dM_found_60 : decode cM_found 60 = .ok (.ifCond .ne 27, 3) := by decide +kernel
theorem dM_found_63 : decode cM_found 63 = .ok (.aload_n 0, 1) := by decide +kernel
theorem dM_found_64 : decode cM_found 64 = .ok (.iload_n 1, 1) := by decide +kernel
theorem dM_found_65 : decode cM_found 65 = .ok (.iconst 3, 1) := by decide +kernel
theorem dM_found_66 : decode cM_found 66 = .ok (.idiv, 1) := by decide +kernel
theorem dM_found_67 : decode cM_found 67 = .ok (.invokevirtual 91, 3) := by decide +kernel
theorem dM_found_70 : decode cM_found 70 = .ok (.ifCond .eq 15, 3) := by decide +kernel
theorem dM_found_73 : decode cM_found 73 = .ok (.aload_n 0, 1) := by decide +kernel
theorem dM_found_74 : decode cM_found 74 = .ok (.iload_n 1, 1) := by decide +kernel
theorem dM_found_75 : decode cM_found 75 = .ok (.invokevirtual 94, 3) := by decide +kernel
theorem dM_found_78 : decode cM_found 78 = .ok (.ifCond .ne 7, 3) := by decide +kernel
theorem dM_found_81 : decode cM_found 81 = .ok (.iconst 0, 1) := by decide +kernel
theorem dM_found_82 : decode cM_found 82 = .ok (.goto 4, 3) := by decide +kernel
theorem dM_found_85 : decode cM_found 85 = .ok (.iconst 3, 1) := by decide +kernel
theorem dM_found_86 : decode cM_found 86 = .ok (.ireturn, 1) := by decide +kernel
theorem dM_found_87 : decode cM_found 87 = .ok (.aload_n 0, 1) := by decide +kernel
theorem dM_found_88 : decode cM_found 88 = .ok (.getfield 50, 3) := by decide +kernel
theorem dM_found_91 : decode cM_found 91 = .ok (.iload_n 1, 1) := by decide +kernel
theorem dM_found_92 : decode cM_found 92 = .ok (.iaload, 1) := by decide +kernel
theorem dM_found_93 : decode cM_found 93 = .ok (.iconst 1, 1) := by decide +kernel
theorem dM_found_94 : decode cM_found 94 = .ok (.if_icmp .gt 12, 3) := by decide +kernel
theorem dM_found_97 : decode cM_found 97 = .ok (.aload_n 0, 1) := by decide +kernel
theorem dM_found_98 : decode cM_found 98 = .ok (.getfield 56, 3) := by decide +kernel
theorem dM_found_101 : decode cM_found 101 = .ok (.iload_n 1, 1) := by decide +kernel
theorem dM_found_102 : decode cM_found 102 = .ok (.iaload, 1) := by decide +kernel
theorem dM_found_103 : decode cM_found 103 = .ok (.ifCond .ge 5, 3) := by decide +kernel
theorem dM_found_106 : decode cM_found 106 = .ok (.iconst 3, 1) := by decide +kernel
theorem dM_found_107 : decode cM_found 107 = .ok (.ireturn, 1) := by decide +kernel
theorem dM_found_108 : decode cM_found 108 = .ok (.aload_n 0, 1) := by decide +kernel
theorem dM_found_109 : decode cM_found 109 = .ok (.getfield 44, 3) := by decide +kernel
theorem dM_found_112 : decode cM_found 112 = .ok (.aload_n 0, 1) := by decide +kernel
theorem dM_found_113 : decode cM_found 113 = .ok (.getfield 56, 3) := by decide +kernel
theorem dM_found_116 : decode cM_found 116 = .ok (.iload_n 1, 1) := by decide +kernel
theorem dM_found_117 : decode cM_found 117 = .ok (.iaload, 1) := by decide +kernel
theorem dM_found_118 : decode cM_found 118 = .ok (.iaload, 1) := by decide +kernel
theorem dM_found_119 : decode cM_found 119 = .ok (.ifCond .ne 21, 3) := by decide +kernel
theorem dM_found_122 : decode cM_found 122 = .ok (.aload_n 0, 1) := by decide +kernel
theorem dM_found_123 : decode cM_found 123 = .ok (.getfield 41, 3) := by decide +kernel
theorem dM_found_126 : decode cM_found 126 = .ok (.aload_n 0, 1) := by decide +kernel
theorem dM_found_127 : decode cM_found 127 = .ok (.getfield 56, 3) := by decide +kernel
theorem dM_found_130 : decode cM_found 130 = .ok (.iload_n 1, 1) := by decide +kernel
theorem dM_found_131 : decode cM_found 131 = .ok (.iaload, 1) := by decide +kernel
theorem dM_found_132 : decode cM_found 132 = .ok (.baload, 1) := by decide +kernel
theorem dM_found_133 : decode cM_found 133 = .ok (.ifCond .eq 7, 3) := by decide +kernel
theorem dM_found_136 : decode cM_found 136 = .ok (.iconst 0, 1) := by decide +kernel
theorem dM_found_137 : decode cM_found 137 = .ok (.goto 4, 3) := by decide +kernel
theorem dM_found_140 : decode cM_found 140 = .ok (.iconst 3, 1) := by decide +kernel
theorem dM_found_141 : decode cM_found 141 = .ok (.ireturn, 1) := by decide +kernel
theorem dM_findStates_0 : decode cM_findStates 0 = .ok (.iconst 0, 1) := by decide +kernel
theorem dM_findStates_1 : decode cM_findStates 1 = .ok (.istore_n 1, 1) := by decide +kernel
theorem dM_findStates_2 : decode cM_findStates 2 = .ok (.iload_n 1, 1) := by decide +kernel
theorem dM_findStates_3 : decode cM_findStates 3 = .ok (.bipush 12, 2) := by decide +kernel
theorem dM_findStates_5 : decode cM_findStates 5 = .ok (.if_icmp .ge 20, 3) := by decide +kernel
theorem dM_findStates_8 : decode cM_findStates 8 = .ok (.aload_n 0, 1) := by decide +kernel
theorem dM_findStates_9 : decode cM_findStates 9 = .ok (.getfield 53, 3) := by decide +kernel
theorem dM_findStates_12 : decode cM_findStates 12 = .ok (.iload_n 1, 1) := by decide +kernel
theorem dM_findStates_13 : decode cM_findStates 13 = .ok (.aload_n 0, 1) := by decide +kernel
theorem dM_findStates_14 : decode cM_findStates 14 = .ok (.iload_n 1, 1) := by decide +kernel
theorem dM_findStates_15 : decode cM_findStates 15 = .ok (.invokevirtual 97, 3) := by decide +kernel
theorem dM_findStates_18 : decode cM_findStates 18 = .ok (.iastore, 1) := by decide +kernel
theorem dM_findStates_19 : decode cM_findStates 19 = .ok (.iinc 1 1, 3) := by decide +kernel
theorem dM_findStates_22 : decode cM_findStates 22 = .ok (.goto (-20), 3) := by decide +kernel
theorem dM_findStates_25 : decode cM_findStates 25 = .ok (.iconst 0, 1) := by decide +kernel
theorem dM_findStates_26 : decode cM_findStates 26 = .ok (.istore_n 1, 1) := by decide +kernel
theorem dM_findStates_27 : decode cM_findStates 27 = .ok (.iload_n 1, 1) := by decide +kernel
theorem dM_findStates_28 : decode cM_findStates 28 = .ok (.bipush 12, 2) := by decide +kernel
theorem dM_findStates_30 : decode cM_findStates 30 = .ok (.if_icmp .ge 116, 3) := by decide +kernel
theorem dM_findStates_33 : decode cM_findStates 33 = .ok (.aload_n 0, 1) := by decide +kernel
theorem dM_findStates_34 : decode cM_findStates 34 = .ok (.getfield 50, 3) := by decide +kernel
theorem dM_findStates_37 : decode cM_findStates 37 = .ok (.iload_n 1, 1) := by decide +kernel
theorem dM_findStates_38 : decode cM_findStates 38 = .ok (.aload_n 0, 1) := by decide +kernel
theorem dM_findStates_39 : decode cM_findStates 39 = .ok (.getfield 53, 3) := by decide +kernel
theorem dM_findStates_42 : decode cM_findStates 42 = .ok (.iload_n 1, 1) := by decide +kernel
theorem dM_findStates_43 : decode cM_findStates 43 = .ok (.iaload, 1) := by decide +kernel
theorem dM_findStates_44 : decode cM_findStates 44 = .ok (.iastore, 1) := by decide +kernel
theorem dM_findStates_45 : decode cM_findStates 45 = .ok (.aload_n 0, 1) := by decide +kernel
theorem dM_findStates_46 : decode cM_findStates 46 = .ok (.iload_n 1, 1) := by decide +kernel
theorem dM_findStates_47 : decode cM_findStates 47 = .ok (.invokevirtual 88, 3) := by decide +kernel
theorem dM_findStates_50 : decode cM_findStates 50 = .ok (.istore_n 2, 1) := by decide +kernel
theorem dM_findStates_51 : decode cM_findStates 51 = .ok (.aload_n 0, 1) := by decide +kernel
theorem dM_findStates_52 : decode cM_findStates 52 = .ok (.getfield 56, 3) := by decide +kernel
theorem dM_findStates_55 : decode cM_findStates 55 = .ok (.iload_n 1, 1) := by decide +kernel
theorem dM_findStates_56 : decode cM_findStates 56 = .ok (.iload_n 2, 1) := by decide +kernel
theorem dM_findStates_57 : decode cM_findStates 57 = .ok (.ifCond .ge 10, 3) := by decide +kernel
theorem dM_findStates_60 : decode cM_findStates 60 = .ok (.iload_n 2, 1) := by decide +kernel
theorem dM_findStates_61 : decode cM_findStates 61 = .ok (.bipush 100, 2) := by decide +kernel
theorem dM_findStates_63 : decode cM_findStates 63 = .ok (.iadd, 1) := by decide +kernel
theorem dM_findStates_64 : decode cM_findStates 64 = .ok (.goto 4, 3) := by decide +kernel
theorem dM_findStates_67 : decode cM_findStates 67 = .ok (.iconst (-1), 1) := by decide +kernel
theorem dM_findStates_68 : decode cM_findStates 68 = .ok (.iastore, 1) := by decide +kernel
theorem dM_findStates_69 : decode cM_findStates 69 = .ok (.aload_n 0, 1) := by decide +kernel
theorem dM_findStates_70 : decode cM_findStates 70 = .ok (.getfield 53, 3) := by decide +kernel
theorem dM_findStates_73 : decode cM_findStates 73 = .ok (.iload_n 1, 1) := by decide +kernel
theorem dM_findStates_74 : decode cM_findStates 74 = .ok (.iaload, 1) := by decide +kernel
theorem dM_findStates_75 : decode cM_findStates 75 = .ok (.ifCond .ne 65, 3) := by decide +kernel
theorem dM_findStates_78 : decode cM_findStates 78 = .ok (.aload_n 0, 1) := by decide +kernel
theorem dM_findStates_79 : decode cM_findStates 79 = .ok (.iload_n 1, 1) := by decide +kernel
theorem dM_findStates_80 : decode cM_findStates 80 = .ok (.iconst 3, 1) := by decide +kernel
theorem dM_findStates_81 : decode cM_findStates 81 = .ok (.idiv, 1) := by decide +kernel
theorem dM_findStates_82 : decode cM_findStates 82 = .ok (.invokevirtual 85, 3) := by decide +kernel
theorem dM_findStates_85 : decode cM_findStates 85 = .ok (.ifCond .ne 6, 3) := by decide +kernel
theorem dM_findStates_88 : decode cM_findStates 88 = .ok (.goto 52, 3) := by decide +kernel
theorem dM_findStates_91 : decode cM_findStates 91 = .ok (.iconst 0, 1) := by decide +kernel
theorem dM_findStates_92 : decode cM_findStates 92 = .ok (.istore_n 3, 1) := by decide +kernel
theorem dM_findStates_93 : decode cM_findStates 93 = .ok (.iload_n 3, 1) := by decide +kernel
theorem dM_findStates_94 : decode cM_findStates 94 = .ok (.aload_n 0, 1) := by decide +kernel
theorem dM_findStates_95 : decode cM_findStates 95 = .ok (.getfield 63, 3) := by decide +kernel
theorem dM_findStates_98 : decode cM_findStates 98 = .ok (.if_icmp .ge 42, 3) := by decide +kernel
theorem dM_findStates_101 : decode cM_findStates 101 = .ok (.aload_n 0, 1) := by decide +kernel
theorem dM_findStates_102 : decode cM_findStates 102 = .ok (.getfield 7, 3) := by decide +kernel
theorem dM_findStates_105 : decode cM_findStates 105 = .ok (.iload_n 3, 1) := by decide +kernel
theorem dM_findStates_106 : decode cM_findStates 106 = .ok (.baload, 1) := by decide +kernel
theorem dM_findStates_107 : decode cM_findStates 107 = .ok (.ifCond .eq 27, 3) := by decide +kernel
theorem dM_findStates_110 : decode cM_findStates 110 = .ok (.aload_n 0, 1) := by decide +kernel
theorem dM_findStates_111 : decode cM_findStates 111 = .ok (.iload_n 3, 1) := by decide +kernel
theorem dM_findStates_112 : decode cM_findStates 112 = .ok (.invokevirtual 74, 3) := by decide +kernel
theorem dM_findStates_115 : decode cM_findStates 115 = .ok (.ifCond .eq 19, 3) := by decide +kernel
theorem dM_findStates_118 : decode cM_findStates 118 = .ok (.aload_n 0, 1) := by decide +kernel
theorem dM_findStates_119 : decode cM_findStates 119 = .ok (.iload_n 3, 1) := by decide +kernel
theorem dM_findStates_120 : decode cM_findStates 120 = .ok (.iload_n 1, 1) := by decide +kernel
theorem dM_findStates_121 : decode cM_findStates 121 = .ok (.invokevirtual 78, 3) := by decide +kernel
theorem dM_findStates_124 : decode cM_findStates 124 = .ok (.ifCond .eq 10, 3) := by decide +kernel
theorem dM_findStates_127 : decode cM_findStates 127 = .ok (.aload_n 0, 1) := by decide +kernel
theorem dM_findStates_128 : decode cM_findStates 128 = .ok (.getfield 50, 3) := by decide +kernel
theorem dM_findStates_131 : decode cM_findStates 131 = .ok (.iload_n 1, 1) := by decide +kernel
theorem dM_findStates_132 : decode cM_findStates 132 = .ok (.iconst 3, 1) := by decide +kernel
theorem dM_findStates_133 : decode cM_findStates 133 = .ok (.iastore, 1) := by decide +kernel
theorem dM_findStates_134 : decode cM_findStates 134 = .ok (.iinc 3 1, 3) := by decide +kernel
theorem dM_findStates_137 : decode cM_findStates 137 = .ok (.goto (-44), 3) := by decide +kernel
theorem dM_findStates_140 : decode cM_findStates 140 = .ok (.iinc 1 1, 3) := by decide +kernel
theorem dM_findStates_143 : decode cM_findStates 143 = .ok (.goto (-116), 3) := by decide +kernel
theorem dM_findStates_146 : decode cM_findStates 146 = .ok (.return_, 1) := by decide +kernel
theorem dM_report_0 : decode cM_report 0 = .ok (.aload_n 0, 1) := by decide +kernel
theorem dM_report_1 : decode cM_report 1 = .ok (.getfield 35, 3) := by decide +kernel
theorem dM_report_4 : decode cM_report 4 = .ok (.iload_n 1, 1) := by decide +kernel
theorem dM_report_5 : decode cM_report 5 = .ok (.aload_n 0, 1) := by decide +kernel
theorem dM_report_6 : decode cM_report 6 = .ok (.getfield 16, 3) := by decide +kernel
theorem dM_report_9 : decode cM_report 9 = .ok (.iload_n 1, 1) := by decide +kernel
theorem dM_report_10 : decode cM_report 10 = .ok (.iaload, 1) := by decide +kernel
theorem dM_report_11 : decode cM_report 11 = .ok (.iastore, 1) := by decide +kernel
theorem dM_report_12 : decode cM_report 12 = .ok (.aload_n 0, 1) := by decide +kernel
theorem dM_report_13 : decode cM_report 13 = .ok (.getfield 38, 3) := by decide +kernel
theorem dM_report_16 : decode cM_report 16 = .ok (.iload_n 1, 1) := by decide +kernel
theorem dM_report_17 : decode cM_report 17 = .ok (.aload_n 0, 1) := by decide +kernel
theorem dM_report_18 : decode cM_report 18 = .ok (.iload_n 1, 1) := by decide +kernel
theorem dM_report_19 : decode cM_report 19 = .ok (.invokevirtual 70, 3) := by decide +kernel
theorem dM_report_22 : decode cM_report 22 = .ok (.iastore, 1) := by decide +kernel
theorem dM_report_23 : decode cM_report 23 = .ok (.aload_n 0, 1) := by decide +kernel
theorem dM_report_24 : decode cM_report 24 = .ok (.getfield 41, 3) := by decide +kernel
theorem dM_report_27 : decode cM_report 27 = .ok (.iload_n 1, 1) := by decide +kernel
theorem dM_report_28 : decode cM_report 28 = .ok (.aload_n 0, 1) := by decide +kernel
theorem dM_report_29 : decode cM_report 29 = .ok (.getfield 32, 3) := by decide +kernel
theorem dM_report_32 : decode cM_report 32 = .ok (.iload_n 1, 1) := by decide +kernel
theorem dM_report_33 : decode cM_report 33 = .ok (.baload, 1) := by decide +kernel
theorem dM_report_34 : decode cM_report 34 = .ok (.bastore, 1) := by decide +kernel
theorem dM_report_35 : decode cM_report 35 = .ok (.aload_n 0, 1) := by decide +kernel
theorem dM_report_36 : decode cM_report 36 = .ok (.getfield 44, 3) := by decide +kernel
theorem dM_report_39 : decode cM_report 39 = .ok (.iload_n 1, 1) := by decide +kernel
theorem dM_report_40 : decode cM_report 40 = .ok (.iconst 0, 1) := by decide +kernel
theorem dM_report_41 : decode cM_report 41 = .ok (.iastore, 1) := by decide +kernel
theorem dM_report_42 : decode cM_report 42 = .ok (.return_, 1) := by decide +kernel
theorem dM_enter_0 : decode cM_enter 0 = .ok (.aload_n 0, 1) := by decide +kernel
theorem dM_enter_1 : decode cM_enter 1 = .ok (.iconst 0, 1) := by decide +kernel
theorem dM_enter_2 : decode cM_enter 2 = .ok (.putfield 59, 3) := by decide +kernel
theorem dM_enter_5 : decode cM_enter 5 = .ok (.iload_n 2, 1) := by decide +kernel
theorem dM_enter_6 : decode cM_enter 6 = .ok (.iconst 1, 1) := by decide +kernel
theorem dM_enter_7 : decode cM_enter 7 = .ok (.bipush 40, 2) := by decide +kernel
theorem dM_enter_9 : decode cM_enter 9 = .ok (.invokestatic 66, 3) := by decide +kernel
theorem dM_enter_12 : decode cM_enter 12 = .ok (.ifCond .eq 20, 3) := by decide +kernel
theorem dM_enter_15 : decode cM_enter 15 = .ok (.iload_n 1, 1) := by decide +kernel
theorem dM_enter_16 : decode cM_enter 16 = .ok (.iconst 0, 1) := by decide +kernel
theorem dM_enter_17 : decode cM_enter 17 = .ok (.bipush 119, 2) := by decide +kernel
theorem dM_enter_19 : decode cM_enter 19 = .ok (.invokestatic 66, 3) := by decide +kernel
theorem dM_enter_22 : decode cM_enter 22 = .ok (.ifCond .eq 10, 3) := by decide +kernel
theorem dM_enter_25 : decode cM_enter 25 = .ok (.iload_n 1, 1) := by decide +kernel
theorem dM_enter_26 : decode cM_enter 26 = .ok (.iload_n 2, 1) := by decide +kernel
theorem dM_enter_27 : decode cM_enter 27 = .ok (.isub, 1) := by decide +kernel
theorem dM_enter_28 : decode cM_enter 28 = .ok (.iconst (-1), 1) := by decide +kernel
theorem dM_enter_29 : decode cM_enter 29 = .ok (.if_icmp .ge 9, 3) := by decide +kernel
theorem dM_enter_32 : decode cM_enter 32 = .ok (.aload_n 0, 1) := by decide +kernel
theorem dM_enter_33 : decode cM_enter 33 = .ok (.iconst 1, 1) := by decide +kernel
theorem dM_enter_34 : decode cM_enter 34 = .ok (.invokevirtual 100, 3) := by decide +kernel
theorem dM_enter_37 : decode cM_enter 37 = .ok (.ireturn, 1) := by decide +kernel
theorem dM_enter_38 : decode cM_enter 38 = .ok (.aload_n 0, 1) := by decide +kernel
theorem dM_enter_39 : decode cM_enter 39 = .ok (.getfield 63, 3) := by decide +kernel
theorem dM_enter_42 : decode cM_enter 42 = .ok (.bipush 8, 2) := by decide +kernel
theorem dM_enter_44 : decode cM_enter 44 = .ok (.if_icmp .ne 9, 3) := by decide +kernel
theorem dM_enter_47 : decode cM_enter 47 = .ok (.aload_n 0, 1) := by decide +kernel
theorem dM_enter_48 : decode cM_enter 48 = .ok (.iconst 2, 1) := by decide +kernel
theorem dM_enter_49 : decode cM_enter 49 = .ok (.invokevirtual 100, 3) := by decide +kernel
theorem dM_enter_52 : decode cM_enter 52 = .ok (.ireturn, 1) := by decide +kernel
theorem dM_enter_53 : decode cM_enter 53 = .ok (.iload_n 1, 1) := by decide +kernel
theorem dM_enter_54 : decode cM_enter 54 = .ok (.iload_n 2, 1) := by decide +kernel
theorem dM_enter_55 : decode cM_enter 55 = .ok (.isub, 1) := by decide +kernel
theorem dM_enter_56 : decode cM_enter 56 = .ok (.iconst 1, 1) := by decide +kernel
theorem dM_enter_57 : decode cM_enter 57 = .ok (.iadd, 1) := by decide +kernel
theorem dM_enter_58 : decode cM_enter 58 = .ok (.istore_n 3, 1) := by decide +kernel
theorem dM_enter_59 : decode cM_enter 59 = .ok (.iload_n 3, 1) := by decide +kernel
theorem dM_enter_60 : decode cM_enter 60 = .ok (.iload_n 1, 1) := by decide +kernel
theorem dM_enter_61 : decode cM_enter 61 = .ok (.if_icmp .gt 36, 3) := by decide +kernel
theorem dM_enter_64 : decode cM_enter 64 = .ok (.aload_n 0, 1) := by decide +kernel
theorem dM_enter_65 : decode cM_enter 65 = .ok (.iload_n 3, 1) := by decide +kernel
theorem dM_enter_66 : decode cM_enter 66 = .ok (.iconst (-1), 1) := by decide +kernel
theorem dM_enter_67 : decode cM_enter 67 = .ok (.invokevirtual 103, 3) := by decide +kernel
theorem dM_enter_70 : decode cM_enter 70 = .ok (.ifCond .ge 15, 3) := by decide +kernel
theorem dM_enter_73 : decode cM_enter 73 = .ok (.aload_n 0, 1) := by decide +kernel
theorem dM_enter_74 : decode cM_enter 74 = .ok (.iload_n 3, 1) := by decide +kernel
theorem dM_enter_75 : decode cM_enter 75 = .ok (.bipush 10, 2) := by decide +kernel
theorem dM_enter_77 : decode cM_enter 77 = .ok (.idiv, 1) := by decide +kernel
theorem dM_enter_78 : decode cM_enter 78 = .ok (.iconst (-1), 1) := by decide +kernel
theorem dM_enter_79 : decode cM_enter 79 = .ok (.invokevirtual 107, 3) := by decide +kernel
theorem dM_enter_82 : decode cM_enter 82 = .ok (.ifCond .eq 9, 3) := by decide +kernel
theorem dM_enter_85 : decode cM_enter 85 = .ok (.aload_n 0, 1) := by decide +kernel
theorem dM_enter_86 : decode cM_enter 86 = .ok (.iconst 2, 1) := by decide +kernel
theorem dM_enter_87 : decode cM_enter 87 = .ok (.invokevirtual 100, 3) := by decide +kernel
theorem dM_enter_90 : decode cM_enter 90 = .ok (.ireturn, 1) := by decide +kernel
theorem dM_enter_91 : decode cM_enter 91 = .ok (.iinc 3 1, 3) := by decide +kernel
theorem dM_enter_94 : decode cM_enter 94 = .ok (.goto (-35), 3) := by decide +kernel
theorem dM_enter_97 : decode cM_enter 97 = .ok (.aload_n 0, 1) := by decide +kernel
theorem dM_enter_98 : decode cM_enter 98 = .ok (.getfield 63, 3) := by decide +kernel
theorem dM_enter_101 : decode cM_enter 101 = .ok (.istore_n 3, 1) := by decide +kernel
theorem dM_enter_102 : decode cM_enter 102 = .ok (.aload_n 0, 1) := by decide +kernel
theorem dM_enter_103 : decode cM_enter 103 = .ok (.dup, 1) := by decide +kernel
theorem dM_enter_104 : decode cM_enter 104 = .ok (.getfield 63, 3) := by decide +kernel
theorem dM_enter_107 : decode cM_enter 107 = .ok (.iconst 1, 1) := by decide +kernel
theorem dM_enter_108 : decode cM_enter 108 = .ok (.iadd, 1) := by decide +kernel
theorem dM_enter_109 : decode cM_enter 109 = .ok (.putfield 63, 3) := by decide +kernel
theorem dM_enter_112 : decode cM_enter 112 = .ok (.aload_n 0, 1) := by decide +kernel
theorem dM_enter_113 : decode cM_enter 113 = .ok (.getfield 7, 3) := by decide +kernel
theorem dM_enter_116 : decode cM_enter 116 = .ok (.iload_n 3, 1) := by decide +kernel
theorem dM_enter_117 : decode cM_enter 117 = .ok (.iconst 1, 1) := by decide +kernel
theorem dM_enter_118 : decode cM_enter 118 = .ok (.bastore, 1) := by decide +kernel
theorem dM_enter_119 : decode cM_enter 119 = .ok (.aload_n 0, 1) := by decide +kernel
theorem dM_enter_120 : decode cM_enter 120 = .ok (.getfield 13, 3) := by decide +kernel
theorem dM_enter_123 : decode cM_enter 123 = .ok (.iload_n 3, 1) := by decide +kernel
theorem dM_enter_124 : decode cM_enter 124 = .ok (.iconst 1, 1) := by decide +kernel
theorem dM_enter_125 : decode cM_enter 125 = .ok (.bastore, 1) := by decide +kernel
theorem dM_enter_126 : decode cM_enter 126 = .ok (.aload_n 0, 1) := by decide +kernel
theorem dM_enter_127 : decode cM_enter 127 = .ok (.getfield 16, 3) := by decide +kernel
theorem dM_enter_130 : decode cM_enter 130 = .ok (.iload_n 3, 1) := by decide +kernel
theorem dM_enter_131 : decode cM_enter 131 = .ok (.iload_n 1, 1) := by decide +kernel
theorem dM_enter_132 : decode cM_enter 132 = .ok (.iastore, 1) := by decide +kernel
theorem dM_enter_133 : decode cM_enter 133 = .ok (.aload_n 0, 1) := by decide +kernel
theorem dM_enter_134 : decode cM_enter 134 = .ok (.getfield 20, 3) := by decide +kernel
theorem dM_enter_137 : decode cM_enter 137 = .ok (.iload_n 3, 1) := by decide +kernel
theorem dM_enter_138 : decode cM_enter 138 = .ok (.iload_n 2, 1) := by decide +kernel
theorem dM_enter_139 : decode cM_enter 139 = .ok (.iastore, 1) := by decide +kernel
theorem dM_enter_140 : decode cM_enter 140 = .ok (.aload_n 0, 1) := by decide +kernel
theorem dM_enter_141 : decode cM_enter 141 = .ok (.getfield 26, 3) := by decide +kernel
theorem dM_enter_144 : decode cM_enter 144 = .ok (.iload_n 3, 1) := by decide +kernel
theorem dM_enter_145 : decode cM_enter 145 = .ok (.iload_n 1, 1) := by decide +kernel
theorem dM_enter_146 : decode cM_enter 146 = .ok (.iastore, 1) := by decide +kernel
theorem dM_enter_147 : decode cM_enter 147 = .ok (.aload_n 0, 1) := by decide +kernel
theorem dM_enter_148 : decode cM_enter 148 = .ok (.getfield 32, 3) := by decide +kernel
theorem dM_enter_151 : decode cM_enter 151 = .ok (.iload_n 3, 1) := by decide +kernel
theorem dM_enter_152 : decode cM_enter 152 = .ok (.iconst 1, 1) := by decide +kernel
theorem dM_enter_153 : decode cM_enter 153 = .ok (.bastore, 1) := by decide +kernel
theorem dM_enter_154 : decode cM_enter 154 = .ok (.aload_n 0, 1) := by decide +kernel
theorem dM_enter_155 : decode cM_enter 155 = .ok (.getfield 47, 3) := by decide +kernel
theorem dM_enter_158 : decode cM_enter 158 = .ok (.iload_n 3, 1) := by decide +kernel
theorem dM_enter_159 : decode cM_enter 159 = .ok (.iconst (-1), 1) := by decide +kernel
theorem dM_enter_160 : decode cM_enter 160 = .ok (.iastore, 1) := by decide +kernel
theorem dM_enter_161 : decode cM_enter 161 = .ok (.aload_n 0, 1) := by decide +kernel
theorem dM_enter_162 : decode cM_enter 162 = .ok (.iload_n 3, 1) := by decide +kernel
theorem dM_enter_163 : decode cM_enter 163 = .ok (.invokevirtual 110, 3) := by decide +kernel
theorem dM_enter_166 : decode cM_enter 166 = .ok (.aload_n 0, 1) := by decide +kernel
theorem dM_enter_167 : decode cM_enter 167 = .ok (.invokevirtual 114, 3) := by decide +kernel
theorem dM_enter_170 : decode cM_enter 170 = .ok (.iload_n 3, 1) := by decide +kernel
theorem dM_enter_171 : decode cM_enter 171 = .ok (.ireturn, 1) := by decide +kernel
theorem dM_drive_0 : decode cM_drive 0 = .ok (.aload_n 0, 1) := by decide +kernel
theorem dM_drive_1 : decode cM_drive 1 = .ok (.iconst 0, 1) := by decide +kernel
theorem dM_drive_2 : decode cM_drive 2 = .ok (.putfield 59, 3) := by decide +kernel
theorem dM_drive_5 : decode cM_drive 5 = .ok (.aload_n 0, 1) := by decide +kernel
theorem dM_drive_6 : decode cM_drive 6 = .ok (.iload_n 1, 1) := by decide +kernel
theorem dM_drive_7 : decode cM_drive 7 = .ok (.invokevirtual 117, 3) := by decide +kernel
theorem dM_drive_10 : decode cM_drive 10 = .ok (.ifCond .ne 9, 3) := by decide +kernel
theorem dM_drive_13 : decode cM_drive 13 = .ok (.aload_n 0, 1) := by decide +kernel
theorem dM_drive_14 : decode cM_drive 14 = .ok (.iconst 1, 1) := by decide +kernel
theorem dM_drive_15 : decode cM_drive 15 = .ok (.invokevirtual 100, 3) := by decide +kernel
theorem dM_drive_18 : decode cM_drive 18 = .ok (.ireturn, 1) := by decide +kernel
theorem dM_drive_19 : decode cM_drive 19 = .ok (.iload_n 2, 1) := by decide +kernel
theorem dM_drive_20 : decode cM_drive 20 = .ok (.iconst 0, 1) := by decide +kernel
theorem dM_drive_21 : decode cM_drive 21 = .ok (.bipush 9, 2) := by decide +kernel
theorem dM_drive_23 : decode cM_drive 23 = .ok (.invokestatic 66, 3) := by decide +kernel
theorem dM_drive_26 : decode cM_drive 26 = .ok (.ifCond .ne 9, 3) := by decide +kernel
theorem dM_drive_29 : decode cM_drive 29 = .ok (.aload_n 0, 1) := by decide +kernel
theorem dM_drive_30 : decode cM_drive 30 = .ok (.iconst 2, 1) := by decide +kernel
theorem dM_drive_31 : decode cM_drive 31 = .ok (.invokevirtual 100, 3) := by decide +kernel
theorem dM_drive_34 : decode cM_drive 34 = .ok (.ireturn, 1) := by decide +kernel
theorem dM_drive_35 : decode cM_drive 35 = .ok (.aload_n 0, 1) := by decide +kernel
theorem dM_drive_36 : decode cM_drive 36 = .ok (.getfield 23, 3) := by decide +kernel
theorem dM_drive_39 : decode cM_drive 39 = .ok (.iload_n 1, 1) := by decide +kernel
theorem dM_drive_40 : decode cM_drive 40 = .ok (.iaload, 1) := by decide +kernel
theorem dM_drive_41 : decode cM_drive 41 = .ok (.istore_n 3, 1) := by decide +kernel
theorem dM_drive_42 : decode cM_drive 42 = .ok (.aload_n 0, 1) := by decide +kernel
theorem dM_drive_43 : decode cM_drive 43 = .ok (.getfield 23, 3) := by decide +kernel
theorem dM_drive_46 : decode cM_drive 46 = .ok (.iload_n 1, 1) := by decide +kernel
theorem dM_drive_47 : decode cM_drive 47 = .ok (.iload_n 2, 1) := by decide +kernel
theorem dM_drive_48 : decode cM_drive 48 = .ok (.iastore, 1) := by decide +kernel
theorem dM_drive_49 : decode cM_drive 49 = .ok (.iload_n 3, 1) := by decide +kernel
theorem dM_drive_50 : decode cM_drive 50 = .ok (.ireturn, 1) := by decide +kernel
theorem dM_silence_0 : decode cM_silence 0 = .ok (.aload_n 0, 1) := by decide +kernel
theorem dM_silence_1 : decode cM_silence 1 = .ok (.iconst 0, 1) := by decide +kernel
theorem dM_silence_2 : decode cM_silence 2 = .ok (.putfield 59, 3) := by decide +kernel
theorem dM_silence_5 : decode cM_silence 5 = .ok (.aload_n 0, 1) := by decide +kernel
theorem dM_silence_6 : decode cM_silence 6 = .ok (.iload_n 1, 1) := by decide +kernel
theorem dM_silence_7 : decode cM_silence 7 = .ok (.invokevirtual 117, 3) := by decide +kernel
theorem dM_silence_10 : decode cM_silence 10 = .ok (.ifCond .ne 9, 3) := by decide +kernel
theorem dM_silence_13 : decode cM_silence 13 = .ok (.aload_n 0, 1) := by decide +kernel
theorem dM_silence_14 : decode cM_silence 14 = .ok (.iconst 1, 1) := by decide +kernel
theorem dM_silence_15 : decode cM_silence 15 = .ok (.invokevirtual 100, 3) := by decide +kernel
theorem dM_silence_18 : decode cM_silence 18 = .ok (.ireturn, 1) := by decide +kernel
theorem dM_silence_19 : decode cM_silence 19 = .ok (.aload_n 0, 1) := by decide +kernel
theorem dM_silence_20 : decode cM_silence 20 = .ok (.getfield 29, 3) := by decide +kernel
theorem dM_silence_23 : decode cM_silence 23 = .ok (.iload_n 1, 1) := by decide +kernel
theorem dM_silence_24 : decode cM_silence 24 = .ok (.baload, 1) := by decide +kernel
theorem dM_silence_25 : decode cM_silence 25 = .ok (.iload_n 2, 1) := by decide +kernel
theorem dM_silence_26 : decode cM_silence 26 = .ok (.if_icmp .eq 7, 3) := by decide +kernel
theorem dM_silence_29 : decode cM_silence 29 = .ok (.iconst 1, 1) := by decide +kernel
theorem dM_silence_30 : decode cM_silence 30 = .ok (.goto 4, 3) := by decide +kernel
theorem dM_silence_33 : decode cM_silence 33 = .ok (.iconst 0, 1) := by decide +kernel
theorem dM_silence_34 : decode cM_silence 34 = .ok (.istore_n 3, 1) := by decide +kernel
theorem dM_silence_35 : decode cM_silence 35 = .ok (.aload_n 0, 1) := by decide +kernel
theorem dM_silence_36 : decode cM_silence 36 = .ok (.getfield 29, 3) := by decide +kernel
theorem dM_silence_39 : decode cM_silence 39 = .ok (.iload_n 1, 1) := by decide +kernel
theorem dM_silence_40 : decode cM_silence 40 = .ok (.iload_n 2, 1) := by decide +kernel
theorem dM_silence_41 : decode cM_silence 41 = .ok (.bastore, 1) := by decide +kernel
theorem dM_silence_42 : decode cM_silence 42 = .ok (.iload_n 3, 1) := by decide +kernel
theorem dM_silence_43 : decode cM_silence 43 = .ok (.ifCond .eq 7, 3) := by decide +kernel
theorem dM_silence_46 : decode cM_silence 46 = .ok (.iconst 1, 1) := by decide +kernel
theorem dM_silence_47 : decode cM_silence 47 = .ok (.goto 4, 3) := by decide +kernel
theorem dM_silence_50 : decode cM_silence 50 = .ok (.iconst 0, 1) := by decide +kernel
theorem dM_silence_51 : decode cM_silence 51 = .ok (.ireturn, 1) := by decide +kernel
theorem dM_authorise_0 : decode cM_authorise 0 = .ok (.aload_n 0, 1) := by decide +kernel
theorem dM_authorise_1 : decode cM_authorise 1 = .ok (.iconst 0, 1) := by decide +kernel
theorem dM_authorise_2 : decode cM_authorise 2 = .ok (.putfield 59, 3) := by decide +kernel
theorem dM_authorise_5 : decode cM_authorise 5 = .ok (.aload_n 0, 1) := by decide +kernel
theorem dM_authorise_6 : decode cM_authorise 6 = .ok (.iload_n 1, 1) := by decide +kernel
theorem dM_authorise_7 : decode cM_authorise 7 = .ok (.invokevirtual 117, 3) := by decide +kernel
theorem dM_authorise_10 : decode cM_authorise 10 = .ok (.ifCond .ne 9, 3) := by decide +kernel
theorem dM_authorise_13 : decode cM_authorise 13 = .ok (.aload_n 0, 1) := by decide +kernel
theorem dM_authorise_14 : decode cM_authorise 14 = .ok (.iconst 1, 1) := by decide +kernel
theorem dM_authorise_15 : decode cM_authorise 15 = .ok (.invokevirtual 100, 3) := by decide +kernel
theorem dM_authorise_18 : decode cM_authorise 18 = .ok (.ireturn, 1) := by decide +kernel
theorem dM_authorise_19 : decode cM_authorise 19 = .ok (.aload_n 0, 1) := by decide +kernel
theorem dM_authorise_20 : decode cM_authorise 20 = .ok (.iload_n 1, 1) := by decide +kernel
theorem dM_authorise_21 : decode cM_authorise 21 = .ok (.invokevirtual 74, 3) := by decide +kernel
theorem dM_authorise_24 : decode cM_authorise 24 = .ok (.ifCond .ne 12, 3) := by decide +kernel
theorem dM_authorise_27 : decode cM_authorise 27 = .ok (.aload_n 0, 1) := by decide +kernel
theorem dM_authorise_28 : decode cM_authorise 28 = .ok (.getfield 29, 3) := by decide +kernel
theorem dM_authorise_31 : decode cM_authorise 31 = .ok (.iload_n 1, 1) := by decide +kernel
theorem dM_authorise_32 : decode cM_authorise 32 = .ok (.baload, 1) := by decide +kernel
theorem dM_authorise_33 : decode cM_authorise 33 = .ok (.ifCond .eq 9, 3) := by decide +kernel
theorem dM_authorise_36 : decode cM_authorise 36 = .ok (.aload_n 0, 1) := by decide +kernel
theorem dM_authorise_37 : decode cM_authorise 37 = .ok (.iconst 2, 1) := by decide +kernel
theorem dM_authorise_38 : decode cM_authorise 38 = .ok (.invokevirtual 100, 3) := by decide +kernel
theorem dM_authorise_41 : decode cM_authorise 41 = .ok (.ireturn, 1) := by decide +kernel
theorem dM_authorise_42 : decode cM_authorise 42 = .ok (.aload_n 0, 1) := by decide +kernel
theorem dM_authorise_43 : decode cM_authorise 43 = .ok (.getfield 26, 3) := by decide +kernel
theorem dM_authorise_46 : decode cM_authorise 46 = .ok (.iload_n 1, 1) := by decide +kernel
theorem dM_authorise_47 : decode cM_authorise 47 = .ok (.iaload, 1) := by decide +kernel
theorem dM_authorise_48 : decode cM_authorise 48 = .ok (.bipush 10, 2) := by decide +kernel
theorem dM_authorise_50 : decode cM_authorise 50 = .ok (.idiv, 1) := by decide +kernel
theorem dM_authorise_51 : decode cM_authorise 51 = .ok (.istore_n 2, 1) := by decide +kernel
theorem dM_authorise_52 : decode cM_authorise 52 = .ok (.aload_n 0, 1) := by decide +kernel
theorem dM_authorise_53 : decode cM_authorise 53 = .ok (.iload_n 2, 1) := by decide +kernel
theorem dM_authorise_54 : decode cM_authorise 54 = .ok (.iload_n 1, 1) := by decide +kernel
theorem dM_authorise_55 : decode cM_authorise 55 = .ok (.invokevirtual 107, 3) := by decide +kernel
theorem dM_authorise_58 : decode cM_authorise 58 = .ok (.ifCond .ne 25, 3) := by decide +kernel
theorem dM_authorise_61 : decode cM_authorise 61 = .ok (.aload_n 0, 1) := by decide +kernel
theorem dM_authorise_62 : decode cM_authorise 62 = .ok (.getfield 50, 3) := by decide +kernel
theorem dM_authorise_65 : decode cM_authorise 65 = .ok (.iload_n 2, 1) := by decide +kernel
theorem dM_authorise_66 : decode cM_authorise 66 = .ok (.iaload, 1) := by decide +kernel
theorem dM_authorise_67 : decode cM_authorise 67 = .ok (.ifCond .eq 23, 3) := by decide +kernel
theorem dM_authorise_70 : decode cM_authorise 70 = .ok (.aload_n 0, 1) := by decide +kernel
theorem dM_authorise_71 : decode cM_authorise 71 = .ok (.getfield 35, 3) := by decide +kernel
theorem dM_authorise_74 : decode cM_authorise 74 = .ok (.iload_n 1, 1) := by decide +kernel
theorem dM_authorise_75 : decode cM_authorise 75 = .ok (.iaload, 1) := by decide +kernel
theorem dM_authorise_76 : decode cM_authorise 76 = .ok (.bipush 10, 2) := by decide +kernel
theorem dM_authorise_78 : decode cM_authorise 78 = .ok (.idiv, 1) := by decide +kernel
theorem dM_authorise_79 : decode cM_authorise 79 = .ok (.iload_n 2, 1) := by decide +kernel
theorem dM_authorise_80 : decode cM_authorise 80 = .ok (.if_icmp .eq 10, 3) := by decide +kernel
theorem dM_authorise_83 : decode cM_authorise 83 = .ok (.aload_n 0, 1) := by decide +kernel
theorem dM_authorise_84 : decode cM_authorise 84 = .ok (.getfield 26, 3) := by decide +kernel
theorem dM_authorise_87 : decode cM_authorise 87 = .ok (.iload_n 1, 1) := by decide +kernel
theorem dM_authorise_88 : decode cM_authorise 88 = .ok (.iaload, 1) := by decide +kernel
theorem dM_authorise_89 : decode cM_authorise 89 = .ok (.ireturn, 1) := by decide +kernel
theorem dM_authorise_90 : decode cM_authorise 90 = .ok (.iload_n 2, 1) := by decide +kernel
theorem dM_authorise_91 : decode cM_authorise 91 = .ok (.bipush 11, 2) := by decide +kernel
theorem dM_authorise_93 : decode cM_authorise 93 = .ok (.if_icmp .ge 31, 3) := by decide +kernel
theorem dM_authorise_96 : decode cM_authorise 96 = .ok (.aload_n 0, 1) := by decide +kernel
theorem dM_authorise_97 : decode cM_authorise 97 = .ok (.getfield 50, 3) := by decide +kernel
theorem dM_authorise_100 : decode cM_authorise 100 = .ok (.iload_n 2, 1) := by decide +kernel
theorem dM_authorise_101 : decode cM_authorise 101 = .ok (.iconst 1, 1) := by decide +kernel
theorem dM_authorise_102 : decode cM_authorise 102 = .ok (.iadd, 1) := by decide +kernel
theorem dM_authorise_103 : decode cM_authorise 103 = .ok (.iaload, 1) := by decide +kernel
theorem dM_authorise_104 : decode cM_authorise 104 = .ok (.ifCond .ne 20, 3) := by decide +kernel
theorem dM_authorise_107 : decode cM_authorise 107 = .ok (.aload_n 0, 1) := by decide +kernel
theorem dM_authorise_108 : decode cM_authorise 108 = .ok (.iload_n 2, 1) := by decide +kernel
theorem dM_authorise_109 : decode cM_authorise 109 = .ok (.iconst 1, 1) := by decide +kernel
theorem dM_authorise_110 : decode cM_authorise 110 = .ok (.iadd, 1) := by decide +kernel
theorem dM_authorise_111 : decode cM_authorise 111 = .ok (.iload_n 1, 1) := by decide +kernel
theorem dM_authorise_112 : decode cM_authorise 112 = .ok (.invokevirtual 107, 3) := by decide +kernel
theorem dM_authorise_115 : decode cM_authorise 115 = .ok (.ifCond .ne 9, 3) := by decide +kernel
theorem dM_authorise_118 : decode cM_authorise 118 = .ok (.iinc 2 1, 3) := by decide +kernel
theorem dM_authorise_121 : decode cM_authorise 121 = .ok (.goto (-31), 3) := by decide +kernel
theorem dM_authorise_124 : decode cM_authorise 124 = .ok (.aload_n 0, 1) := by decide +kernel
theorem dM_authorise_125 : decode cM_authorise 125 = .ok (.getfield 26, 3) := by decide +kernel
theorem dM_authorise_128 : decode cM_authorise 128 = .ok (.iload_n 1, 1) := by decide +kernel
theorem dM_authorise_129 : decode cM_authorise 129 = .ok (.bipush 10, 2) := by decide +kernel
theorem dM_authorise_131 : decode cM_authorise 131 = .ok (.iload_n 2, 1) := by decide +kernel
theorem dM_authorise_132 : decode cM_authorise 132 = .ok (.imul, 1) := by decide +kernel
theorem dM_authorise_133 : decode cM_authorise 133 = .ok (.bipush 9, 2) := by decide +kernel
theorem dM_authorise_135 : decode cM_authorise 135 = .ok (.iadd, 1) := by decide +kernel
theorem dM_authorise_136 : decode cM_authorise 136 = .ok (.iastore, 1) := by decide +kernel
theorem dM_authorise_137 : decode cM_authorise 137 = .ok (.aload_n 0, 1) := by decide +kernel
theorem dM_authorise_138 : decode cM_authorise 138 = .ok (.getfield 26, 3) := by decide +kernel
theorem dM_authorise_141 : decode cM_authorise 141 = .ok (.iload_n 1, 1) := by decide +kernel
theorem dM_authorise_142 : decode cM_authorise 142 = .ok (.iaload, 1) := by decide +kernel
theorem dM_authorise_143 : decode cM_authorise 143 = .ok (.ireturn, 1) := by decide +kernel
theorem dM_relent_0 : decode cM_relent 0 = .ok (.aload_n 0, 1) := by decide +kernel
theorem dM_relent_1 : decode cM_relent 1 = .ok (.iconst 0, 1) := by decide +kernel
theorem dM_relent_2 : decode cM_relent 2 = .ok (.putfield 59, 3) := by decide +kernel
theorem dM_relent_5 : decode cM_relent 5 = .ok (.aload_n 0, 1) := by decide +kernel
theorem dM_relent_6 : decode cM_relent 6 = .ok (.iload_n 1, 1) := by decide +kernel
theorem dM_relent_7 : decode cM_relent 7 = .ok (.invokevirtual 117, 3) := by decide +kernel
theorem dM_relent_10 : decode cM_relent 10 = .ok (.ifCond .ne 9, 3) := by decide +kernel
theorem dM_relent_13 : decode cM_relent 13 = .ok (.aload_n 0, 1) := by decide +kernel
theorem dM_relent_14 : decode cM_relent 14 = .ok (.iconst 1, 1) := by decide +kernel
theorem dM_relent_15 : decode cM_relent 15 = .ok (.invokevirtual 100, 3) := by decide +kernel
theorem dM_relent_18 : decode cM_relent 18 = .ok (.ireturn, 1) := by decide +kernel
theorem dM_relent_19 : decode cM_relent 19 = .ok (.aload_n 0, 1) := by decide +kernel
theorem dM_relent_20 : decode cM_relent 20 = .ok (.getfield 29, 3) := by decide +kernel
theorem dM_relent_23 : decode cM_relent 23 = .ok (.iload_n 1, 1) := by decide +kernel
theorem dM_relent_24 : decode cM_relent 24 = .ok (.baload, 1) := by decide +kernel
theorem dM_relent_25 : decode cM_relent 25 = .ok (.ifCond .eq 9, 3) := by decide +kernel
theorem dM_relent_28 : decode cM_relent 28 = .ok (.aload_n 0, 1) := by decide +kernel
theorem dM_relent_29 : decode cM_relent 29 = .ok (.iconst 2, 1) := by decide +kernel
theorem dM_relent_30 : decode cM_relent 30 = .ok (.invokevirtual 100, 3) := by decide +kernel
theorem dM_relent_33 : decode cM_relent 33 = .ok (.ireturn, 1) := by decide +kernel
theorem dM_relent_34 : decode cM_relent 34 = .ok (.aload_n 0, 1) := by decide +kernel
theorem dM_relent_35 : decode cM_relent 35 = .ok (.getfield 26, 3) := by decide +kernel
theorem dM_relent_38 : decode cM_relent 38 = .ok (.iload_n 1, 1) := by decide +kernel
theorem dM_relent_39 : decode cM_relent 39 = .ok (.iaload, 1) := by decide +kernel
theorem dM_relent_40 : decode cM_relent 40 = .ok (.aload_n 0, 1) := by decide +kernel
theorem dM_relent_41 : decode cM_relent 41 = .ok (.getfield 16, 3) := by decide +kernel
theorem dM_relent_44 : decode cM_relent 44 = .ok (.iload_n 1, 1) := by decide +kernel
theorem dM_relent_45 : decode cM_relent 45 = .ok (.iaload, 1) := by decide +kernel
theorem dM_relent_46 : decode cM_relent 46 = .ok (.isub, 1) := by decide +kernel
theorem dM_relent_47 : decode cM_relent 47 = .ok (.istore_n 2, 1) := by decide +kernel
theorem dM_relent_48 : decode cM_relent 48 = .ok (.aload_n 0, 1) := by decide +kernel
theorem dM_relent_49 : decode cM_relent 49 = .ok (.getfield 26, 3) := by decide +kernel
theorem dM_relent_52 : decode cM_relent 52 = .ok (.iload_n 1, 1) := by decide +kernel
theorem dM_relent_53 : decode cM_relent 53 = .ok (.aload_n 0, 1) := by decide +kernel
theorem dM_relent_54 : decode cM_relent 54 = .ok (.getfield 16, 3) := by decide +kernel
theorem dM_relent_57 : decode cM_relent 57 = .ok (.iload_n 1, 1) := by decide +kernel
theorem dM_relent_58 : decode cM_relent 58 = .ok (.iaload, 1) := by decide +kernel
theorem dM_relent_59 : decode cM_relent 59 = .ok (.iastore, 1) := by decide +kernel
theorem dM_relent_60 : decode cM_relent 60 = .ok (.iload_n 2, 1) := by decide +kernel
theorem dM_relent_61 : decode cM_relent 61 = .ok (.ireturn, 1) := by decide +kernel
theorem dM_lose_0 : decode cM_lose 0 = .ok (.aload_n 0, 1) := by decide +kernel
theorem dM_lose_1 : decode cM_lose 1 = .ok (.iconst 0, 1) := by decide +kernel
theorem dM_lose_2 : decode cM_lose 2 = .ok (.putfield 59, 3) := by decide +kernel
theorem dM_lose_5 : decode cM_lose 5 = .ok (.aload_n 0, 1) := by decide +kernel
theorem dM_lose_6 : decode cM_lose 6 = .ok (.iload_n 1, 1) := by decide +kernel
theorem dM_lose_7 : decode cM_lose 7 = .ok (.invokevirtual 117, 3) := by decide +kernel
theorem dM_lose_10 : decode cM_lose 10 = .ok (.ifCond .ne 9, 3) := by decide +kernel
theorem dM_lose_13 : decode cM_lose 13 = .ok (.aload_n 0, 1) := by decide +kernel
theorem dM_lose_14 : decode cM_lose 14 = .ok (.iconst 1, 1) := by decide +kernel
theorem dM_lose_15 : decode cM_lose 15 = .ok (.invokevirtual 100, 3) := by decide +kernel
theorem dM_lose_18 : decode cM_lose 18 = .ok (.ireturn, 1) := by decide +kernel
theorem dM_lose_19 : decode cM_lose 19 = .ok (.iload_n 2, 1) := by decide +kernel
theorem dM_lose_20 : decode cM_lose 20 = .ok (.iconst 1, 1) := by decide +kernel
theorem dM_lose_21 : decode cM_lose 21 = .ok (.aload_n 0, 1) := by decide +kernel
theorem dM_lose_22 : decode cM_lose 22 = .ok (.getfield 20, 3) := by decide +kernel
theorem dM_lose_25 : decode cM_lose 25 = .ok (.iload_n 1, 1) := by decide +kernel
theorem dM_lose_26 : decode cM_lose 26 = .ok (.iaload, 1) := by decide +kernel
theorem dM_lose_27 : decode cM_lose 27 = .ok (.iconst 1, 1) := by decide +kernel
theorem dM_lose_28 : decode cM_lose 28 = .ok (.isub, 1) := by decide +kernel
theorem dM_lose_29 : decode cM_lose 29 = .ok (.invokestatic 66, 3) := by decide +kernel
theorem dM_lose_32 : decode cM_lose 32 = .ok (.ifCond .ne 9, 3) := by decide +kernel
theorem dM_lose_35 : decode cM_lose 35 = .ok (.aload_n 0, 1) := by decide +kernel
theorem dM_lose_36 : decode cM_lose 36 = .ok (.iconst 2, 1) := by decide +kernel
theorem dM_lose_37 : decode cM_lose 37 = .ok (.invokevirtual 100, 3) := by decide +kernel
theorem dM_lose_40 : decode cM_lose 40 = .ok (.ireturn, 1) := by decide +kernel
theorem dM_lose_41 : decode cM_lose 41 = .ok (.aload_n 0, 1) := by decide +kernel
theorem dM_lose_42 : decode cM_lose 42 = .ok (.getfield 63, 3) := by decide +kernel
theorem dM_lose_45 : decode cM_lose 45 = .ok (.bipush 8, 2) := by decide +kernel
theorem dM_lose_47 : decode cM_lose 47 = .ok (.if_icmp .ne 9, 3) := by decide +kernel
theorem dM_lose_50 : decode cM_lose 50 = .ok (.aload_n 0, 1) := by decide +kernel
theorem dM_lose_51 : decode cM_lose 51 = .ok (.iconst 3, 1) := by decide +kernel
theorem dM_lose_52 : decode cM_lose 52 = .ok (.invokevirtual 100, 3) := by decide +kernel
theorem dM_lose_55 : decode cM_lose 55 = .ok (.ireturn, 1) := by decide +kernel
theorem dM_lose_56 : decode cM_lose 56 = .ok (.aload_n 0, 1) := by decide +kernel
theorem dM_lose_57 : decode cM_lose 57 = .ok (.getfield 63, 3) := by decide +kernel
theorem dM_lose_60 : decode cM_lose 60 = .ok (.istore_n 3, 1) := by decide +kernel
theorem dM_lose_61 : decode cM_lose 61 = .ok (.aload_n 0, 1) := by decide +kernel
theorem dM_lose_62 : decode cM_lose 62 = .ok (.dup, 1) := by decide +kernel
theorem dM_lose_63 : decode cM_lose 63 = .ok (.getfield 63, 3) := by decide +kernel
theorem dM_lose_66 : decode cM_lose 66 = .ok (.iconst 1, 1) := by decide +kernel
theorem dM_lose_67 : decode cM_lose 67 = .ok (.iadd, 1) := by decide +kernel
theorem dM_lose_68 : decode cM_lose 68 = .ok (.putfield 63, 3) := by decide +kernel
theorem dM_lose_71 : decode cM_lose 71 = .ok (.aload_n 0, 1) := by decide +kernel
theorem dM_lose_72 : decode cM_lose 72 = .ok (.getfield 13, 3) := by decide +kernel
theorem dM_lose_75 : decode cM_lose 75 = .ok (.iload_n 3, 1) := by decide +kernel
theorem dM_lose_76 : decode cM_lose 76 = .ok (.iconst 1, 1) := by decide +kernel
theorem dM_lose_77 : decode cM_lose 77 = .ok (.bastore, 1) := by decide +kernel
theorem dM_lose_78 : decode cM_lose 78 = .ok (.aload_n 0, 1) := by decide +kernel
theorem dM_lose_79 : decode cM_lose 79 = .ok (.getfield 16, 3) := by decide +kernel
theorem dM_lose_82 : decode cM_lose 82 = .ok (.iload_n 3, 1) := by decide +kernel
theorem dM_lose_83 : decode cM_lose 83 = .ok (.aload_n 0, 1) := by decide +kernel
theorem dM_lose_84 : decode cM_lose 84 = .ok (.iload_n 1, 1) := by decide +kernel
theorem dM_lose_85 : decode cM_lose 85 = .ok (.invokevirtual 70, 3) := by decide +kernel
theorem dM_lose_88 : decode cM_lose 88 = .ok (.iload_n 2, 1) := by decide +kernel
theorem dM_lose_89 : decode cM_lose 89 = .ok (.iadd, 1) := by decide +kernel
theorem dM_lose_90 : decode cM_lose 90 = .ok (.iconst 1, 1) := by decide +kernel
theorem dM_lose_91 : decode cM_lose 91 = .ok (.isub, 1) := by decide +kernel
theorem dM_lose_92 : decode cM_lose 92 = .ok (.iastore, 1) := by decide +kernel
theorem dM_lose_93 : decode cM_lose 93 = .ok (.aload_n 0, 1) := by decide +kernel
theorem dM_lose_94 : decode cM_lose 94 = .ok (.getfield 20, 3) := by decide +kernel
theorem dM_lose_97 : decode cM_lose 97 = .ok (.iload_n 3, 1) := by decide +kernel
theorem dM_lose_98 : decode cM_lose 98 = .ok (.iload_n 2, 1) := by decide +kernel
theorem dM_lose_99 : decode cM_lose 99 = .ok (.iastore, 1) := by decide +kernel
theorem dM_lose_100 : decode cM_lose 100 = .ok (.aload_n 0, 1) := by decide +kernel
theorem dM_lose_101 : decode cM_lose 101 = .ok (.getfield 20, 3) := by decide +kernel
theorem dM_lose_104 : decode cM_lose 104 = .ok (.iload_n 1, 1) := by decide +kernel
theorem dM_lose_105 : decode cM_lose 105 = .ok (.dup2, 1) := by decide +kernel
theorem dM_lose_106 : decode cM_lose 106 = .ok (.iaload, 1) := by decide +kernel
theorem dM_lose_107 : decode cM_lose 107 = .ok (.iload_n 2, 1) := by decide +kernel
theorem dM_lose_108 : decode cM_lose 108 = .ok (.isub, 1) := by decide +kernel
theorem dM_lose_109 : decode cM_lose 109 = .ok (.iastore, 1) := by decide +kernel
theorem dM_lose_110 : decode cM_lose 110 = .ok (.aload_n 0, 1) := by decide +kernel
theorem dM_lose_111 : decode cM_lose 111 = .ok (.getfield 32, 3) := by decide +kernel
theorem dM_lose_114 : decode cM_lose 114 = .ok (.iload_n 1, 1) := by decide +kernel
theorem dM_lose_115 : decode cM_lose 115 = .ok (.iconst 0, 1) := by decide +kernel
theorem dM_lose_116 : decode cM_lose 116 = .ok (.bastore, 1) := by decide +kernel
theorem dM_lose_117 : decode cM_lose 117 = .ok (.iload_n 3, 1) := by decide +kernel
theorem dM_lose_118 : decode cM_lose 118 = .ok (.ireturn, 1) := by decide +kernel
theorem dM_confirm_0 : decode cM_confirm 0 = .ok (.aload_n 0, 1) := by decide +kernel
theorem dM_confirm_1 : decode cM_confirm 1 = .ok (.iconst 0, 1) := by decide +kernel
theorem dM_confirm_2 : decode cM_confirm 2 = .ok (.putfield 59, 3) := by decide +kernel
theorem dM_confirm_5 : decode cM_confirm 5 = .ok (.aload_n 0, 1) := by decide +kernel
theorem dM_confirm_6 : decode cM_confirm 6 = .ok (.iload_n 1, 1) := by decide +kernel
theorem dM_confirm_7 : decode cM_confirm 7 = .ok (.invokevirtual 117, 3) := by decide +kernel
theorem dM_confirm_10 : decode cM_confirm 10 = .ok (.ifCond .ne 9, 3) := by decide +kernel
theorem dM_confirm_13 : decode cM_confirm 13 = .ok (.aload_n 0, 1) := by decide +kernel
theorem dM_confirm_14 : decode cM_confirm 14 = .ok (.iconst 1, 1) := by decide +kernel
theorem dM_confirm_15 : decode cM_confirm 15 = .ok (.invokevirtual 100, 3) := by decide +kernel
theorem dM_confirm_18 : decode cM_confirm 18 = .ok (.ireturn, 1) := by decide +kernel
theorem dM_confirm_19 : decode cM_confirm 19 = .ok (.aload_n 0, 1) := by decide +kernel
theorem dM_confirm_20 : decode cM_confirm 20 = .ok (.getfield 32, 3) := by decide +kernel
theorem dM_confirm_23 : decode cM_confirm 23 = .ok (.iload_n 1, 1) := by decide +kernel
theorem dM_confirm_24 : decode cM_confirm 24 = .ok (.baload, 1) := by decide +kernel
theorem dM_confirm_25 : decode cM_confirm 25 = .ok (.ifCond .ne 12, 3) := by decide +kernel
theorem dM_confirm_28 : decode cM_confirm 28 = .ok (.aload_n 0, 1) := by decide +kernel
theorem dM_confirm_29 : decode cM_confirm 29 = .ok (.getfield 41, 3) := by decide +kernel
theorem dM_confirm_32 : decode cM_confirm 32 = .ok (.iload_n 1, 1) := by decide +kernel
theorem dM_confirm_33 : decode cM_confirm 33 = .ok (.baload, 1) := by decide +kernel
theorem dM_confirm_34 : decode cM_confirm 34 = .ok (.ifCond .eq 9, 3) := by decide +kernel
theorem dM_confirm_37 : decode cM_confirm 37 = .ok (.aload_n 0, 1) := by decide +kernel
theorem dM_confirm_38 : decode cM_confirm 38 = .ok (.iconst 2, 1) := by decide +kernel
theorem dM_confirm_39 : decode cM_confirm 39 = .ok (.invokevirtual 100, 3) := by decide +kernel
theorem dM_confirm_42 : decode cM_confirm 42 = .ok (.ireturn, 1) := by decide +kernel
theorem dM_confirm_43 : decode cM_confirm 43 = .ok (.aload_n 0, 1) := by decide +kernel
theorem dM_confirm_44 : decode cM_confirm 44 = .ok (.getfield 32, 3) := by decide +kernel
theorem dM_confirm_47 : decode cM_confirm 47 = .ok (.iload_n 1, 1) := by decide +kernel
theorem dM_confirm_48 : decode cM_confirm 48 = .ok (.iconst 1, 1) := by decide +kernel
theorem dM_confirm_49 : decode cM_confirm 49 = .ok (.bastore, 1) := by decide +kernel
theorem dM_confirm_50 : decode cM_confirm 50 = .ok (.aload_n 0, 1) := by decide +kernel
theorem dM_confirm_51 : decode cM_confirm 51 = .ok (.getfield 20, 3) := by decide +kernel
theorem dM_confirm_54 : decode cM_confirm 54 = .ok (.iload_n 1, 1) := by decide +kernel
theorem dM_confirm_55 : decode cM_confirm 55 = .ok (.iaload, 1) := by decide +kernel
theorem dM_confirm_56 : decode cM_confirm 56 = .ok (.ireturn, 1) := by decide +kernel
theorem dM_clear_0 : decode cM_clear 0 = .ok (.aload_n 0, 1) := by decide +kernel
theorem dM_clear_1 : decode cM_clear 1 = .ok (.iconst 0, 1) := by decide +kernel
theorem dM_clear_2 : decode cM_clear 2 = .ok (.putfield 59, 3) := by decide +kernel
theorem dM_clear_5 : decode cM_clear 5 = .ok (.iload_n 1, 1) := by decide +kernel
theorem dM_clear_6 : decode cM_clear 6 = .ok (.iconst 0, 1) := by decide +kernel
theorem dM_clear_7 : decode cM_clear 7 = .ok (.aload_n 0, 1) := by decide +kernel
theorem dM_clear_8 : decode cM_clear 8 = .ok (.getfield 63, 3) := by decide +kernel
theorem dM_clear_11 : decode cM_clear 11 = .ok (.iconst 1, 1) := by decide +kernel
theorem dM_clear_12 : decode cM_clear 12 = .ok (.isub, 1) := by decide +kernel
theorem dM_clear_13 : decode cM_clear 13 = .ok (.invokestatic 66, 3) := by decide +kernel
theorem dM_clear_16 : decode cM_clear 16 = .ok (.ifCond .eq 21, 3) := by decide +kernel
theorem dM_clear_19 : decode cM_clear 19 = .ok (.aload_n 0, 1) := by decide +kernel
theorem dM_clear_20 : decode cM_clear 20 = .ok (.getfield 7, 3) := by decide +kernel
theorem dM_clear_23 : decode cM_clear 23 = .ok (.iload_n 1, 1) := by decide +kernel
theorem dM_clear_24 : decode cM_clear 24 = .ok (.baload, 1) := by decide +kernel
theorem dM_clear_25 : decode cM_clear 25 = .ok (.ifCond .ne 12, 3) := by decide +kernel
theorem dM_clear_28 : decode cM_clear 28 = .ok (.aload_n 0, 1) := by decide +kernel
theorem dM_clear_29 : decode cM_clear 29 = .ok (.getfield 13, 3) := by decide +kernel
theorem dM_clear_32 : decode cM_clear 32 = .ok (.iload_n 1, 1) := by decide +kernel
theorem dM_clear_33 : decode cM_clear 33 = .ok (.baload, 1) := by decide +kernel
theorem dM_clear_34 : decode cM_clear 34 = .ok (.ifCond .ne 9, 3) := by decide +kernel
theorem dM_clear_37 : decode cM_clear 37 = .ok (.aload_n 0, 1) := by decide +kernel
theorem dM_clear_38 : decode cM_clear 38 = .ok (.iconst 1, 1) := by decide +kernel
theorem dM_clear_39 : decode cM_clear 39 = .ok (.invokevirtual 100, 3) := by decide +kernel
theorem dM_clear_42 : decode cM_clear 42 = .ok (.ireturn, 1) := by decide +kernel
theorem dM_clear_43 : decode cM_clear 43 = .ok (.aload_n 0, 1) := by decide +kernel
theorem dM_clear_44 : decode cM_clear 44 = .ok (.getfield 13, 3) := by decide +kernel
theorem dM_clear_47 : decode cM_clear 47 = .ok (.iload_n 1, 1) := by decide +kernel
theorem dM_clear_48 : decode cM_clear 48 = .ok (.iconst 0, 1) := by decide +kernel
theorem dM_clear_49 : decode cM_clear 49 = .ok (.bastore, 1) := by decide +kernel
theorem dM_clear_50 : decode cM_clear 50 = .ok (.aload_n 0, 1) := by decide +kernel
theorem dM_clear_51 : decode cM_clear 51 = .ok (.getfield 20, 3) := by decide +kernel
theorem dM_clear_54 : decode cM_clear 54 = .ok (.iload_n 1, 1) := by decide +kernel
theorem dM_clear_55 : decode cM_clear 55 = .ok (.iaload, 1) := by decide +kernel
theorem dM_clear_56 : decode cM_clear 56 = .ok (.ireturn, 1) := by decide +kernel
theorem dM_tickOnce_0 : decode cM_tickOnce 0 = .ok (.aload_n 0, 1) := by decide +kernel
theorem dM_tickOnce_1 : decode cM_tickOnce 1 = .ok (.dup, 1) := by decide +kernel
theorem dM_tickOnce_2 : decode cM_tickOnce 2 = .ok (.getfield 120, 3) := by decide +kernel
theorem dM_tickOnce_5 : decode cM_tickOnce 5 = .ok (.iconst 1, 1) := by decide +kernel
theorem dM_tickOnce_6 : decode cM_tickOnce 6 = .ok (.iadd, 1) := by decide +kernel
theorem dM_tickOnce_7 : decode cM_tickOnce 7 = .ok (.putfield 120, 3) := by decide +kernel
theorem dM_tickOnce_10 : decode cM_tickOnce 10 = .ok (.iconst 0, 1) := by decide +kernel
theorem dM_tickOnce_11 : decode cM_tickOnce 11 = .ok (.istore_n 1, 1) := by decide +kernel
theorem dM_tickOnce_12 : decode cM_tickOnce 12 = .ok (.iload_n 1, 1) := by decide +kernel
theorem dM_tickOnce_13 : decode cM_tickOnce 13 = .ok (.aload_n 0, 1) := by decide +kernel
theorem dM_tickOnce_14 : decode cM_tickOnce 14 = .ok (.getfield 63, 3) := by decide +kernel
theorem dM_tickOnce_17 : decode cM_tickOnce 17 = .ok (.if_icmp .ge 68, 3) := by decide +kernel
theorem dM_tickOnce_20 : decode cM_tickOnce 20 = .ok (.iconst 0, 1) := by decide +kernel
theorem dM_tickOnce_21 : decode cM_tickOnce 21 = .ok (.istore_n 2, 1) := by decide +kernel
theorem dM_tickOnce_22 : decode cM_tickOnce 22 = .ok (.iload_n 2, 1) := by decide +kernel
theorem dM_tickOnce_23 : decode cM_tickOnce 23 = .ok (.aload_n 0, 1) := by decide +kernel
theorem dM_tickOnce_24 : decode cM_tickOnce 24 = .ok (.getfield 23, 3) := by decide +kernel
theorem dM_tickOnce_27 : decode cM_tickOnce 27 = .ok (.iload_n 1, 1) := by decide +kernel
theorem dM_tickOnce_28 : decode cM_tickOnce 28 = .ok (.iaload, 1) := by decide +kernel
theorem dM_tickOnce_29 : decode cM_tickOnce 29 = .ok (.if_icmp .ge 50, 3) := by decide +kernel
theorem dM_tickOnce_32 : decode cM_tickOnce 32 = .ok (.aload_n 0, 1) := by decide +kernel
theorem dM_tickOnce_33 : decode cM_tickOnce 33 = .ok (.getfield 16, 3) := by decide +kernel
theorem dM_tickOnce_36 : decode cM_tickOnce 36 = .ok (.iload_n 1, 1) := by decide +kernel
theorem dM_tickOnce_37 : decode cM_tickOnce 37 = .ok (.iaload, 1) := by decide +kernel
theorem dM_tickOnce_38 : decode cM_tickOnce 38 = .ok (.aload_n 0, 1) := by decide +kernel
theorem dM_tickOnce_39 : decode cM_tickOnce 39 = .ok (.getfield 26, 3) := by decide +kernel
theorem dM_tickOnce_42 : decode cM_tickOnce 42 = .ok (.iload_n 1, 1) := by decide +kernel
theorem dM_tickOnce_43 : decode cM_tickOnce 43 = .ok (.iaload, 1) := by decide +kernel
theorem dM_tickOnce_44 : decode cM_tickOnce 44 = .ok (.if_icmp .ge 35, 3) := by decide +kernel
theorem dM_tickOnce_47 : decode cM_tickOnce 47 = .ok (.aload_n 0, 1) := by decide +kernel
theorem dM_tickOnce_48 : decode cM_tickOnce 48 = .ok (.aload_n 0, 1) := by decide +kernel
theorem dM_tickOnce_49 : decode cM_tickOnce 49 = .ok (.getfield 16, 3) := by decide +kernel
theorem dM_tickOnce_52 : decode cM_tickOnce 52 = .ok (.iload_n 1, 1) := by decide +kernel
theorem dM_tickOnce_53 : decode cM_tickOnce 53 = .ok (.iaload, 1) := by decide +kernel
theorem dM_tickOnce_54 : decode cM_tickOnce 54 = .ok (.iconst 1, 1) := by decide +kernel
theorem dM_tickOnce_55 : decode cM_tickOnce 55 = .ok (.iadd, 1) := by decide +kernel
theorem dM_tickOnce_56 : decode cM_tickOnce 56 = .ok (.iload_n 1, 1) := by decide +kernel
theorem dM_tickOnce_57 : decode cM_tickOnce 57 = .ok (.invokevirtual 103, 3) := by decide +kernel
theorem dM_tickOnce_60 : decode cM_tickOnce 60 = .ok (.ifCond .ge 19, 3) := by decide +kernel
theorem dM_tickOnce_63 : decode cM_tickOnce 63 = .ok (.aload_n 0, 1) := by decide +kernel
theorem dM_tickOnce_64 : decode cM_tickOnce 64 = .ok (.getfield 16, 3) := by decide +kernel
theorem dM_tickOnce_67 : decode cM_tickOnce 67 = .ok (.iload_n 1, 1) := by decide +kernel
theorem dM_tickOnce_68 : decode cM_tickOnce 68 = .ok (.dup2, 1) := by decide +kernel
theorem dM_tickOnce_69 : decode cM_tickOnce 69 = .ok (.iaload, 1) := by decide +kernel
theorem dM_tickOnce_70 : decode cM_tickOnce 70 = .ok (.iconst 1, 1) := by decide +kernel
theorem dM_tickOnce_71 : decode cM_tickOnce 71 = .ok (.iadd, 1) := by decide +kernel
theorem dM_tickOnce_72 : decode cM_tickOnce 72 = .ok (.iastore, 1) := by decide +kernel
theorem dM_tickOnce_73 : decode cM_tickOnce 73 = .ok (.iinc 2 1, 3) := by decide +kernel
theorem dM_tickOnce_76 : decode cM_tickOnce 76 = .ok (.goto (-54), 3) := by decide +kernel
theorem dM_tickOnce_79 : decode cM_tickOnce 79 = .ok (.iinc 1 1, 3) := by decide +kernel
theorem dM_tickOnce_82 : decode cM_tickOnce 82 = .ok (.goto (-70), 3) := by decide +kernel
theorem dM_tickOnce_85 : decode cM_tickOnce 85 = .ok (.iconst 0, 1) := by decide +kernel
theorem dM_tickOnce_86 : decode cM_tickOnce 86 = .ok (.istore_n 1, 1) := by decide +kernel
theorem dM_tickOnce_87 : decode cM_tickOnce 87 = .ok (.iload_n 1, 1) := by decide +kernel
theorem dM_tickOnce_88 : decode cM_tickOnce 88 = .ok (.aload_n 0, 1) := by decide +kernel
theorem dM_tickOnce_89 : decode cM_tickOnce 89 = .ok (.getfield 63, 3) := by decide +kernel
theorem dM_tickOnce_92 : decode cM_tickOnce 92 = .ok (.if_icmp .ge 60, 3) := by decide +kernel
theorem dM_tickOnce_95 : decode cM_tickOnce 95 = .ok (.aload_n 0, 1) := by decide +kernel
theorem dM_tickOnce_96 : decode cM_tickOnce 96 = .ok (.getfield 7, 3) := by decide +kernel
theorem dM_tickOnce_99 : decode cM_tickOnce 99 = .ok (.iload_n 1, 1) := by decide +kernel
theorem dM_tickOnce_100 : decode cM_tickOnce 100 = .ok (.baload, 1) := by decide +kernel
theorem dM_tickOnce_101 : decode cM_tickOnce 101 = .ok (.ifCond .ne 6, 3) := by decide +kernel
theorem dM_tickOnce_104 : decode cM_tickOnce 104 = .ok (.goto 42, 3) := by decide +kernel
theorem dM_tickOnce_107 : decode cM_tickOnce 107 = .ok (.aload_n 0, 1) := by decide +kernel
theorem dM_tickOnce_108 : decode cM_tickOnce 108 = .ok (.getfield 29, 3) := by decide +kernel
theorem dM_tickOnce_111 : decode cM_tickOnce 111 = .ok (.iload_n 1, 1) := by decide +kernel
theorem dM_tickOnce_112 : decode cM_tickOnce 112 = .ok (.baload, 1) := by decide +kernel
theorem dM_tickOnce_113 : decode cM_tickOnce 113 = .ok (.ifCond .eq 16, 3) := by decide +kernel
theorem dM_tickOnce_116 : decode cM_tickOnce 116 = .ok (.aload_n 0, 1) := by decide +kernel
theorem dM_tickOnce_117 : decode cM_tickOnce 117 = .ok (.getfield 44, 3) := by decide +kernel
theorem dM_tickOnce_120 : decode cM_tickOnce 120 = .ok (.iload_n 1, 1) := by decide +kernel
theorem dM_tickOnce_121 : decode cM_tickOnce 121 = .ok (.dup2, 1) := by decide +kernel
theorem dM_tickOnce_122 : decode cM_tickOnce 122 = .ok (.iaload, 1) := by decide +kernel
theorem dM_tickOnce_123 : decode cM_tickOnce 123 = .ok (.iconst 1, 1) := by decide +kernel
theorem dM_tickOnce_124 : decode cM_tickOnce 124 = .ok (.iadd, 1) := by decide +kernel
theorem dM_tickOnce_125 : decode cM_tickOnce 125 = .ok (.iastore, 1) := by decide +kernel
theorem dM_tickOnce_126 : decode cM_tickOnce 126 = .ok (.goto 20, 3) := by decide +kernel
theorem dM_tickOnce_129 : decode cM_tickOnce 129 = .ok (.aload_n 0, 1) := by decide +kernel
theorem dM_tickOnce_130 : decode cM_tickOnce 130 = .ok (.getfield 47, 3) := by decide +kernel
theorem dM_tickOnce_133 : decode cM_tickOnce 133 = .ok (.iload_n 1, 1) := by decide +kernel
theorem dM_tickOnce_134 : decode cM_tickOnce 134 = .ok (.aload_n 0, 1) := by decide +kernel
theorem dM_tickOnce_135 : decode cM_tickOnce 135 = .ok (.getfield 38, 3) := by decide +kernel
theorem dM_tickOnce_138 : decode cM_tickOnce 138 = .ok (.iload_n 1, 1) := by decide +kernel
theorem dM_tickOnce_139 : decode cM_tickOnce 139 = .ok (.iaload, 1) := by decide +kernel
theorem dM_tickOnce_140 : decode cM_tickOnce 140 = .ok (.iastore, 1) := by decide +kernel
theorem dM_tickOnce_141 : decode cM_tickOnce 141 = .ok (.aload_n 0, 1) := by decide +kernel
theorem dM_tickOnce_142 : decode cM_tickOnce 142 = .ok (.iload_n 1, 1) := by decide +kernel
theorem dM_tickOnce_143 : decode cM_tickOnce 143 = .ok (.invokevirtual 110, 3) := by decide +kernel
theorem dM_tickOnce_146 : decode cM_tickOnce 146 = .ok (.iinc 1 1, 3) := by decide +kernel
theorem dM_tickOnce_149 : decode cM_tickOnce 149 = .ok (.goto (-62), 3) := by decide +kernel
theorem dM_tickOnce_152 : decode cM_tickOnce 152 = .ok (.aload_n 0, 1) := by decide +kernel
theorem dM_tickOnce_153 : decode cM_tickOnce 153 = .ok (.invokevirtual 114, 3) := by decide +kernel
theorem dM_tickOnce_156 : decode cM_tickOnce 156 = .ok (.return_, 1) := by decide +kernel
theorem dM_tick_0 : decode cM_tick 0 = .ok (.aload_n 0, 1) := by decide +kernel
theorem dM_tick_1 : decode cM_tick 1 = .ok (.iconst 0, 1) := by decide +kernel
theorem dM_tick_2 : decode cM_tick 2 = .ok (.putfield 59, 3) := by decide +kernel
theorem dM_tick_5 : decode cM_tick 5 = .ok (.iload_n 1, 1) := by decide +kernel
theorem dM_tick_6 : decode cM_tick 6 = .ok (.iconst 1, 1) := by decide +kernel
theorem dM_tick_7 : decode cM_tick 7 = .ok (.bipush 6, 2) := by decide +kernel
theorem dM_tick_9 : decode cM_tick 9 = .ok (.invokestatic 66, 3) := by decide +kernel
theorem dM_tick_12 : decode cM_tick 12 = .ok (.ifCond .ne 9, 3) := by decide +kernel
theorem dM_tick_15 : decode cM_tick 15 = .ok (.aload_n 0, 1) := by decide +kernel
theorem dM_tick_16 : decode cM_tick 16 = .ok (.iconst 1, 1) := by decide +kernel
theorem dM_tick_17 : decode cM_tick 17 = .ok (.invokevirtual 100, 3) := by decide +kernel
theorem dM_tick_20 : decode cM_tick 20 = .ok (.ireturn, 1) := by decide +kernel
theorem dM_tick_21 : decode cM_tick 21 = .ok (.iconst 0, 1) := by decide +kernel
theorem dM_tick_22 : decode cM_tick 22 = .ok (.istore_n 2, 1) := by decide +kernel
theorem dM_tick_23 : decode cM_tick 23 = .ok (.iload_n 2, 1) := by decide +kernel
theorem dM_tick_24 : decode cM_tick 24 = .ok (.iload_n 1, 1) := by decide +kernel
theorem dM_tick_25 : decode cM_tick 25 = .ok (.if_icmp .ge 13, 3) := by decide +kernel
theorem dM_tick_28 : decode cM_tick 28 = .ok (.aload_n 0, 1) := by decide +kernel
theorem dM_tick_29 : decode cM_tick 29 = .ok (.invokevirtual 123, 3) := by decide +kernel
theorem dM_tick_32 : decode cM_tick 32 = .ok (.iinc 2 1, 3) := by decide +kernel
theorem dM_tick_35 : decode cM_tick 35 = .ok (.goto (-12), 3) := by decide +kernel
theorem dM_tick_38 : decode cM_tick 38 = .ok (.aload_n 0, 1) := by decide +kernel
theorem dM_tick_39 : decode cM_tick 39 = .ok (.iconst 0, 1) := by decide +kernel
theorem dM_tick_40 : decode cM_tick 40 = .ok (.invokevirtual 126, 3) := by decide +kernel
theorem dM_tick_43 : decode cM_tick 43 = .ok (.ireturn, 1) := by decide +kernel
theorem dM_state_0 : decode cM_state 0 = .ok (.aload_n 0, 1) := by decide +kernel
theorem dM_state_1 : decode cM_state 1 = .ok (.iconst 0, 1) := by decide +kernel
theorem dM_state_2 : decode cM_state 2 = .ok (.putfield 59, 3) := by decide +kernel
theorem dM_state_5 : decode cM_state 5 = .ok (.iload_n 1, 1) := by decide +kernel
theorem dM_state_6 : decode cM_state 6 = .ok (.iconst 0, 1) := by decide +kernel
theorem dM_state_7 : decode cM_state 7 = .ok (.bipush 11, 2) := by decide +kernel
theorem dM_state_9 : decode cM_state 9 = .ok (.invokestatic 66, 3) := by decide +kernel
theorem dM_state_12 : decode cM_state 12 = .ok (.ifCond .eq 12, 3) := by decide +kernel
theorem dM_state_15 : decode cM_state 15 = .ok (.aload_n 0, 1) := by decide +kernel
theorem dM_state_16 : decode cM_state 16 = .ok (.getfield 50, 3) := by decide +kernel
theorem dM_state_19 : decode cM_state 19 = .ok (.iload_n 1, 1) := by decide +kernel
theorem dM_state_20 : decode cM_state 20 = .ok (.iaload, 1) := by decide +kernel
theorem dM_state_21 : decode cM_state 21 = .ok (.goto 8, 3) := by decide +kernel
theorem dM_state_24 : decode cM_state 24 = .ok (.aload_n 0, 1) := by decide +kernel
theorem dM_state_25 : decode cM_state 25 = .ok (.iconst 1, 1) := by decide +kernel
theorem dM_state_26 : decode cM_state 26 = .ok (.invokevirtual 100, 3) := by decide +kernel
theorem dM_state_29 : decode cM_state 29 = .ok (.ireturn, 1) := by decide +kernel
theorem dM_detected_0 : decode cM_detected 0 = .ok (.aload_n 0, 1) := by decide +kernel
theorem dM_detected_1 : decode cM_detected 1 = .ok (.iconst 0, 1) := by decide +kernel
theorem dM_detected_2 : decode cM_detected 2 = .ok (.putfield 59, 3) := by decide +kernel
theorem dM_detected_5 : decode cM_detected 5 = .ok (.iload_n 1, 1) := by decide +kernel
theorem dM_detected_6 : decode cM_detected 6 = .ok (.iconst 0, 1) := by decide +kernel
theorem dM_detected_7 : decode cM_detected 7 = .ok (.iconst 3, 1) := by decide +kernel
theorem dM_detected_8 : decode cM_detected 8 = .ok (.invokestatic 66, 3) := by decide +kernel
theorem dM_detected_11 : decode cM_detected 11 = .ok (.ifCond .ne 9, 3) := by decide +kernel
theorem dM_detected_14 : decode cM_detected 14 = .ok (.aload_n 0, 1) := by decide +kernel
theorem dM_detected_15 : decode cM_detected 15 = .ok (.iconst 1, 1) := by decide +kernel
theorem dM_detected_16 : decode cM_detected 16 = .ok (.invokevirtual 100, 3) := by decide +kernel
theorem dM_detected_19 : decode cM_detected 19 = .ok (.ireturn, 1) := by decide +kernel
theorem dM_detected_20 : decode cM_detected 20 = .ok (.aload_n 0, 1) := by decide +kernel
theorem dM_detected_21 : decode cM_detected 21 = .ok (.iload_n 1, 1) := by decide +kernel
theorem dM_detected_22 : decode cM_detected 22 = .ok (.invokevirtual 85, 3) := by decide +kernel
theorem dM_detected_25 : decode cM_detected 25 = .ok (.ifCond .eq 7, 3) := by decide +kernel
theorem dM_detected_28 : decode cM_detected 28 = .ok (.iconst 1, 1) := by decide +kernel
theorem dM_detected_29 : decode cM_detected 29 = .ok (.goto 4, 3) := by decide +kernel
theorem dM_detected_32 : decode cM_detected 32 = .ok (.iconst 0, 1) := by decide +kernel
theorem dM_detected_33 : decode cM_detected 33 = .ok (.ireturn, 1) := by decide +kernel
theorem dM_vehicle_0 : decode cM_vehicle 0 = .ok (.aload_n 0, 1) := by decide +kernel
theorem dM_vehicle_1 : decode cM_vehicle 1 = .ok (.iconst 0, 1) := by decide +kernel
theorem dM_vehicle_2 : decode cM_vehicle 2 = .ok (.putfield 59, 3) := by decide +kernel
theorem dM_vehicle_5 : decode cM_vehicle 5 = .ok (.iload_n 1, 1) := by decide +kernel
theorem dM_vehicle_6 : decode cM_vehicle 6 = .ok (.iconst 0, 1) := by decide +kernel
theorem dM_vehicle_7 : decode cM_vehicle 7 = .ok (.aload_n 0, 1) := by decide +kernel
theorem dM_vehicle_8 : decode cM_vehicle 8 = .ok (.getfield 63, 3) := by decide +kernel
theorem dM_vehicle_11 : decode cM_vehicle 11 = .ok (.iconst 1, 1) := by decide +kernel
theorem dM_vehicle_12 : decode cM_vehicle 12 = .ok (.isub, 1) := by decide +kernel
theorem dM_vehicle_13 : decode cM_vehicle 13 = .ok (.invokestatic 66, 3) := by decide +kernel
theorem dM_vehicle_16 : decode cM_vehicle 16 = .ok (.ifCond .eq 12, 3) := by decide +kernel
theorem dM_vehicle_19 : decode cM_vehicle 19 = .ok (.aload_n 0, 1) := by decide +kernel
theorem dM_vehicle_20 : decode cM_vehicle 20 = .ok (.getfield 13, 3) := by decide +kernel
theorem dM_vehicle_23 : decode cM_vehicle 23 = .ok (.iload_n 1, 1) := by decide +kernel
theorem dM_vehicle_24 : decode cM_vehicle 24 = .ok (.baload, 1) := by decide +kernel
theorem dM_vehicle_25 : decode cM_vehicle 25 = .ok (.ifCond .ne 9, 3) := by decide +kernel
theorem dM_vehicle_28 : decode cM_vehicle 28 = .ok (.aload_n 0, 1) := by decide +kernel
theorem dM_vehicle_29 : decode cM_vehicle 29 = .ok (.iconst 1, 1) := by decide +kernel
theorem dM_vehicle_30 : decode cM_vehicle 30 = .ok (.invokevirtual 100, 3) := by decide +kernel
theorem dM_vehicle_33 : decode cM_vehicle 33 = .ok (.ireturn, 1) := by decide +kernel
theorem dM_vehicle_34 : decode cM_vehicle 34 = .ok (.iload_n 2, 1) := by decide +kernel
theorem dM_vehicle_35 : decode cM_vehicle 35 = .ok (.iconst 0, 1) := by decide +kernel
theorem dM_vehicle_36 : decode cM_vehicle 36 = .ok (.iconst 5, 1) := by decide +kernel
theorem dM_vehicle_37 : decode cM_vehicle 37 = .ok (.invokestatic 66, 3) := by decide +kernel
theorem dM_vehicle_40 : decode cM_vehicle 40 = .ok (.ifCond .ne 9, 3) := by decide +kernel
theorem dM_vehicle_43 : decode cM_vehicle 43 = .ok (.aload_n 0, 1) := by decide +kernel
theorem dM_vehicle_44 : decode cM_vehicle 44 = .ok (.iconst 2, 1) := by decide +kernel
theorem dM_vehicle_45 : decode cM_vehicle 45 = .ok (.invokevirtual 100, 3) := by decide +kernel
theorem dM_vehicle_48 : decode cM_vehicle 48 = .ok (.ireturn, 1) := by decide +kernel
theorem dM_vehicle_49 : decode cM_vehicle 49 = .ok (.iload_n 2, 1) := by decide +kernel
theorem dM_vehicle_50 : decode cM_vehicle 50 = .ok (.iconst 1, 1) := by decide +kernel
theorem dM_vehicle_51 : decode cM_vehicle 51 = .ok (.if_icmp .le 18, 3) := by decide +kernel
theorem dM_vehicle_54 : decode cM_vehicle 54 = .ok (.aload_n 0, 1) := by decide +kernel
theorem dM_vehicle_55 : decode cM_vehicle 55 = .ok (.getfield 7, 3) := by decide +kernel
theorem dM_vehicle_58 : decode cM_vehicle 58 = .ok (.iload_n 1, 1) := by decide +kernel
theorem dM_vehicle_59 : decode cM_vehicle 59 = .ok (.baload, 1) := by decide +kernel
theorem dM_vehicle_60 : decode cM_vehicle 60 = .ok (.ifCond .ne 9, 3) := by decide +kernel
theorem dM_vehicle_63 : decode cM_vehicle 63 = .ok (.aload_n 0, 1) := by decide +kernel
theorem dM_vehicle_64 : decode cM_vehicle 64 = .ok (.iconst 1, 1) := by decide +kernel
theorem dM_vehicle_65 : decode cM_vehicle 65 = .ok (.invokevirtual 100, 3) := by decide +kernel
theorem dM_vehicle_68 : decode cM_vehicle 68 = .ok (.ireturn, 1) := by decide +kernel
theorem dM_vehicle_69 : decode cM_vehicle 69 = .ok (.iload_n 2, 1) := by decide +kernel
theorem dM_vehicle_70 : decode cM_vehicle 70 = .ok (.tableswitch 69 0 4 #[34, 41, 48, 55, 62], 34) := by decide +kernel
theorem dM_vehicle_104 : decode cM_vehicle 104 = .ok (.aload_n 0, 1) := by decide +kernel
theorem dM_vehicle_105 : decode cM_vehicle 105 = .ok (.getfield 16, 3) := by decide +kernel
theorem dM_vehicle_108 : decode cM_vehicle 108 = .ok (.iload_n 1, 1) := by decide +kernel
theorem dM_vehicle_109 : decode cM_vehicle 109 = .ok (.iaload, 1) := by decide +kernel
theorem dM_vehicle_110 : decode cM_vehicle 110 = .ok (.ireturn, 1) := by decide +kernel
theorem dM_vehicle_111 : decode cM_vehicle 111 = .ok (.aload_n 0, 1) := by decide +kernel
theorem dM_vehicle_112 : decode cM_vehicle 112 = .ok (.getfield 20, 3) := by decide +kernel
theorem dM_vehicle_115 : decode cM_vehicle 115 = .ok (.iload_n 1, 1) := by decide +kernel
theorem dM_vehicle_116 : decode cM_vehicle 116 = .ok (.iaload, 1) := by decide +kernel
theorem dM_vehicle_117 : decode cM_vehicle 117 = .ok (.ireturn, 1) := by decide +kernel
theorem dM_vehicle_118 : decode cM_vehicle 118 = .ok (.aload_n 0, 1) := by decide +kernel
theorem dM_vehicle_119 : decode cM_vehicle 119 = .ok (.getfield 26, 3) := by decide +kernel
theorem dM_vehicle_122 : decode cM_vehicle 122 = .ok (.iload_n 1, 1) := by decide +kernel
theorem dM_vehicle_123 : decode cM_vehicle 123 = .ok (.iaload, 1) := by decide +kernel
theorem dM_vehicle_124 : decode cM_vehicle 124 = .ok (.ireturn, 1) := by decide +kernel
theorem dM_vehicle_125 : decode cM_vehicle 125 = .ok (.aload_n 0, 1) := by decide +kernel
theorem dM_vehicle_126 : decode cM_vehicle 126 = .ok (.getfield 44, 3) := by decide +kernel
theorem dM_vehicle_129 : decode cM_vehicle 129 = .ok (.iload_n 1, 1) := by decide +kernel
theorem dM_vehicle_130 : decode cM_vehicle 130 = .ok (.iaload, 1) := by decide +kernel
theorem dM_vehicle_131 : decode cM_vehicle 131 = .ok (.ireturn, 1) := by decide +kernel
theorem dM_vehicle_132 : decode cM_vehicle 132 = .ok (.aload_n 0, 1) := by decide +kernel
theorem dM_vehicle_133 : decode cM_vehicle 133 = .ok (.getfield 35, 3) := by decide +kernel
theorem dM_vehicle_136 : decode cM_vehicle 136 = .ok (.iload_n 1, 1) := by decide +kernel
theorem dM_vehicle_137 : decode cM_vehicle 137 = .ok (.iaload, 1) := by decide +kernel
theorem dM_vehicle_138 : decode cM_vehicle 138 = .ok (.ireturn, 1) := by decide +kernel
theorem dM_vehicle_139 : decode cM_vehicle 139 = .ok (.aload_n 0, 1) := by decide +kernel
theorem dM_vehicle_140 : decode cM_vehicle 140 = .ok (.getfield 32, 3) := by decide +kernel
theorem dM_vehicle_143 : decode cM_vehicle 143 = .ok (.iload_n 1, 1) := by decide +kernel
theorem dM_vehicle_144 : decode cM_vehicle 144 = .ok (.baload, 1) := by decide +kernel
theorem dM_vehicle_145 : decode cM_vehicle 145 = .ok (.ifCond .eq 7, 3) := by decide +kernel
theorem dM_vehicle_148 : decode cM_vehicle 148 = .ok (.iconst 1, 1) := by decide +kernel
theorem dM_vehicle_149 : decode cM_vehicle 149 = .ok (.goto 4, 3) := by decide +kernel
theorem dM_vehicle_152 : decode cM_vehicle 152 = .ok (.iconst 0, 1) := by decide +kernel
theorem dM_vehicle_153 : decode cM_vehicle 153 = .ok (.ireturn, 1) := by decide +kernel
theorem dM_countStates_0 : decode cM_countStates 0 = .ok (.iconst 0, 1) := by decide +kernel
theorem dM_countStates_1 : decode cM_countStates 1 = .ok (.istore_n 2, 1) := by decide +kernel
theorem dM_countStates_2 : decode cM_countStates 2 = .ok (.iconst 0, 1) := by decide +kernel
theorem dM_countStates_3 : decode cM_countStates 3 = .ok (.istore_n 3, 1) := by decide +kernel
theorem dM_countStates_4 : decode cM_countStates 4 = .ok (.iload_n 3, 1) := by decide +kernel
theorem dM_countStates_5 : decode cM_countStates 5 = .ok (.bipush 12, 2) := by decide +kernel
theorem dM_countStates_7 : decode cM_countStates 7 = .ok (.if_icmp .ge 22, 3) := by decide +kernel
theorem dM_countStates_10 : decode cM_countStates 10 = .ok (.aload_n 0, 1) := by decide +kernel
theorem dM_countStates_11 : decode cM_countStates 11 = .ok (.getfield 50, 3) := by decide +kernel
theorem dM_countStates_14 : decode cM_countStates 14 = .ok (.iload_n 3, 1) := by decide +kernel
theorem dM_countStates_15 : decode cM_countStates 15 = .ok (.iaload, 1) := by decide +kernel
theorem dM_countStates_16 : decode cM_countStates 16 = .ok (.iload_n 1, 1) := by decide +kernel
theorem dM_countStates_17 : decode cM_countStates 17 = .ok (.if_icmp .ne 6, 3) := by decide +kernel
theorem dM_countStates_20 : decode cM_countStates 20 = .ok (.iinc 2 1, 3) := by decide +kernel
theorem dM_countStates_23 : decode cM_countStates 23 = .ok (.iinc 3 1, 3) := by decide +kernel
theorem dM_countStates_26 : decode cM_countStates 26 = .ok (.goto (-22), 3) := by decide +kernel
theorem dM_countStates_29 : decode cM_countStates 29 = .ok (.iload_n 2, 1) := by decide +kernel
theorem dM_countStates_30 : decode cM_countStates 30 = .ok (.ireturn, 1) := by decide +kernel
theorem dM_stood_0 : decode cM_stood 0 = .ok (.bipush 10, 2) := by decide +kernel
theorem dM_stood_2 : decode cM_stood 2 = .ok (.iload_n 1, 1) := by decide +kernel
theorem dM_stood_3 : decode cM_stood 3 = .ok (.imul, 1) := by decide +kernel
theorem dM_stood_4 : decode cM_stood 4 = .ok (.istore_n 2, 1) := by decide +kernel
theorem dM_stood_5 : decode cM_stood 5 = .ok (.iload_n 2, 1) := by decide +kernel
theorem dM_stood_6 : decode cM_stood 6 = .ok (.bipush 10, 2) := by decide +kernel
theorem dM_stood_8 : decode cM_stood 8 = .ok (.iload_n 1, 1) := by decide +kernel
theorem dM_stood_9 : decode cM_stood 9 = .ok (.imul, 1) := by decide +kernel
theorem dM_stood_10 : decode cM_stood 10 = .ok (.bipush 10, 2) := by decide +kernel
theorem dM_stood_12 : decode cM_stood 12 = .ok (.iadd, 1) := by decide +kernel
theorem dM_stood_13 : decode cM_stood 13 = .ok (.if_icmp .ge 20, 3) := by decide +kernel
theorem dM_stood_16 : decode cM_stood 16 = .ok (.aload_n 0, 1) := by decide +kernel
theorem dM_stood_17 : decode cM_stood 17 = .ok (.iload_n 2, 1) := by decide +kernel
theorem dM_stood_18 : decode cM_stood 18 = .ok (.iconst (-1), 1) := by decide +kernel
theorem dM_stood_19 : decode cM_stood 19 = .ok (.invokevirtual 103, 3) := by decide +kernel
theorem dM_stood_22 : decode cM_stood 22 = .ok (.ifCond .lt 5, 3) := by decide +kernel
theorem dM_stood_25 : decode cM_stood 25 = .ok (.iconst 1, 1) := by decide +kernel
theorem dM_stood_26 : decode cM_stood 26 = .ok (.ireturn, 1) := by decide +kernel
theorem dM_stood_27 : decode cM_stood 27 = .ok (.iinc 2 1, 3) := by decide +kernel
theorem dM_stood_30 : decode cM_stood 30 = .ok (.goto (-25), 3) := by decide +kernel
theorem dM_stood_33 : decode cM_stood 33 = .ok (.iconst 0, 1) := by decide +kernel
theorem dM_stood_34 : decode cM_stood 34 = .ok (.ireturn, 1) := by decide +kernel
theorem dM_count_0 : decode cM_count 0 = .ok (.aload_n 0, 1) := by decide +kernel
theorem dM_count_1 : decode cM_count 1 = .ok (.iconst 0, 1) := by decide +kernel
theorem dM_count_2 : decode cM_count 2 = .ok (.putfield 59, 3) := by decide +kernel
theorem dM_count_5 : decode cM_count 5 = .ok (.iconst 0, 1) := by decide +kernel
theorem dM_count_6 : decode cM_count 6 = .ok (.istore_n 2, 1) := by decide +kernel
theorem dM_count_7 : decode cM_count 7 = .ok (.iload_n 1, 1) := by decide +kernel
theorem dM_count_8 : decode cM_count 8 = .ok (.tableswitch 141 0 7 #[48, 53, 83, 83, 83, 83, 91, 136], 48) := by decide +kernel
theorem dM_count_56 : decode cM_count 56 = .ok (.aload_n 0, 1) := by decide +kernel
theorem dM_count_57 : decode cM_count 57 = .ok (.getfield 63, 3) := by decide +kernel
theorem dM_count_60 : decode cM_count 60 = .ok (.ireturn, 1) := by decide +kernel
theorem dM_count_61 : decode cM_count 61 = .ok (.iconst 0, 1) := by decide +kernel
theorem dM_count_62 : decode cM_count 62 = .ok (.istore_n 3, 1) := by decide +kernel
theorem dM_count_63 : decode cM_count 63 = .ok (.iload_n 3, 1) := by decide +kernel
theorem dM_count_64 : decode cM_count 64 = .ok (.aload_n 0, 1) := by decide +kernel
theorem dM_count_65 : decode cM_count 65 = .ok (.getfield 63, 3) := by decide +kernel
theorem dM_count_68 : decode cM_count 68 = .ok (.if_icmp .ge 21, 3) := by decide +kernel
theorem dM_count_71 : decode cM_count 71 = .ok (.aload_n 0, 1) := by decide +kernel
theorem dM_count_72 : decode cM_count 72 = .ok (.getfield 7, 3) := by decide +kernel
theorem dM_count_75 : decode cM_count 75 = .ok (.iload_n 3, 1) := by decide +kernel
theorem dM_count_76 : decode cM_count 76 = .ok (.baload, 1) := by decide +kernel
theorem dM_count_77 : decode cM_count 77 = .ok (.ifCond .eq 6, 3) := by decide +kernel
theorem dM_count_80 : decode cM_count 80 = .ok (.iinc 2 1, 3) := by decide +kernel
theorem dM_count_83 : decode cM_count 83 = .ok (.iinc 3 1, 3) := by decide +kernel
theorem dM_count_86 : decode cM_count 86 = .ok (.goto (-23), 3) := by decide +kernel
theorem dM_count_89 : decode cM_count 89 = .ok (.iload_n 2, 1) := by decide +kernel
theorem dM_count_90 : decode cM_count 90 = .ok (.ireturn, 1) := by decide +kernel
theorem dM_count_91 : decode cM_count 91 = .ok (.aload_n 0, 1) := by decide +kernel
theorem dM_count_92 : decode cM_count 92 = .ok (.iload_n 1, 1) := by decide +kernel
theorem dM_count_93 : decode cM_count 93 = .ok (.iconst 2, 1) := by decide +kernel
theorem dM_count_94 : decode cM_count 94 = .ok (.isub, 1) := by decide +kernel
theorem dM_count_95 : decode cM_count 95 = .ok (.invokevirtual 126, 3) := by decide +kernel
theorem dM_count_98 : decode cM_count 98 = .ok (.ireturn, 1) := by decide +kernel
theorem dM_count_99 : decode cM_count 99 = .ok (.iconst 0, 1) := by decide +kernel
theorem dM_count_100 : decode cM_count 100 = .ok (.istore_n 3, 1) := by decide +kernel
theorem dM_count_101 : decode cM_count 101 = .ok (.iload_n 3, 1) := by decide +kernel
theorem dM_count_102 : decode cM_count 102 = .ok (.bipush 12, 2) := by decide +kernel
theorem dM_count_104 : decode cM_count 104 = .ok (.if_icmp .ge 38, 3) := by decide +kernel
theorem dM_count_107 : decode cM_count 107 = .ok (.aload_n 0, 1) := by decide +kernel
theorem dM_count_108 : decode cM_count 108 = .ok (.getfield 50, 3) := by decide +kernel
theorem dM_count_111 : decode cM_count 111 = .ok (.iload_n 3, 1) := by decide +kernel
theorem dM_count_112 : decode cM_count 112 = .ok (.iaload, 1) := by decide +kernel
theorem dM_count_113 : decode cM_count 113 = .ok (.ifCond .ne 23, 3) := by decide +kernel
theorem dM_count_116 : decode cM_count 116 = .ok (.aload_n 0, 1) := by decide +kernel
theorem dM_count_117 : decode cM_count 117 = .ok (.iload_n 3, 1) := by decide +kernel
theorem dM_count_118 : decode cM_count 118 = .ok (.iconst (-1), 1) := by decide +kernel
theorem dM_count_119 : decode cM_count 119 = .ok (.invokevirtual 107, 3) := by decide +kernel
theorem dM_count_122 : decode cM_count 122 = .ok (.ifCond .ne 14, 3) := by decide +kernel
theorem dM_count_125 : decode cM_count 125 = .ok (.aload_n 0, 1) := by decide +kernel
theorem dM_count_126 : decode cM_count 126 = .ok (.iload_n 3, 1) := by decide +kernel
theorem dM_count_127 : decode cM_count 127 = .ok (.invokevirtual 129, 3) := by decide +kernel
theorem dM_count_130 : decode cM_count 130 = .ok (.ifCond .eq 6, 3) := by decide +kernel
theorem dM_count_133 : decode cM_count 133 = .ok (.iinc 2 1, 3) := by decide +kernel
theorem dM_count_136 : decode cM_count 136 = .ok (.iinc 3 1, 3) := by decide +kernel
theorem dM_count_139 : decode cM_count 139 = .ok (.goto (-38), 3) := by decide +kernel
theorem dM_count_142 : decode cM_count 142 = .ok (.iload_n 2, 1) := by decide +kernel
theorem dM_count_143 : decode cM_count 143 = .ok (.ireturn, 1) := by decide +kernel
theorem dM_count_144 : decode cM_count 144 = .ok (.aload_n 0, 1) := by decide +kernel
theorem dM_count_145 : decode cM_count 145 = .ok (.getfield 120, 3) := by decide +kernel
theorem dM_count_148 : decode cM_count 148 = .ok (.ireturn, 1) := by decide +kernel
theorem dM_count_149 : decode cM_count 149 = .ok (.aload_n 0, 1) := by decide +kernel
theorem dM_count_150 : decode cM_count 150 = .ok (.iconst 1, 1) := by decide +kernel
theorem dM_count_151 : decode cM_count 151 = .ok (.invokevirtual 100, 3) := by decide +kernel
theorem dM_count_154 : decode cM_count 154 = .ok (.ireturn, 1) := by decide +kernel
