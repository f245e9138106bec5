theorem dV_init_0 : decode cV_init 0 = .ok (.aload_n 0, 1) := by decide +kernel
theorem dV_init_1 : decode cV_init 1 = .ok (.invokespecial 3, 3) := by decide +kernel
theorem dV_init_4 : decode cV_init 4 = .ok (.aload_n 0, 1) := by decide +kernel
theorem dV_init_5 : decode cV_init 5 = .ok (.iconst 0, 1) := by decide +kernel
theorem dV_init_6 : decode cV_init 6 = .ok (.putfield 9, 3) := by decide +kernel
theorem dV_init_9 : decode cV_init 9 = .ok (.aload_n 0, 1) := by decide +kernel
theorem dV_init_10 : decode cV_init 10 = .ok (.iconst 0, 1) := by decide +kernel
theorem dV_init_11 : decode cV_init 11 = .ok (.putfield 15, 3) := by decide +kernel
theorem dV_init_14 : decode cV_init 14 = .ok (.aload_n 0, 1) := by decide +kernel
theorem dV_init_15 : decode cV_init 15 = .ok (.iconst 0, 1) := by decide +kernel
theorem dV_init_16 : decode cV_init 16 = .ok (.putfield 18, 3) := by decide +kernel
theorem dV_init_19 : decode cV_init 19 = .ok (.aload_n 0, 1) := by decide +kernel
theorem dV_init_20 : decode cV_init 20 = .ok (.iconst 0, 1) := by decide +kernel
theorem dV_init_21 : decode cV_init 21 = .ok (.putfield 22, 3) := by decide +kernel
theorem dV_init_24 : decode cV_init 24 = .ok (.aload_n 0, 1) := by decide +kernel
theorem dV_init_25 : decode cV_init 25 = .ok (.iconst 0, 1) := by decide +kernel
theorem dV_init_26 : decode cV_init 26 = .ok (.putfield 25, 3) := by decide +kernel
theorem dV_init_29 : decode cV_init 29 = .ok (.aload_n 0, 1) := by decide +kernel
theorem dV_init_30 : decode cV_init 30 = .ok (.iconst 0, 1) := by decide +kernel
theorem dV_init_31 : decode cV_init 31 = .ok (.putfield 28, 3) := by decide +kernel
theorem dV_init_34 : decode cV_init 34 = .ok (.aload_n 0, 1) := by decide +kernel
theorem dV_init_35 : decode cV_init 35 = .ok (.iconst 0, 1) := by decide +kernel
theorem dV_init_36 : decode cV_init 36 = .ok (.putfield 31, 3) := by decide +kernel
theorem dV_init_39 : decode cV_init 39 = .ok (.aload_n 0, 1) := by decide +kernel
theorem dV_init_40 : decode cV_init 40 = .ok (.iconst 0, 1) := by decide +kernel
theorem dV_init_41 : decode cV_init 41 = .ok (.putfield 34, 3) := by decide +kernel
theorem dV_init_44 : decode cV_init 44 = .ok (.aload_n 0, 1) := by decide +kernel
theorem dV_init_45 : decode cV_init 45 = .ok (.iconst 0, 1) := by decide +kernel
theorem dV_init_46 : decode cV_init 46 = .ok (.putfield 37, 3) := by decide +kernel
theorem dV_init_49 : decode cV_init 49 = .ok (.aload_n 0, 1) := by decide +kernel
theorem dV_init_50 : decode cV_init 50 = .ok (.iconst 0, 1) := by decide +kernel
theorem dV_init_51 : decode cV_init 51 = .ok (.putfield 40, 3) := by decide +kernel
theorem dV_init_54 : decode cV_init 54 = .ok (.aload_n 0, 1) := by decide +kernel
theorem dV_init_55 : decode cV_init 55 = .ok (.iconst 0, 1) := by decide +kernel
theorem dV_init_56 : decode cV_init 56 = .ok (.putfield 43, 3) := by decide +kernel
theorem dV_init_59 : decode cV_init 59 = .ok (.aload_n 0, 1) := by decide +kernel
theorem dV_init_60 : decode cV_init 60 = .ok (.iconst 0, 1) := by decide +kernel
theorem dV_init_61 : decode cV_init 61 = .ok (.putfield 46, 3) := by decide +kernel
theorem dV_init_64 : decode cV_init 64 = .ok (.aload_n 0, 1) := by decide +kernel
theorem dV_init_65 : decode cV_init 65 = .ok (.iconst 0, 1) := by decide +kernel
theorem dV_init_66 : decode cV_init 66 = .ok (.putfield 49, 3) := by decide +kernel
theorem dV_init_69 : decode cV_init 69 = .ok (.return_, 1) := by decide +kernel
theorem dV_becomeTrain_0 : decode cV_becomeTrain 0 = .ok (.aload_n 0, 1) := by decide +kernel
theorem dV_becomeTrain_1 : decode cV_becomeTrain 1 = .ok (.iconst 1, 1) := by decide +kernel
theorem dV_becomeTrain_2 : decode cV_becomeTrain 2 = .ok (.putfield 9, 3) := by decide +kernel
theorem dV_becomeTrain_5 : decode cV_becomeTrain 5 = .ok (.aload_n 0, 1) := by decide +kernel
theorem dV_becomeTrain_6 : decode cV_becomeTrain 6 = .ok (.iconst 1, 1) := by decide +kernel
theorem dV_becomeTrain_7 : decode cV_becomeTrain 7 = .ok (.putfield 15, 3) := by decide +kernel
theorem dV_becomeTrain_10 : decode cV_becomeTrain 10 = .ok (.aload_n 0, 1) := by decide +kernel
theorem dV_becomeTrain_11 : decode cV_becomeTrain 11 = .ok (.iload_n 1, 1) := by decide +kernel
theorem dV_becomeTrain_12 : decode cV_becomeTrain 12 = .ok (.putfield 18, 3) := by decide +kernel
theorem dV_becomeTrain_15 : decode cV_becomeTrain 15 = .ok (.aload_n 0, 1) := by decide +kernel
theorem dV_becomeTrain_16 : decode cV_becomeTrain 16 = .ok (.iload_n 2, 1) := by decide +kernel
theorem dV_becomeTrain_17 : decode cV_becomeTrain 17 = .ok (.putfield 22, 3) := by decide +kernel
theorem dV_becomeTrain_20 : decode cV_becomeTrain 20 = .ok (.aload_n 0, 1) := by decide +kernel
theorem dV_becomeTrain_21 : decode cV_becomeTrain 21 = .ok (.iload_n 1, 1) := by decide +kernel
theorem dV_becomeTrain_22 : decode cV_becomeTrain 22 = .ok (.putfield 28, 3) := by decide +kernel
theorem dV_becomeTrain_25 : decode cV_becomeTrain 25 = .ok (.aload_n 0, 1) := by decide +kernel
theorem dV_becomeTrain_26 : decode cV_becomeTrain 26 = .ok (.iconst 1, 1) := by decide +kernel
theorem dV_becomeTrain_27 : decode cV_becomeTrain 27 = .ok (.putfield 34, 3) := by decide +kernel
theorem dV_becomeTrain_30 : decode cV_becomeTrain 30 = .ok (.aload_n 0, 1) := by decide +kernel
theorem dV_becomeTrain_31 : decode cV_becomeTrain 31 = .ok (.invokevirtual 52, 3) := by decide +kernel
theorem dV_becomeTrain_34 : decode cV_becomeTrain 34 = .ok (.aload_n 0, 1) := by decide +kernel
theorem dV_becomeTrain_35 : decode cV_becomeTrain 35 = .ok (.aload_n 0, 1) := by decide +kernel
theorem dV_becomeTrain_36 : decode cV_becomeTrain 36 = .ok (.getfield 46, 3) := by decide +kernel
theorem dV_becomeTrain_39 : decode cV_becomeTrain 39 = .ok (.putfield 49, 3) := by decide +kernel
theorem dV_becomeTrain_42 : decode cV_becomeTrain 42 = .ok (.return_, 1) := by decide +kernel
theorem dV_becomeWagon_0 : decode cV_becomeWagon 0 = .ok (.aload_n 0, 1) := by decide +kernel
theorem dV_becomeWagon_1 : decode cV_becomeWagon 1 = .ok (.iconst 1, 1) := by decide +kernel
theorem dV_becomeWagon_2 : decode cV_becomeWagon 2 = .ok (.putfield 15, 3) := by decide +kernel
theorem dV_becomeWagon_5 : decode cV_becomeWagon 5 = .ok (.aload_n 0, 1) := by decide +kernel
theorem dV_becomeWagon_6 : decode cV_becomeWagon 6 = .ok (.iload_n 1, 1) := by decide +kernel
theorem dV_becomeWagon_7 : decode cV_becomeWagon 7 = .ok (.putfield 18, 3) := by decide +kernel
theorem dV_becomeWagon_10 : decode cV_becomeWagon 10 = .ok (.aload_n 0, 1) := by decide +kernel
theorem dV_becomeWagon_11 : decode cV_becomeWagon 11 = .ok (.iload_n 2, 1) := by decide +kernel
theorem dV_becomeWagon_12 : decode cV_becomeWagon 12 = .ok (.putfield 22, 3) := by decide +kernel
theorem dV_becomeWagon_15 : decode cV_becomeWagon 15 = .ok (.return_, 1) := by decide +kernel
theorem dV_sendReport_0 : decode cV_sendReport 0 = .ok (.aload_n 0, 1) := by decide +kernel
theorem dV_sendReport_1 : decode cV_sendReport 1 = .ok (.aload_n 0, 1) := by decide +kernel
theorem dV_sendReport_2 : decode cV_sendReport 2 = .ok (.getfield 18, 3) := by decide +kernel
theorem dV_sendReport_5 : decode cV_sendReport 5 = .ok (.putfield 40, 3) := by decide +kernel
theorem dV_sendReport_8 : decode cV_sendReport 8 = .ok (.aload_n 0, 1) := by decide +kernel
theorem dV_sendReport_9 : decode cV_sendReport 9 = .ok (.aload_n 0, 1) := by decide +kernel
theorem dV_sendReport_10 : decode cV_sendReport 10 = .ok (.getfield 34, 3) := by decide +kernel
theorem dV_sendReport_13 : decode cV_sendReport 13 = .ok (.putfield 43, 3) := by decide +kernel
theorem dV_sendReport_16 : decode cV_sendReport 16 = .ok (.aload_n 0, 1) := by decide +kernel
theorem dV_sendReport_17 : decode cV_sendReport 17 = .ok (.aload_n 0, 1) := by decide +kernel
theorem dV_sendReport_18 : decode cV_sendReport 18 = .ok (.getfield 46, 3) := by decide +kernel
theorem dV_sendReport_21 : decode cV_sendReport 21 = .ok (.putfield 49, 3) := by decide +kernel
theorem dV_sendReport_24 : decode cV_sendReport 24 = .ok (.aload_n 0, 1) := by decide +kernel
theorem dV_sendReport_25 : decode cV_sendReport 25 = .ok (.aload_n 0, 1) := by decide +kernel
theorem dV_sendReport_26 : decode cV_sendReport 26 = .ok (.invokevirtual 55, 3) := by decide +kernel
theorem dV_sendReport_29 : decode cV_sendReport 29 = .ok (.bipush 10, 2) := by decide +kernel
theorem dV_sendReport_31 : decode cV_sendReport 31 = .ok (.idiv, 1) := by decide +kernel
theorem dV_sendReport_32 : decode cV_sendReport 32 = .ok (.putfield 46, 3) := by decide +kernel
theorem dV_sendReport_35 : decode cV_sendReport 35 = .ok (.aload_n 0, 1) := by decide +kernel
theorem dV_sendReport_36 : decode cV_sendReport 36 = .ok (.iconst 0, 1) := by decide +kernel
theorem dV_sendReport_37 : decode cV_sendReport 37 = .ok (.putfield 37, 3) := by decide +kernel
theorem dV_sendReport_40 : decode cV_sendReport 40 = .ok (.return_, 1) := by decide +kernel
theorem dV_reportOrAge_0 : decode cV_reportOrAge 0 = .ok (.aload_n 0, 1) := by decide +kernel
theorem dV_reportOrAge_1 : decode cV_reportOrAge 1 = .ok (.getfield 31, 3) := by decide +kernel
theorem dV_reportOrAge_4 : decode cV_reportOrAge 4 = .ok (.ifCond .eq 16, 3) := by decide +kernel
theorem dV_reportOrAge_7 : decode cV_reportOrAge 7 = .ok (.aload_n 0, 1) := by decide +kernel
theorem dV_reportOrAge_8 : decode cV_reportOrAge 8 = .ok (.dup, 1) := by decide +kernel
theorem dV_reportOrAge_9 : decode cV_reportOrAge 9 = .ok (.getfield 37, 3) := by decide +kernel
theorem dV_reportOrAge_12 : decode cV_reportOrAge 12 = .ok (.iconst 1, 1) := by decide +kernel
theorem dV_reportOrAge_13 : decode cV_reportOrAge 13 = .ok (.iadd, 1) := by decide +kernel
theorem dV_reportOrAge_14 : decode cV_reportOrAge 14 = .ok (.putfield 37, 3) := by decide +kernel
theorem dV_reportOrAge_17 : decode cV_reportOrAge 17 = .ok (.goto 7, 3) := by decide +kernel
theorem dV_reportOrAge_20 : decode cV_reportOrAge 20 = .ok (.aload_n 0, 1) := by decide +kernel
theorem dV_reportOrAge_21 : decode cV_reportOrAge 21 = .ok (.invokevirtual 52, 3) := by decide +kernel
theorem dV_reportOrAge_24 : decode cV_reportOrAge 24 = .ok (.return_, 1) := by decide +kernel
theorem dV_lastPlace_0 : decode cV_lastPlace 0 = .ok (.aload_n 0, 1) := by decide +kernel
theorem dV_lastPlace_1 : decode cV_lastPlace 1 = .ok (.getfield 18, 3) := by decide +kernel
theorem dV_lastPlace_4 : decode cV_lastPlace 4 = .ok (.aload_n 0, 1) := by decide +kernel
theorem dV_lastPlace_5 : decode cV_lastPlace 5 = .ok (.getfield 22, 3) := by decide +kernel
theorem dV_lastPlace_8 : decode cV_lastPlace 8 = .ok (.isub, 1) := by decide +kernel
theorem dV_lastPlace_9 : decode cV_lastPlace 9 = .ok (.iconst 1, 1) := by decide +kernel
theorem dV_lastPlace_10 : decode cV_lastPlace 10 = .ok (.iadd, 1) := by decide +kernel
theorem dV_lastPlace_11 : decode cV_lastPlace 11 = .ok (.ireturn, 1) := by decide +kernel
theorem dV_standsWithin_0 : decode cV_standsWithin 0 = .ok (.aload_n 0, 1) := by decide +kernel
theorem dV_standsWithin_1 : decode cV_standsWithin 1 = .ok (.getfield 15, 3) := by decide +kernel
theorem dV_standsWithin_4 : decode cV_standsWithin 4 = .ok (.ifCond .eq 23, 3) := by decide +kernel
theorem dV_standsWithin_7 : decode cV_standsWithin 7 = .ok (.aload_n 0, 1) := by decide +kernel
theorem dV_standsWithin_8 : decode cV_standsWithin 8 = .ok (.getfield 18, 3) := by decide +kernel
theorem dV_standsWithin_11 : decode cV_standsWithin 11 = .ok (.iload_n 1, 1) := by decide +kernel
theorem dV_standsWithin_12 : decode cV_standsWithin 12 = .ok (.if_icmp .lt 15, 3) := by decide +kernel
theorem dV_standsWithin_15 : decode cV_standsWithin 15 = .ok (.aload_n 0, 1) := by decide +kernel
theorem dV_standsWithin_16 : decode cV_standsWithin 16 = .ok (.invokevirtual 55, 3) := by decide +kernel
theorem dV_standsWithin_19 : decode cV_standsWithin 19 = .ok (.iload_n 2, 1) := by decide +kernel
theorem dV_standsWithin_20 : decode cV_standsWithin 20 = .ok (.if_icmp .gt 7, 3) := by decide +kernel
theorem dV_standsWithin_23 : decode cV_standsWithin 23 = .ok (.iconst 1, 1) := by decide +kernel
theorem dV_standsWithin_24 : decode cV_standsWithin 24 = .ok (.goto 4, 3) := by decide +kernel
theorem dV_standsWithin_27 : decode cV_standsWithin 27 = .ok (.iconst 0, 1) := by decide +kernel
theorem dV_standsWithin_28 : decode cV_standsWithin 28 = .ok (.ireturn, 1) := by decide +kernel
theorem dV_isMute_0 : decode cV_isMute 0 = .ok (.aload_n 0, 1) := by decide +kernel
theorem dV_isMute_1 : decode cV_isMute 1 = .ok (.getfield 9, 3) := by decide +kernel
theorem dV_isMute_4 : decode cV_isMute 4 = .ok (.ifCond .eq 15, 3) := by decide +kernel
theorem dV_isMute_7 : decode cV_isMute 7 = .ok (.aload_n 0, 1) := by decide +kernel
theorem dV_isMute_8 : decode cV_isMute 8 = .ok (.getfield 37, 3) := by decide +kernel
theorem dV_isMute_11 : decode cV_isMute 11 = .ok (.iconst 5, 1) := by decide +kernel
theorem dV_isMute_12 : decode cV_isMute 12 = .ok (.if_icmp .le 7, 3) := by decide +kernel
theorem dV_isMute_15 : decode cV_isMute 15 = .ok (.iconst 1, 1) := by decide +kernel
theorem dV_isMute_16 : decode cV_isMute 16 = .ok (.goto 4, 3) := by decide +kernel
theorem dV_isMute_19 : decode cV_isMute 19 = .ok (.iconst 0, 1) := by decide +kernel
theorem dV_isMute_20 : decode cV_isMute 20 = .ok (.ireturn, 1) := by decide +kernel
theorem dV_isLocatedOn_0 : decode cV_isLocatedOn 0 = .ok (.aload_n 0, 1) := by decide +kernel
theorem dV_isLocatedOn_1 : decode cV_isLocatedOn 1 = .ok (.getfield 9, 3) := by decide +kernel
theorem dV_isLocatedOn_4 : decode cV_isLocatedOn 4 = .ok (.ifCond .eq 33, 3) := by decide +kernel
theorem dV_isLocatedOn_7 : decode cV_isLocatedOn 7 = .ok (.aload_n 0, 1) := by decide +kernel
theorem dV_isLocatedOn_8 : decode cV_isLocatedOn 8 = .ok (.invokevirtual 59, 3) := by decide +kernel
theorem dV_isLocatedOn_11 : decode cV_isLocatedOn 11 = .ok (.ifCond .ne 26, 3) := by decide +kernel
theorem dV_isLocatedOn_14 : decode cV_isLocatedOn 14 = .ok (.aload_n 0, 1) := by decide +kernel
theorem dV_isLocatedOn_15 : decode cV_isLocatedOn 15 = .ok (.getfield 46, 3) := by decide +kernel
theorem dV_isLocatedOn_18 : decode cV_isLocatedOn 18 = .ok (.iload_n 1, 1) := by decide +kernel
theorem dV_isLocatedOn_19 : decode cV_isLocatedOn 19 = .ok (.if_icmp .gt 18, 3) := by decide +kernel
theorem dV_isLocatedOn_22 : decode cV_isLocatedOn 22 = .ok (.iload_n 1, 1) := by decide +kernel
theorem dV_isLocatedOn_23 : decode cV_isLocatedOn 23 = .ok (.aload_n 0, 1) := by decide +kernel
theorem dV_isLocatedOn_24 : decode cV_isLocatedOn 24 = .ok (.getfield 40, 3) := by decide +kernel
theorem dV_isLocatedOn_27 : decode cV_isLocatedOn 27 = .ok (.bipush 10, 2) := by decide +kernel
theorem dV_isLocatedOn_29 : decode cV_isLocatedOn 29 = .ok (.idiv, 1) := by decide +kernel
theorem dV_isLocatedOn_30 : decode cV_isLocatedOn 30 = .ok (.if_icmp .gt 7, 3) := by decide +kernel
theorem dV_isLocatedOn_33 : decode cV_isLocatedOn 33 = .ok (.iconst 1, 1) := by decide +kernel
theorem dV_isLocatedOn_34 : decode cV_isLocatedOn 34 = .ok (.goto 4, 3) := by decide +kernel
theorem dV_isLocatedOn_37 : decode cV_isLocatedOn 37 = .ok (.iconst 0, 1) := by decide +kernel
theorem dV_isLocatedOn_38 : decode cV_isLocatedOn 38 = .ok (.ireturn, 1) := by decide +kernel
theorem dV_claimsWithin_0 : decode cV_claimsWithin 0 = .ok (.aload_n 0, 1) := by decide +kernel
theorem dV_claimsWithin_1 : decode cV_claimsWithin 1 = .ok (.getfield 9, 3) := by decide +kernel
theorem dV_claimsWithin_4 : decode cV_claimsWithin 4 = .ok (.ifCond .eq 26, 3) := by decide +kernel
theorem dV_claimsWithin_7 : decode cV_claimsWithin 7 = .ok (.aload_n 0, 1) := by decide +kernel
theorem dV_claimsWithin_8 : decode cV_claimsWithin 8 = .ok (.getfield 46, 3) := by decide +kernel
theorem dV_claimsWithin_11 : decode cV_claimsWithin 11 = .ok (.iload_n 2, 1) := by decide +kernel
theorem dV_claimsWithin_12 : decode cV_claimsWithin 12 = .ok (.if_icmp .gt 18, 3) := by decide +kernel
theorem dV_claimsWithin_15 : decode cV_claimsWithin 15 = .ok (.aload_n 0, 1) := by decide +kernel
theorem dV_claimsWithin_16 : decode cV_claimsWithin 16 = .ok (.getfield 28, 3) := by decide +kernel
theorem dV_claimsWithin_19 : decode cV_claimsWithin 19 = .ok (.bipush 10, 2) := by decide +kernel
theorem dV_claimsWithin_21 : decode cV_claimsWithin 21 = .ok (.idiv, 1) := by decide +kernel
theorem dV_claimsWithin_22 : decode cV_claimsWithin 22 = .ok (.iload_n 1, 1) := by decide +kernel
theorem dV_claimsWithin_23 : decode cV_claimsWithin 23 = .ok (.if_icmp .lt 7, 3) := by decide +kernel
theorem dV_claimsWithin_26 : decode cV_claimsWithin 26 = .ok (.iconst 1, 1) := by decide +kernel
theorem dV_claimsWithin_27 : decode cV_claimsWithin 27 = .ok (.goto 4, 3) := by decide +kernel
theorem dV_claimsWithin_30 : decode cV_claimsWithin 30 = .ok (.iconst 0, 1) := by decide +kernel
theorem dV_claimsWithin_31 : decode cV_claimsWithin 31 = .ok (.ireturn, 1) := by decide +kernel
theorem dV_hasLeft_0 : decode cV_hasLeft 0 = .ok (.aload_n 0, 1) := by decide +kernel
theorem dV_hasLeft_1 : decode cV_hasLeft 1 = .ok (.getfield 49, 3) := by decide +kernel
theorem dV_hasLeft_4 : decode cV_hasLeft 4 = .ok (.iload_n 1, 1) := by decide +kernel
theorem dV_hasLeft_5 : decode cV_hasLeft 5 = .ok (.if_icmp .gt 15, 3) := by decide +kernel
theorem dV_hasLeft_8 : decode cV_hasLeft 8 = .ok (.iload_n 1, 1) := by decide +kernel
theorem dV_hasLeft_9 : decode cV_hasLeft 9 = .ok (.aload_n 0, 1) := by decide +kernel
theorem dV_hasLeft_10 : decode cV_hasLeft 10 = .ok (.getfield 46, 3) := by decide +kernel
theorem dV_hasLeft_13 : decode cV_hasLeft 13 = .ok (.if_icmp .ge 7, 3) := by decide +kernel
theorem dV_hasLeft_16 : decode cV_hasLeft 16 = .ok (.iconst 1, 1) := by decide +kernel
theorem dV_hasLeft_17 : decode cV_hasLeft 17 = .ok (.goto 4, 3) := by decide +kernel
theorem dV_hasLeft_20 : decode cV_hasLeft 20 = .ok (.iconst 0, 1) := by decide +kernel
theorem dV_hasLeft_21 : decode cV_hasLeft 21 = .ok (.ireturn, 1) := by decide +kernel
