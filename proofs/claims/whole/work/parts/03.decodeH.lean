theorem dH_init_0 : decode cH_init 0 = .ok (.aload_n 0, 1) := by decide +kernel
theorem dH_init_1 : decode cH_init 1 = .ok (.invokespecial 1, 3) := by decide +kernel
theorem dH_init_4 : decode cH_init 4 = .ok (.aload_n 0, 1) := by decide +kernel
theorem dH_init_5 : decode cH_init 5 = .ok (.bipush 8, 2) := by decide +kernel
theorem dH_init_7 : decode cH_init 7 = .ok (.anewarray 9, 3) := by decide +kernel
theorem dH_init_10 : decode cH_init 10 = .ok (.putfield 11, 3) := by decide +kernel
theorem dH_init_13 : decode cH_init 13 = .ok (.aload_n 0, 1) := by decide +kernel
theorem dH_init_14 : decode cH_init 14 = .ok (.iconst 0, 1) := by decide +kernel
theorem dH_init_15 : decode cH_init 15 = .ok (.putfield 15, 3) := by decide +kernel
theorem dH_init_18 : decode cH_init 18 = .ok (.aload_n 0, 1) := by decide +kernel
theorem dH_init_19 : decode cH_init 19 = .ok (.iconst 0, 1) := by decide +kernel
theorem dH_init_20 : decode cH_init 20 = .ok (.putfield 19, 3) := by decide +kernel
theorem dH_init_23 : decode cH_init 23 = .ok (.aload_n 0, 1) := by decide +kernel
theorem dH_init_24 : decode cH_init 24 = .ok (.bipush 12, 2) := by decide +kernel
theorem dH_init_26 : decode cH_init 26 = .ok (.newarray .int, 2) := by decide +kernel
theorem dH_init_28 : decode cH_init 28 = .ok (.putfield 22, 3) := by decide +kernel
theorem dH_init_31 : decode cH_init 31 = .ok (.aload_n 0, 1) := by decide +kernel
theorem dH_init_32 : decode cH_init 32 = .ok (.bipush 12, 2) := by decide +kernel
theorem dH_init_34 : decode cH_init 34 = .ok (.newarray .int, 2) := by decide +kernel
theorem dH_init_36 : decode cH_init 36 = .ok (.putfield 26, 3) := by decide +kernel
theorem dH_init_39 : decode cH_init 39 = .ok (.aload_n 0, 1) := by decide +kernel
theorem dH_init_40 : decode cH_init 40 = .ok (.bipush 12, 2) := by decide +kernel
theorem dH_init_42 : decode cH_init 42 = .ok (.newarray .int, 2) := by decide +kernel
theorem dH_init_44 : decode cH_init 44 = .ok (.putfield 29, 3) := by decide +kernel
theorem dH_init_47 : decode cH_init 47 = .ok (.aload_n 0, 1) := by decide +kernel
theorem dH_init_48 : decode cH_init 48 = .ok (.bipush 12, 2) := by decide +kernel
theorem dH_init_50 : decode cH_init 50 = .ok (.newarray .int, 2) := by decide +kernel
theorem dH_init_52 : decode cH_init 52 = .ok (.putfield 32, 3) := by decide +kernel
theorem dH_init_55 : decode cH_init 55 = .ok (.iconst 0, 1) := by decide +kernel
theorem dH_init_56 : decode cH_init 56 = .ok (.istore_n 1, 1) := by decide +kernel
theorem dH_init_57 : decode cH_init 57 = .ok (.iload_n 1, 1) := by decide +kernel
theorem dH_init_58 : decode cH_init 58 = .ok (.bipush 8, 2) := by decide +kernel
theorem dH_init_60 : decode cH_init 60 = .ok (.if_icmp .ge 22, 3) := by decide +kernel
theorem dH_init_63 : decode cH_init 63 = .ok (.aload_n 0, 1) := by decide +kernel
theorem dH_init_64 : decode cH_init 64 = .ok (.getfield 11, 3) := by decide +kernel
theorem dH_init_67 : decode cH_init 67 = .ok (.iload_n 1, 1) := by decide +kernel
theorem dH_init_68 : decode cH_init 68 = .ok (.new 9, 3) := by decide +kernel
theorem dH_init_71 : decode cH_init 71 = .ok (.dup, 1) := by decide +kernel
theorem dH_init_72 : decode cH_init 72 = .ok (.invokespecial 35, 3) := by decide +kernel
theorem dH_init_75 : decode cH_init 75 = .ok (.aastore, 1) := by decide +kernel
theorem dH_init_76 : decode cH_init 76 = .ok (.iinc 1 1, 3) := by decide +kernel
theorem dH_init_79 : decode cH_init 79 = .ok (.goto (-22), 3) := by decide +kernel
theorem dH_init_82 : decode cH_init 82 = .ok (.iconst 0, 1) := by decide +kernel
theorem dH_init_83 : decode cH_init 83 = .ok (.istore_n 1, 1) := by decide +kernel
theorem dH_init_84 : decode cH_init 84 = .ok (.iload_n 1, 1) := by decide +kernel
theorem dH_init_85 : decode cH_init 85 = .ok (.bipush 12, 2) := by decide +kernel
theorem dH_init_87 : decode cH_init 87 = .ok (.if_icmp .ge 23, 3) := by decide +kernel
theorem dH_init_90 : decode cH_init 90 = .ok (.aload_n 0, 1) := by decide +kernel
theorem dH_init_91 : decode cH_init 91 = .ok (.getfield 29, 3) := by decide +kernel
theorem dH_init_94 : decode cH_init 94 = .ok (.iload_n 1, 1) := by decide +kernel
theorem dH_init_95 : decode cH_init 95 = .ok (.iconst (-1), 1) := by decide +kernel
theorem dH_init_96 : decode cH_init 96 = .ok (.iastore, 1) := by decide +kernel
theorem dH_init_97 : decode cH_init 97 = .ok (.aload_n 0, 1) := by decide +kernel
theorem dH_init_98 : decode cH_init 98 = .ok (.getfield 32, 3) := by decide +kernel
theorem dH_init_101 : decode cH_init 101 = .ok (.iload_n 1, 1) := by decide +kernel
theorem dH_init_102 : decode cH_init 102 = .ok (.iconst (-1), 1) := by decide +kernel
theorem dH_init_103 : decode cH_init 103 = .ok (.iastore, 1) := by decide +kernel
theorem dH_init_104 : decode cH_init 104 = .ok (.iinc 1 1, 3) := by decide +kernel
theorem dH_init_107 : decode cH_init 107 = .ok (.goto (-23), 3) := by decide +kernel
theorem dH_init_110 : decode cH_init 110 = .ok (.return_, 1) := by decide +kernel
theorem dH_enter_0 : decode cH_enter 0 = .ok (.iload_n 2, 1) := by decide +kernel
theorem dH_enter_1 : decode cH_enter 1 = .ok (.iconst 1, 1) := by decide +kernel
theorem dH_enter_2 : decode cH_enter 2 = .ok (.if_icmp .lt 9, 3) := by decide +kernel
theorem dH_enter_5 : decode cH_enter 5 = .ok (.iload_n 2, 1) := by decide +kernel
theorem dH_enter_6 : decode cH_enter 6 = .ok (.bipush 40, 2) := by decide +kernel
theorem dH_enter_8 : decode cH_enter 8 = .ok (.if_icmp .le 13, 3) := by decide +kernel
theorem dH_enter_11 : decode cH_enter 11 = .ok (.new 36, 3) := by decide +kernel
theorem dH_enter_14 : decode cH_enter 14 = .ok (.dup, 1) := by decide +kernel
theorem dH_enter_15 : decode cH_enter 15 = .ok (.ldc 38, 2) := by decide +kernel
theorem dH_enter_17 : decode cH_enter 17 = .ok (.invokespecial 40, 3) := by decide +kernel
theorem dH_enter_20 : decode cH_enter 20 = .ok (.athrow, 1) := by decide +kernel
theorem dH_enter_21 : decode cH_enter 21 = .ok (.iload_n 1, 1) := by decide +kernel
theorem dH_enter_22 : decode cH_enter 22 = .ok (.ifCond .lt 17, 3) := by decide +kernel
theorem dH_enter_25 : decode cH_enter 25 = .ok (.iload_n 1, 1) := by decide +kernel
theorem dH_enter_26 : decode cH_enter 26 = .ok (.bipush 120, 2) := by decide +kernel
theorem dH_enter_28 : decode cH_enter 28 = .ok (.if_icmp .ge 11, 3) := by decide +kernel
theorem dH_enter_31 : decode cH_enter 31 = .ok (.iload_n 1, 1) := by decide +kernel
theorem dH_enter_32 : decode cH_enter 32 = .ok (.iload_n 2, 1) := by decide +kernel
theorem dH_enter_33 : decode cH_enter 33 = .ok (.isub, 1) := by decide +kernel
theorem dH_enter_34 : decode cH_enter 34 = .ok (.iconst 1, 1) := by decide +kernel
theorem dH_enter_35 : decode cH_enter 35 = .ok (.iadd, 1) := by decide +kernel
theorem dH_enter_36 : decode cH_enter 36 = .ok (.ifCond .ge 13, 3) := by decide +kernel
theorem dH_enter_39 : decode cH_enter 39 = .ok (.new 36, 3) := by decide +kernel
theorem dH_enter_42 : decode cH_enter 42 = .ok (.dup, 1) := by decide +kernel
theorem dH_enter_43 : decode cH_enter 43 = .ok (.ldc 43, 2) := by decide +kernel
theorem dH_enter_45 : decode cH_enter 45 = .ok (.invokespecial 40, 3) := by decide +kernel
theorem dH_enter_48 : decode cH_enter 48 = .ok (.athrow, 1) := by decide +kernel
theorem dH_enter_49 : decode cH_enter 49 = .ok (.aload_n 0, 1) := by decide +kernel
theorem dH_enter_50 : decode cH_enter 50 = .ok (.getfield 15, 3) := by decide +kernel
theorem dH_enter_53 : decode cH_enter 53 = .ok (.bipush 8, 2) := by decide +kernel
theorem dH_enter_55 : decode cH_enter 55 = .ok (.if_icmp .lt 13, 3) := by decide +kernel
theorem dH_enter_58 : decode cH_enter 58 = .ok (.new 45, 3) := by decide +kernel
theorem dH_enter_61 : decode cH_enter 61 = .ok (.dup, 1) := by decide +kernel
theorem dH_enter_62 : decode cH_enter 62 = .ok (.ldc 47, 2) := by decide +kernel
theorem dH_enter_64 : decode cH_enter 64 = .ok (.invokespecial 49, 3) := by decide +kernel
theorem dH_enter_67 : decode cH_enter 67 = .ok (.athrow, 1) := by decide +kernel
theorem dH_enter_68 : decode cH_enter 68 = .ok (.iload_n 1, 1) := by decide +kernel
theorem dH_enter_69 : decode cH_enter 69 = .ok (.iload_n 2, 1) := by decide +kernel
theorem dH_enter_70 : decode cH_enter 70 = .ok (.isub, 1) := by decide +kernel
theorem dH_enter_71 : decode cH_enter 71 = .ok (.iconst 1, 1) := by decide +kernel
theorem dH_enter_72 : decode cH_enter 72 = .ok (.iadd, 1) := by decide +kernel
theorem dH_enter_73 : decode cH_enter 73 = .ok (.istore_n 3, 1) := by decide +kernel
theorem dH_enter_74 : decode cH_enter 74 = .ok (.aload_n 0, 1) := by decide +kernel
theorem dH_enter_75 : decode cH_enter 75 = .ok (.iload_n 3, 1) := by decide +kernel
theorem dH_enter_76 : decode cH_enter 76 = .ok (.iload_n 1, 1) := by decide +kernel
theorem dH_enter_77 : decode cH_enter 77 = .ok (.invokevirtual 50, 3) := by decide +kernel
theorem dH_enter_80 : decode cH_enter 80 = .ok (.ifCond .eq 13, 3) := by decide +kernel
theorem dH_enter_83 : decode cH_enter 83 = .ok (.new 45, 3) := by decide +kernel
theorem dH_enter_86 : decode cH_enter 86 = .ok (.dup, 1) := by decide +kernel
theorem dH_enter_87 : decode cH_enter 87 = .ok (.ldc 54, 2) := by decide +kernel
theorem dH_enter_89 : decode cH_enter 89 = .ok (.invokespecial 49, 3) := by decide +kernel
theorem dH_enter_92 : decode cH_enter 92 = .ok (.athrow, 1) := by decide +kernel
theorem dH_enter_93 : decode cH_enter 93 = .ok (.aload_n 0, 1) := by decide +kernel
theorem dH_enter_94 : decode cH_enter 94 = .ok (.iload_n 3, 1) := by decide +kernel
theorem dH_enter_95 : decode cH_enter 95 = .ok (.invokestatic 56, 3) := by decide +kernel
theorem dH_enter_98 : decode cH_enter 98 = .ok (.iload_n 1, 1) := by decide +kernel
theorem dH_enter_99 : decode cH_enter 99 = .ok (.invokestatic 56, 3) := by decide +kernel
theorem dH_enter_102 : decode cH_enter 102 = .ok (.iconst (-1), 1) := by decide +kernel
theorem dH_enter_103 : decode cH_enter 103 = .ok (.invokevirtual 60, 3) := by decide +kernel
theorem dH_enter_106 : decode cH_enter 106 = .ok (.ifCond .eq 13, 3) := by decide +kernel
theorem dH_enter_109 : decode cH_enter 109 = .ok (.new 45, 3) := by decide +kernel
theorem dH_enter_112 : decode cH_enter 112 = .ok (.dup, 1) := by decide +kernel
theorem dH_enter_113 : decode cH_enter 113 = .ok (.ldc 64, 2) := by decide +kernel
theorem dH_enter_115 : decode cH_enter 115 = .ok (.invokespecial 49, 3) := by decide +kernel
theorem dH_enter_118 : decode cH_enter 118 = .ok (.athrow, 1) := by decide +kernel
theorem dH_enter_119 : decode cH_enter 119 = .ok (.aload_n 0, 1) := by decide +kernel
theorem dH_enter_120 : decode cH_enter 120 = .ok (.getfield 11, 3) := by decide +kernel
theorem dH_enter_123 : decode cH_enter 123 = .ok (.aload_n 0, 1) := by decide +kernel
theorem dH_enter_124 : decode cH_enter 124 = .ok (.getfield 15, 3) := by decide +kernel
theorem dH_enter_127 : decode cH_enter 127 = .ok (.aaload, 1) := by decide +kernel
theorem dH_enter_128 : decode cH_enter 128 = .ok (.iload_n 1, 1) := by decide +kernel
theorem dH_enter_129 : decode cH_enter 129 = .ok (.iload_n 2, 1) := by decide +kernel
theorem dH_enter_130 : decode cH_enter 130 = .ok (.invokevirtual 66, 3) := by decide +kernel
theorem dH_enter_133 : decode cH_enter 133 = .ok (.aload_n 0, 1) := by decide +kernel
theorem dH_enter_134 : decode cH_enter 134 = .ok (.dup, 1) := by decide +kernel
theorem dH_enter_135 : decode cH_enter 135 = .ok (.getfield 15, 3) := by decide +kernel
theorem dH_enter_138 : decode cH_enter 138 = .ok (.iconst 1, 1) := by decide +kernel
theorem dH_enter_139 : decode cH_enter 139 = .ok (.iadd, 1) := by decide +kernel
theorem dH_enter_140 : decode cH_enter 140 = .ok (.putfield 15, 3) := by decide +kernel
theorem dH_enter_143 : decode cH_enter 143 = .ok (.aload_n 0, 1) := by decide +kernel
theorem dH_enter_144 : decode cH_enter 144 = .ok (.invokevirtual 70, 3) := by decide +kernel
theorem dH_enter_147 : decode cH_enter 147 = .ok (.aload_n 0, 1) := by decide +kernel
theorem dH_enter_148 : decode cH_enter 148 = .ok (.getfield 15, 3) := by decide +kernel
theorem dH_enter_151 : decode cH_enter 151 = .ok (.iconst 1, 1) := by decide +kernel
theorem dH_enter_152 : decode cH_enter 152 = .ok (.isub, 1) := by decide +kernel
theorem dH_enter_153 : decode cH_enter 153 = .ok (.ireturn, 1) := by decide +kernel
theorem dH_drive_0 : decode cH_drive 0 = .ok (.aload_n 0, 1) := by decide +kernel
theorem dH_drive_1 : decode cH_drive 1 = .ok (.iload_n 1, 1) := by decide +kernel
theorem dH_drive_2 : decode cH_drive 2 = .ok (.invokevirtual 73, 3) := by decide +kernel
theorem dH_drive_5 : decode cH_drive 5 = .ok (.astore_n 3, 1) := by decide +kernel
theorem dH_drive_6 : decode cH_drive 6 = .ok (.iload_n 2, 1) := by decide +kernel
theorem dH_drive_7 : decode cH_drive 7 = .ok (.ifCond .lt 9, 3) := by decide +kernel
theorem dH_drive_10 : decode cH_drive 10 = .ok (.iload_n 2, 1) := by decide +kernel
theorem dH_drive_11 : decode cH_drive 11 = .ok (.bipush 9, 2) := by decide +kernel
theorem dH_drive_13 : decode cH_drive 13 = .ok (.if_icmp .le 13, 3) := by decide +kernel
theorem dH_drive_16 : decode cH_drive 16 = .ok (.new 36, 3) := by decide +kernel
theorem dH_drive_19 : decode cH_drive 19 = .ok (.dup, 1) := by decide +kernel
theorem dH_drive_20 : decode cH_drive 20 = .ok (.ldc 77, 2) := by decide +kernel
theorem dH_drive_22 : decode cH_drive 22 = .ok (.invokespecial 40, 3) := by decide +kernel
theorem dH_drive_25 : decode cH_drive 25 = .ok (.athrow, 1) := by decide +kernel
theorem dH_drive_26 : decode cH_drive 26 = .ok (.aload_n 3, 1) := by decide +kernel
theorem dH_drive_27 : decode cH_drive 27 = .ok (.getfield 79, 3) := by decide +kernel
theorem dH_drive_30 : decode cH_drive 30 = .ok (.istore 4, 2) := by decide +kernel
theorem dH_drive_32 : decode cH_drive 32 = .ok (.aload_n 3, 1) := by decide +kernel
theorem dH_drive_33 : decode cH_drive 33 = .ok (.iload_n 2, 1) := by decide +kernel
theorem dH_drive_34 : decode cH_drive 34 = .ok (.putfield 79, 3) := by decide +kernel
theorem dH_drive_37 : decode cH_drive 37 = .ok (.iload 4, 2) := by decide +kernel
theorem dH_drive_39 : decode cH_drive 39 = .ok (.ireturn, 1) := by decide +kernel
theorem dH_silence_0 : decode cH_silence 0 = .ok (.aload_n 0, 1) := by decide +kernel
theorem dH_silence_1 : decode cH_silence 1 = .ok (.iload_n 1, 1) := by decide +kernel
theorem dH_silence_2 : decode cH_silence 2 = .ok (.invokevirtual 73, 3) := by decide +kernel
theorem dH_silence_5 : decode cH_silence 5 = .ok (.astore_n 3, 1) := by decide +kernel
theorem dH_silence_6 : decode cH_silence 6 = .ok (.aload_n 3, 1) := by decide +kernel
theorem dH_silence_7 : decode cH_silence 7 = .ok (.getfield 82, 3) := by decide +kernel
theorem dH_silence_10 : decode cH_silence 10 = .ok (.iload_n 2, 1) := by decide +kernel
theorem dH_silence_11 : decode cH_silence 11 = .ok (.if_icmp .eq 7, 3) := by decide +kernel
theorem dH_silence_14 : decode cH_silence 14 = .ok (.iconst 1, 1) := by decide +kernel
theorem dH_silence_15 : decode cH_silence 15 = .ok (.goto 4, 3) := by decide +kernel
theorem dH_silence_18 : decode cH_silence 18 = .ok (.iconst 0, 1) := by decide +kernel
theorem dH_silence_19 : decode cH_silence 19 = .ok (.istore 4, 2) := by decide +kernel
theorem dH_silence_21 : decode cH_silence 21 = .ok (.aload_n 3, 1) := by decide +kernel
theorem dH_silence_22 : decode cH_silence 22 = .ok (.iload_n 2, 1) := by decide +kernel
theorem dH_silence_23 : decode cH_silence 23 = .ok (.putfield 82, 3) := by decide +kernel
theorem dH_silence_26 : decode cH_silence 26 = .ok (.iload 4, 2) := by decide +kernel
theorem dH_silence_28 : decode cH_silence 28 = .ok (.ifCond .eq 7, 3) := by decide +kernel
theorem dH_silence_31 : decode cH_silence 31 = .ok (.iconst 1, 1) := by decide +kernel
theorem dH_silence_32 : decode cH_silence 32 = .ok (.goto 4, 3) := by decide +kernel
theorem dH_silence_35 : decode cH_silence 35 = .ok (.iconst 0, 1) := by decide +kernel
theorem dH_silence_36 : decode cH_silence 36 = .ok (.ireturn, 1) := by decide +kernel
theorem dH_authorise_0 : decode cH_authorise 0 = .ok (.aload_n 0, 1) := by decide +kernel
theorem dH_authorise_1 : decode cH_authorise 1 = .ok (.iload_n 1, 1) := by decide +kernel
theorem dH_authorise_2 : decode cH_authorise 2 = .ok (.invokevirtual 73, 3) := by decide +kernel
theorem dH_authorise_5 : decode cH_authorise 5 = .ok (.astore_n 2, 1) := by decide +kernel
theorem dH_authorise_6 : decode cH_authorise 6 = .ok (.aload_n 2, 1) := by decide +kernel
theorem dH_authorise_7 : decode cH_authorise 7 = .ok (.invokevirtual 86, 3) := by decide +kernel
theorem dH_authorise_10 : decode cH_authorise 10 = .ok (.ifCond .ne 10, 3) := by decide +kernel
theorem dH_authorise_13 : decode cH_authorise 13 = .ok (.aload_n 2, 1) := by decide +kernel
theorem dH_authorise_14 : decode cH_authorise 14 = .ok (.getfield 82, 3) := by decide +kernel
theorem dH_authorise_17 : decode cH_authorise 17 = .ok (.ifCond .eq 13, 3) := by decide +kernel
theorem dH_authorise_20 : decode cH_authorise 20 = .ok (.new 45, 3) := by decide +kernel
theorem dH_authorise_23 : decode cH_authorise 23 = .ok (.dup, 1) := by decide +kernel
theorem dH_authorise_24 : decode cH_authorise 24 = .ok (.ldc 90, 2) := by decide +kernel
theorem dH_authorise_26 : decode cH_authorise 26 = .ok (.invokespecial 49, 3) := by decide +kernel
theorem dH_authorise_29 : decode cH_authorise 29 = .ok (.athrow, 1) := by decide +kernel
theorem dH_authorise_30 : decode cH_authorise 30 = .ok (.aload_n 2, 1) := by decide +kernel
theorem dH_authorise_31 : decode cH_authorise 31 = .ok (.getfield 92, 3) := by decide +kernel
theorem dH_authorise_34 : decode cH_authorise 34 = .ok (.invokestatic 56, 3) := by decide +kernel
theorem dH_authorise_37 : decode cH_authorise 37 = .ok (.istore_n 3, 1) := by decide +kernel
theorem dH_authorise_38 : decode cH_authorise 38 = .ok (.aload_n 0, 1) := by decide +kernel
theorem dH_authorise_39 : decode cH_authorise 39 = .ok (.getfield 22, 3) := by decide +kernel
theorem dH_authorise_42 : decode cH_authorise 42 = .ok (.iload_n 3, 1) := by decide +kernel
theorem dH_authorise_43 : decode cH_authorise 43 = .ok (.iaload, 1) := by decide +kernel
theorem dH_authorise_44 : decode cH_authorise 44 = .ok (.ifCond .eq 14, 3) := by decide +kernel
theorem dH_authorise_47 : decode cH_authorise 47 = .ok (.aload_n 2, 1) := by decide +kernel
theorem dH_authorise_48 : decode cH_authorise 48 = .ok (.getfield 95, 3) := by decide +kernel
theorem dH_authorise_51 : decode cH_authorise 51 = .ok (.invokestatic 56, 3) := by decide +kernel
theorem dH_authorise_54 : decode cH_authorise 54 = .ok (.iload_n 3, 1) := by decide +kernel
theorem dH_authorise_55 : decode cH_authorise 55 = .ok (.if_icmp .ne 7, 3) := by decide +kernel
theorem dH_authorise_58 : decode cH_authorise 58 = .ok (.iconst 1, 1) := by decide +kernel
theorem dH_authorise_59 : decode cH_authorise 59 = .ok (.goto 4, 3) := by decide +kernel
theorem dH_authorise_62 : decode cH_authorise 62 = .ok (.iconst 0, 1) := by decide +kernel
theorem dH_authorise_63 : decode cH_authorise 63 = .ok (.istore 4, 2) := by decide +kernel
theorem dH_authorise_65 : decode cH_authorise 65 = .ok (.iload 4, 2) := by decide +kernel
theorem dH_authorise_67 : decode cH_authorise 67 = .ok (.ifCond .eq 35, 3) := by decide +kernel
theorem dH_authorise_70 : decode cH_authorise 70 = .ok (.aload_n 0, 1) := by decide +kernel
theorem dH_authorise_71 : decode cH_authorise 71 = .ok (.iload_n 3, 1) := by decide +kernel
theorem dH_authorise_72 : decode cH_authorise 72 = .ok (.iload_n 3, 1) := by decide +kernel
theorem dH_authorise_73 : decode cH_authorise 73 = .ok (.iload_n 1, 1) := by decide +kernel
theorem dH_authorise_74 : decode cH_authorise 74 = .ok (.invokevirtual 60, 3) := by decide +kernel
theorem dH_authorise_77 : decode cH_authorise 77 = .ok (.ifCond .ne 25, 3) := by decide +kernel
theorem dH_authorise_80 : decode cH_authorise 80 = .ok (.aload_n 0, 1) := by decide +kernel
theorem dH_authorise_81 : decode cH_authorise 81 = .ok (.iload_n 3, 1) := by decide +kernel
theorem dH_authorise_82 : decode cH_authorise 82 = .ok (.iload_n 1, 1) := by decide +kernel
theorem dH_authorise_83 : decode cH_authorise 83 = .ok (.invokevirtual 98, 3) := by decide +kernel
theorem dH_authorise_86 : decode cH_authorise 86 = .ok (.istore 5, 2) := by decide +kernel
theorem dH_authorise_88 : decode cH_authorise 88 = .ok (.aload_n 2, 1) := by decide +kernel
theorem dH_authorise_89 : decode cH_authorise 89 = .ok (.iload 5, 2) := by decide +kernel
theorem dH_authorise_91 : decode cH_authorise 91 = .ok (.bipush 10, 2) := by decide +kernel
theorem dH_authorise_93 : decode cH_authorise 93 = .ok (.imul, 1) := by decide +kernel
theorem dH_authorise_94 : decode cH_authorise 94 = .ok (.bipush 10, 2) := by decide +kernel
theorem dH_authorise_96 : decode cH_authorise 96 = .ok (.iadd, 1) := by decide +kernel
theorem dH_authorise_97 : decode cH_authorise 97 = .ok (.iconst 1, 1) := by decide +kernel
theorem dH_authorise_98 : decode cH_authorise 98 = .ok (.isub, 1) := by decide +kernel
theorem dH_authorise_99 : decode cH_authorise 99 = .ok (.putfield 92, 3) := by decide +kernel
theorem dH_authorise_102 : decode cH_authorise 102 = .ok (.aload_n 2, 1) := by decide +kernel
theorem dH_authorise_103 : decode cH_authorise 103 = .ok (.getfield 92, 3) := by decide +kernel
theorem dH_authorise_106 : decode cH_authorise 106 = .ok (.ireturn, 1) := by decide +kernel
theorem dH_relent_0 : decode cH_relent 0 = .ok (.aload_n 0, 1) := by decide +kernel
theorem dH_relent_1 : decode cH_relent 1 = .ok (.iload_n 1, 1) := by decide +kernel
theorem dH_relent_2 : decode cH_relent 2 = .ok (.invokevirtual 73, 3) := by decide +kernel
theorem dH_relent_5 : decode cH_relent 5 = .ok (.astore_n 2, 1) := by decide +kernel
theorem dH_relent_6 : decode cH_relent 6 = .ok (.aload_n 2, 1) := by decide +kernel
theorem dH_relent_7 : decode cH_relent 7 = .ok (.getfield 82, 3) := by decide +kernel
theorem dH_relent_10 : decode cH_relent 10 = .ok (.ifCond .eq 13, 3) := by decide +kernel
theorem dH_relent_13 : decode cH_relent 13 = .ok (.new 45, 3) := by decide +kernel
theorem dH_relent_16 : decode cH_relent 16 = .ok (.dup, 1) := by decide +kernel
theorem dH_relent_17 : decode cH_relent 17 = .ok (.ldc 102, 2) := by decide +kernel
theorem dH_relent_19 : decode cH_relent 19 = .ok (.invokespecial 49, 3) := by decide +kernel
theorem dH_relent_22 : decode cH_relent 22 = .ok (.athrow, 1) := by decide +kernel
theorem dH_relent_23 : decode cH_relent 23 = .ok (.aload_n 2, 1) := by decide +kernel
theorem dH_relent_24 : decode cH_relent 24 = .ok (.getfield 92, 3) := by decide +kernel
theorem dH_relent_27 : decode cH_relent 27 = .ok (.aload_n 2, 1) := by decide +kernel
theorem dH_relent_28 : decode cH_relent 28 = .ok (.getfield 104, 3) := by decide +kernel
theorem dH_relent_31 : decode cH_relent 31 = .ok (.isub, 1) := by decide +kernel
theorem dH_relent_32 : decode cH_relent 32 = .ok (.istore_n 3, 1) := by decide +kernel
theorem dH_relent_33 : decode cH_relent 33 = .ok (.aload_n 2, 1) := by decide +kernel
theorem dH_relent_34 : decode cH_relent 34 = .ok (.aload_n 2, 1) := by decide +kernel
theorem dH_relent_35 : decode cH_relent 35 = .ok (.getfield 104, 3) := by decide +kernel
theorem dH_relent_38 : decode cH_relent 38 = .ok (.putfield 92, 3) := by decide +kernel
theorem dH_relent_41 : decode cH_relent 41 = .ok (.iload_n 3, 1) := by decide +kernel
theorem dH_relent_42 : decode cH_relent 42 = .ok (.ireturn, 1) := by decide +kernel
theorem dH_lose_0 : decode cH_lose 0 = .ok (.aload_n 0, 1) := by decide +kernel
theorem dH_lose_1 : decode cH_lose 1 = .ok (.iload_n 1, 1) := by decide +kernel
theorem dH_lose_2 : decode cH_lose 2 = .ok (.invokevirtual 73, 3) := by decide +kernel
theorem dH_lose_5 : decode cH_lose 5 = .ok (.astore_n 3, 1) := by decide +kernel
theorem dH_lose_6 : decode cH_lose 6 = .ok (.iload_n 2, 1) := by decide +kernel
theorem dH_lose_7 : decode cH_lose 7 = .ok (.iconst 1, 1) := by decide +kernel
theorem dH_lose_8 : decode cH_lose 8 = .ok (.if_icmp .lt 11, 3) := by decide +kernel
theorem dH_lose_11 : decode cH_lose 11 = .ok (.iload_n 2, 1) := by decide +kernel
theorem dH_lose_12 : decode cH_lose 12 = .ok (.aload_n 3, 1) := by decide +kernel
theorem dH_lose_13 : decode cH_lose 13 = .ok (.getfield 107, 3) := by decide +kernel
theorem dH_lose_16 : decode cH_lose 16 = .ok (.if_icmp .lt 13, 3) := by decide +kernel
theorem dH_lose_19 : decode cH_lose 19 = .ok (.new 36, 3) := by decide +kernel
theorem dH_lose_22 : decode cH_lose 22 = .ok (.dup, 1) := by decide +kernel
theorem dH_lose_23 : decode cH_lose 23 = .ok (.ldc 110, 2) := by decide +kernel
theorem dH_lose_25 : decode cH_lose 25 = .ok (.invokespecial 40, 3) := by decide +kernel
theorem dH_lose_28 : decode cH_lose 28 = .ok (.athrow, 1) := by decide +kernel
theorem dH_lose_29 : decode cH_lose 29 = .ok (.aload_n 0, 1) := by decide +kernel
theorem dH_lose_30 : decode cH_lose 30 = .ok (.getfield 15, 3) := by decide +kernel
theorem dH_lose_33 : decode cH_lose 33 = .ok (.bipush 8, 2) := by decide +kernel
theorem dH_lose_35 : decode cH_lose 35 = .ok (.if_icmp .lt 13, 3) := by decide +kernel
theorem dH_lose_38 : decode cH_lose 38 = .ok (.new 45, 3) := by decide +kernel
theorem dH_lose_41 : decode cH_lose 41 = .ok (.dup, 1) := by decide +kernel
theorem dH_lose_42 : decode cH_lose 42 = .ok (.ldc 47, 2) := by decide +kernel
theorem dH_lose_44 : decode cH_lose 44 = .ok (.invokespecial 49, 3) := by decide +kernel
theorem dH_lose_47 : decode cH_lose 47 = .ok (.athrow, 1) := by decide +kernel
theorem dH_lose_48 : decode cH_lose 48 = .ok (.aload_n 0, 1) := by decide +kernel
theorem dH_lose_49 : decode cH_lose 49 = .ok (.getfield 11, 3) := by decide +kernel
theorem dH_lose_52 : decode cH_lose 52 = .ok (.aload_n 0, 1) := by decide +kernel
theorem dH_lose_53 : decode cH_lose 53 = .ok (.getfield 15, 3) := by decide +kernel
theorem dH_lose_56 : decode cH_lose 56 = .ok (.aaload, 1) := by decide +kernel
theorem dH_lose_57 : decode cH_lose 57 = .ok (.aload_n 3, 1) := by decide +kernel
theorem dH_lose_58 : decode cH_lose 58 = .ok (.invokevirtual 112, 3) := by decide +kernel
theorem dH_lose_61 : decode cH_lose 61 = .ok (.iload_n 2, 1) := by decide +kernel
theorem dH_lose_62 : decode cH_lose 62 = .ok (.iadd, 1) := by decide +kernel
theorem dH_lose_63 : decode cH_lose 63 = .ok (.iconst 1, 1) := by decide +kernel
theorem dH_lose_64 : decode cH_lose 64 = .ok (.isub, 1) := by decide +kernel
theorem dH_lose_65 : decode cH_lose 65 = .ok (.iload_n 2, 1) := by decide +kernel
theorem dH_lose_66 : decode cH_lose 66 = .ok (.invokevirtual 116, 3) := by decide +kernel
theorem dH_lose_69 : decode cH_lose 69 = .ok (.aload_n 0, 1) := by decide +kernel
theorem dH_lose_70 : decode cH_lose 70 = .ok (.dup, 1) := by decide +kernel
theorem dH_lose_71 : decode cH_lose 71 = .ok (.getfield 15, 3) := by decide +kernel
theorem dH_lose_74 : decode cH_lose 74 = .ok (.iconst 1, 1) := by decide +kernel
theorem dH_lose_75 : decode cH_lose 75 = .ok (.iadd, 1) := by decide +kernel
theorem dH_lose_76 : decode cH_lose 76 = .ok (.putfield 15, 3) := by decide +kernel
theorem dH_lose_79 : decode cH_lose 79 = .ok (.aload_n 3, 1) := by decide +kernel
theorem dH_lose_80 : decode cH_lose 80 = .ok (.dup, 1) := by decide +kernel
theorem dH_lose_81 : decode cH_lose 81 = .ok (.getfield 107, 3) := by decide +kernel
theorem dH_lose_84 : decode cH_lose 84 = .ok (.iload_n 2, 1) := by decide +kernel
theorem dH_lose_85 : decode cH_lose 85 = .ok (.isub, 1) := by decide +kernel
theorem dH_lose_86 : decode cH_lose 86 = .ok (.putfield 107, 3) := by decide +kernel
theorem dH_lose_89 : decode cH_lose 89 = .ok (.aload_n 3, 1) := by decide +kernel
theorem dH_lose_90 : decode cH_lose 90 = .ok (.iconst 0, 1) := by decide +kernel
theorem dH_lose_91 : decode cH_lose 91 = .ok (.putfield 119, 3) := by decide +kernel
theorem dH_lose_94 : decode cH_lose 94 = .ok (.aload_n 0, 1) := by decide +kernel
theorem dH_lose_95 : decode cH_lose 95 = .ok (.getfield 15, 3) := by decide +kernel
theorem dH_lose_98 : decode cH_lose 98 = .ok (.iconst 1, 1) := by decide +kernel
theorem dH_lose_99 : decode cH_lose 99 = .ok (.isub, 1) := by decide +kernel
theorem dH_lose_100 : decode cH_lose 100 = .ok (.ireturn, 1) := by decide +kernel
theorem dH_confirm_0 : decode cH_confirm 0 = .ok (.aload_n 0, 1) := by decide +kernel
theorem dH_confirm_1 : decode cH_confirm 1 = .ok (.iload_n 1, 1) := by decide +kernel
theorem dH_confirm_2 : decode cH_confirm 2 = .ok (.invokevirtual 73, 3) := by decide +kernel
theorem dH_confirm_5 : decode cH_confirm 5 = .ok (.astore_n 2, 1) := by decide +kernel
theorem dH_confirm_6 : decode cH_confirm 6 = .ok (.aload_n 2, 1) := by decide +kernel
theorem dH_confirm_7 : decode cH_confirm 7 = .ok (.getfield 119, 3) := by decide +kernel
theorem dH_confirm_10 : decode cH_confirm 10 = .ok (.ifCond .ne 10, 3) := by decide +kernel
theorem dH_confirm_13 : decode cH_confirm 13 = .ok (.aload_n 2, 1) := by decide +kernel
theorem dH_confirm_14 : decode cH_confirm 14 = .ok (.getfield 122, 3) := by decide +kernel
theorem dH_confirm_17 : decode cH_confirm 17 = .ok (.ifCond .eq 13, 3) := by decide +kernel
theorem dH_confirm_20 : decode cH_confirm 20 = .ok (.new 45, 3) := by decide +kernel
theorem dH_confirm_23 : decode cH_confirm 23 = .ok (.dup, 1) := by decide +kernel
theorem dH_confirm_24 : decode cH_confirm 24 = .ok (.ldc 125, 2) := by decide +kernel
theorem dH_confirm_26 : decode cH_confirm 26 = .ok (.invokespecial 49, 3) := by decide +kernel
theorem dH_confirm_29 : decode cH_confirm 29 = .ok (.athrow, 1) := by decide +kernel
theorem dH_confirm_30 : decode cH_confirm 30 = .ok (.aload_n 2, 1) := by decide +kernel
theorem dH_confirm_31 : decode cH_confirm 31 = .ok (.iconst 1, 1) := by decide +kernel
theorem dH_confirm_32 : decode cH_confirm 32 = .ok (.putfield 119, 3) := by decide +kernel
theorem dH_confirm_35 : decode cH_confirm 35 = .ok (.aload_n 2, 1) := by decide +kernel
theorem dH_confirm_36 : decode cH_confirm 36 = .ok (.getfield 107, 3) := by decide +kernel
theorem dH_confirm_39 : decode cH_confirm 39 = .ok (.ireturn, 1) := by decide +kernel
theorem dH_clear_0 : decode cH_clear 0 = .ok (.aload_n 0, 1) := by decide +kernel
theorem dH_clear_1 : decode cH_clear 1 = .ok (.iload_n 1, 1) := by decide +kernel
theorem dH_clear_2 : decode cH_clear 2 = .ok (.invokevirtual 127, 3) := by decide +kernel
theorem dH_clear_5 : decode cH_clear 5 = .ok (.ifCond .eq 15, 3) := by decide +kernel
theorem dH_clear_8 : decode cH_clear 8 = .ok (.aload_n 0, 1) := by decide +kernel
theorem dH_clear_9 : decode cH_clear 9 = .ok (.getfield 11, 3) := by decide +kernel
theorem dH_clear_12 : decode cH_clear 12 = .ok (.iload_n 1, 1) := by decide +kernel
theorem dH_clear_13 : decode cH_clear 13 = .ok (.aaload, 1) := by decide +kernel
theorem dH_clear_14 : decode cH_clear 14 = .ok (.getfield 131, 3) := by decide +kernel
theorem dH_clear_17 : decode cH_clear 17 = .ok (.ifCond .eq 13, 3) := by decide +kernel
theorem dH_clear_20 : decode cH_clear 20 = .ok (.new 134, 3) := by decide +kernel
theorem dH_clear_23 : decode cH_clear 23 = .ok (.dup, 1) := by decide +kernel
theorem dH_clear_24 : decode cH_clear 24 = .ok (.ldc 136, 2) := by decide +kernel
theorem dH_clear_26 : decode cH_clear 26 = .ok (.invokespecial 138, 3) := by decide +kernel
theorem dH_clear_29 : decode cH_clear 29 = .ok (.athrow, 1) := by decide +kernel
theorem dH_clear_30 : decode cH_clear 30 = .ok (.aload_n 0, 1) := by decide +kernel
theorem dH_clear_31 : decode cH_clear 31 = .ok (.getfield 11, 3) := by decide +kernel
theorem dH_clear_34 : decode cH_clear 34 = .ok (.iload_n 1, 1) := by decide +kernel
theorem dH_clear_35 : decode cH_clear 35 = .ok (.aaload, 1) := by decide +kernel
theorem dH_clear_36 : decode cH_clear 36 = .ok (.iconst 0, 1) := by decide +kernel
theorem dH_clear_37 : decode cH_clear 37 = .ok (.putfield 139, 3) := by decide +kernel
theorem dH_clear_40 : decode cH_clear 40 = .ok (.aload_n 0, 1) := by decide +kernel
theorem dH_clear_41 : decode cH_clear 41 = .ok (.getfield 11, 3) := by decide +kernel
theorem dH_clear_44 : decode cH_clear 44 = .ok (.iload_n 1, 1) := by decide +kernel
theorem dH_clear_45 : decode cH_clear 45 = .ok (.aaload, 1) := by decide +kernel
theorem dH_clear_46 : decode cH_clear 46 = .ok (.getfield 107, 3) := by decide +kernel
theorem dH_clear_49 : decode cH_clear 49 = .ok (.ireturn, 1) := by decide +kernel
theorem dH_tick_0 : decode cH_tick 0 = .ok (.iload_n 1, 1) := by decide +kernel
theorem dH_tick_1 : decode cH_tick 1 = .ok (.iconst 1, 1) := by decide +kernel
theorem dH_tick_2 : decode cH_tick 2 = .ok (.if_icmp .lt 9, 3) := by decide +kernel
theorem dH_tick_5 : decode cH_tick 5 = .ok (.iload_n 1, 1) := by decide +kernel
theorem dH_tick_6 : decode cH_tick 6 = .ok (.bipush 6, 2) := by decide +kernel
theorem dH_tick_8 : decode cH_tick 8 = .ok (.if_icmp .le 13, 3) := by decide +kernel
theorem dH_tick_11 : decode cH_tick 11 = .ok (.new 36, 3) := by decide +kernel
theorem dH_tick_14 : decode cH_tick 14 = .ok (.dup, 1) := by decide +kernel
theorem dH_tick_15 : decode cH_tick 15 = .ok (.ldc 142, 2) := by decide +kernel
theorem dH_tick_17 : decode cH_tick 17 = .ok (.invokespecial 40, 3) := by decide +kernel
theorem dH_tick_20 : decode cH_tick 20 = .ok (.athrow, 1) := by decide +kernel
theorem dH_tick_21 : decode cH_tick 21 = .ok (.iconst 0, 1) := by decide +kernel
theorem dH_tick_22 : decode cH_tick 22 = .ok (.istore_n 2, 1) := by decide +kernel
theorem dH_tick_23 : decode cH_tick 23 = .ok (.iload_n 2, 1) := by decide +kernel
theorem dH_tick_24 : decode cH_tick 24 = .ok (.iload_n 1, 1) := by decide +kernel
theorem dH_tick_25 : decode cH_tick 25 = .ok (.if_icmp .ge 13, 3) := by decide +kernel
theorem dH_tick_28 : decode cH_tick 28 = .ok (.aload_n 0, 1) := by decide +kernel
theorem dH_tick_29 : decode cH_tick 29 = .ok (.invokevirtual 144, 3) := by decide +kernel
theorem dH_tick_32 : decode cH_tick 32 = .ok (.iinc 2 1, 3) := by decide +kernel
theorem dH_tick_35 : decode cH_tick 35 = .ok (.goto (-12), 3) := by decide +kernel
theorem dH_tick_38 : decode cH_tick 38 = .ok (.aload_n 0, 1) := by decide +kernel
theorem dH_tick_39 : decode cH_tick 39 = .ok (.iconst 0, 1) := by decide +kernel
theorem dH_tick_40 : decode cH_tick 40 = .ok (.invokevirtual 147, 3) := by decide +kernel
theorem dH_tick_43 : decode cH_tick 43 = .ok (.ireturn, 1) := by decide +kernel
theorem dH_state_0 : decode cH_state 0 = .ok (.iload_n 1, 1) := by decide +kernel
theorem dH_state_1 : decode cH_state 1 = .ok (.ifCond .lt 9, 3) := by decide +kernel
theorem dH_state_4 : decode cH_state 4 = .ok (.iload_n 1, 1) := by decide +kernel
theorem dH_state_5 : decode cH_state 5 = .ok (.bipush 12, 2) := by decide +kernel
theorem dH_state_7 : decode cH_state 7 = .ok (.if_icmp .lt 13, 3) := by decide +kernel
theorem dH_state_10 : decode cH_state 10 = .ok (.new 36, 3) := by decide +kernel
theorem dH_state_13 : decode cH_state 13 = .ok (.dup, 1) := by decide +kernel
theorem dH_state_14 : decode cH_state 14 = .ok (.ldc 150, 2) := by decide +kernel
theorem dH_state_16 : decode cH_state 16 = .ok (.invokespecial 40, 3) := by decide +kernel
theorem dH_state_19 : decode cH_state 19 = .ok (.athrow, 1) := by decide +kernel
theorem dH_state_20 : decode cH_state 20 = .ok (.aload_n 0, 1) := by decide +kernel
theorem dH_state_21 : decode cH_state 21 = .ok (.getfield 22, 3) := by decide +kernel
theorem dH_state_24 : decode cH_state 24 = .ok (.iload_n 1, 1) := by decide +kernel
theorem dH_state_25 : decode cH_state 25 = .ok (.iaload, 1) := by decide +kernel
theorem dH_state_26 : decode cH_state 26 = .ok (.ireturn, 1) := by decide +kernel
theorem dH_detected_0 : decode cH_detected 0 = .ok (.iload_n 1, 1) := by decide +kernel
theorem dH_detected_1 : decode cH_detected 1 = .ok (.ifCond .lt 8, 3) := by decide +kernel
theorem dH_detected_4 : decode cH_detected 4 = .ok (.iload_n 1, 1) := by decide +kernel
theorem dH_detected_5 : decode cH_detected 5 = .ok (.iconst 4, 1) := by decide +kernel
theorem dH_detected_6 : decode cH_detected 6 = .ok (.if_icmp .lt 13, 3) := by decide +kernel
theorem dH_detected_9 : decode cH_detected 9 = .ok (.new 36, 3) := by decide +kernel
theorem dH_detected_12 : decode cH_detected 12 = .ok (.dup, 1) := by decide +kernel
theorem dH_detected_13 : decode cH_detected 13 = .ok (.ldc 152, 2) := by decide +kernel
theorem dH_detected_15 : decode cH_detected 15 = .ok (.invokespecial 40, 3) := by decide +kernel
theorem dH_detected_18 : decode cH_detected 18 = .ok (.athrow, 1) := by decide +kernel
theorem dH_detected_19 : decode cH_detected 19 = .ok (.aload_n 0, 1) := by decide +kernel
theorem dH_detected_20 : decode cH_detected 20 = .ok (.iload_n 1, 1) := by decide +kernel
theorem dH_detected_21 : decode cH_detected 21 = .ok (.invokevirtual 154, 3) := by decide +kernel
theorem dH_detected_24 : decode cH_detected 24 = .ok (.ifCond .eq 7, 3) := by decide +kernel
theorem dH_detected_27 : decode cH_detected 27 = .ok (.iconst 1, 1) := by decide +kernel
theorem dH_detected_28 : decode cH_detected 28 = .ok (.goto 4, 3) := by decide +kernel
theorem dH_detected_31 : decode cH_detected 31 = .ok (.iconst 0, 1) := by decide +kernel
theorem dH_detected_32 : decode cH_detected 32 = .ok (.ireturn, 1) := by decide +kernel
theorem dH_vehicle_0 : decode cH_vehicle 0 = .ok (.aload_n 0, 1) := by decide +kernel
theorem dH_vehicle_1 : decode cH_vehicle 1 = .ok (.iload_n 1, 1) := by decide +kernel
theorem dH_vehicle_2 : decode cH_vehicle 2 = .ok (.invokevirtual 127, 3) := by decide +kernel
theorem dH_vehicle_5 : decode cH_vehicle 5 = .ok (.ifCond .ne 13, 3) := by decide +kernel
theorem dH_vehicle_8 : decode cH_vehicle 8 = .ok (.new 134, 3) := by decide +kernel
theorem dH_vehicle_11 : decode cH_vehicle 11 = .ok (.dup, 1) := by decide +kernel
theorem dH_vehicle_12 : decode cH_vehicle 12 = .ok (.ldc 157, 2) := by decide +kernel
theorem dH_vehicle_14 : decode cH_vehicle 14 = .ok (.invokespecial 138, 3) := by decide +kernel
theorem dH_vehicle_17 : decode cH_vehicle 17 = .ok (.athrow, 1) := by decide +kernel
theorem dH_vehicle_18 : decode cH_vehicle 18 = .ok (.iload_n 2, 1) := by decide +kernel
theorem dH_vehicle_19 : decode cH_vehicle 19 = .ok (.ifCond .lt 8, 3) := by decide +kernel
theorem dH_vehicle_22 : decode cH_vehicle 22 = .ok (.iload_n 2, 1) := by decide +kernel
theorem dH_vehicle_23 : decode cH_vehicle 23 = .ok (.iconst 5, 1) := by decide +kernel
theorem dH_vehicle_24 : decode cH_vehicle 24 = .ok (.if_icmp .le 13, 3) := by decide +kernel
theorem dH_vehicle_27 : decode cH_vehicle 27 = .ok (.new 36, 3) := by decide +kernel
theorem dH_vehicle_30 : decode cH_vehicle 30 = .ok (.dup, 1) := by decide +kernel
theorem dH_vehicle_31 : decode cH_vehicle 31 = .ok (.ldc 159, 2) := by decide +kernel
theorem dH_vehicle_33 : decode cH_vehicle 33 = .ok (.invokespecial 40, 3) := by decide +kernel
theorem dH_vehicle_36 : decode cH_vehicle 36 = .ok (.athrow, 1) := by decide +kernel
theorem dH_vehicle_37 : decode cH_vehicle 37 = .ok (.aload_n 0, 1) := by decide +kernel
theorem dH_vehicle_38 : decode cH_vehicle 38 = .ok (.getfield 11, 3) := by decide +kernel
theorem dH_vehicle_41 : decode cH_vehicle 41 = .ok (.iload_n 1, 1) := by decide +kernel
theorem dH_vehicle_42 : decode cH_vehicle 42 = .ok (.aaload, 1) := by decide +kernel
theorem dH_vehicle_43 : decode cH_vehicle 43 = .ok (.astore_n 3, 1) := by decide +kernel
theorem dH_vehicle_44 : decode cH_vehicle 44 = .ok (.iload_n 2, 1) := by decide +kernel
theorem dH_vehicle_45 : decode cH_vehicle 45 = .ok (.iconst 2, 1) := by decide +kernel
theorem dH_vehicle_46 : decode cH_vehicle 46 = .ok (.if_icmp .lt 20, 3) := by decide +kernel
theorem dH_vehicle_49 : decode cH_vehicle 49 = .ok (.aload_n 3, 1) := by decide +kernel
theorem dH_vehicle_50 : decode cH_vehicle 50 = .ok (.getfield 131, 3) := by decide +kernel
theorem dH_vehicle_53 : decode cH_vehicle 53 = .ok (.ifCond .ne 13, 3) := by decide +kernel
theorem dH_vehicle_56 : decode cH_vehicle 56 = .ok (.new 134, 3) := by decide +kernel
theorem dH_vehicle_59 : decode cH_vehicle 59 = .ok (.dup, 1) := by decide +kernel
theorem dH_vehicle_60 : decode cH_vehicle 60 = .ok (.ldc 161, 2) := by decide +kernel
theorem dH_vehicle_62 : decode cH_vehicle 62 = .ok (.invokespecial 138, 3) := by decide +kernel
theorem dH_vehicle_65 : decode cH_vehicle 65 = .ok (.athrow, 1) := by decide +kernel
theorem dH_vehicle_66 : decode cH_vehicle 66 = .ok (.iload_n 2, 1) := by decide +kernel
theorem dH_vehicle_67 : decode cH_vehicle 67 = .ok (.tableswitch 58 0 4 #[33, 38, 43, 48, 53], 33) := by decide +kernel
theorem dH_vehicle_100 : decode cH_vehicle 100 = .ok (.aload_n 3, 1) := by decide +kernel
theorem dH_vehicle_101 : decode cH_vehicle 101 = .ok (.getfield 104, 3) := by decide +kernel
theorem dH_vehicle_104 : decode cH_vehicle 104 = .ok (.ireturn, 1) := by decide +kernel
theorem dH_vehicle_105 : decode cH_vehicle 105 = .ok (.aload_n 3, 1) := by decide +kernel
theorem dH_vehicle_106 : decode cH_vehicle 106 = .ok (.getfield 107, 3) := by decide +kernel
theorem dH_vehicle_109 : decode cH_vehicle 109 = .ok (.ireturn, 1) := by decide +kernel
theorem dH_vehicle_110 : decode cH_vehicle 110 = .ok (.aload_n 3, 1) := by decide +kernel
theorem dH_vehicle_111 : decode cH_vehicle 111 = .ok (.getfield 92, 3) := by decide +kernel
theorem dH_vehicle_114 : decode cH_vehicle 114 = .ok (.ireturn, 1) := by decide +kernel
theorem dH_vehicle_115 : decode cH_vehicle 115 = .ok (.aload_n 3, 1) := by decide +kernel
theorem dH_vehicle_116 : decode cH_vehicle 116 = .ok (.getfield 163, 3) := by decide +kernel
theorem dH_vehicle_119 : decode cH_vehicle 119 = .ok (.ireturn, 1) := by decide +kernel
theorem dH_vehicle_120 : decode cH_vehicle 120 = .ok (.aload_n 3, 1) := by decide +kernel
theorem dH_vehicle_121 : decode cH_vehicle 121 = .ok (.getfield 95, 3) := by decide +kernel
theorem dH_vehicle_124 : decode cH_vehicle 124 = .ok (.ireturn, 1) := by decide +kernel
theorem dH_vehicle_125 : decode cH_vehicle 125 = .ok (.aload_n 3, 1) := by decide +kernel
theorem dH_vehicle_126 : decode cH_vehicle 126 = .ok (.getfield 119, 3) := by decide +kernel
theorem dH_vehicle_129 : decode cH_vehicle 129 = .ok (.ifCond .eq 7, 3) := by decide +kernel
theorem dH_vehicle_132 : decode cH_vehicle 132 = .ok (.iconst 1, 1) := by decide +kernel
theorem dH_vehicle_133 : decode cH_vehicle 133 = .ok (.goto 4, 3) := by decide +kernel
theorem dH_vehicle_136 : decode cH_vehicle 136 = .ok (.iconst 0, 1) := by decide +kernel
theorem dH_vehicle_137 : decode cH_vehicle 137 = .ok (.ireturn, 1) := by decide +kernel
theorem dH_count_0 : decode cH_count 0 = .ok (.iload_n 1, 1) := by decide +kernel
theorem dH_count_1 : decode cH_count 1 = .ok (.tableswitch 91 0 7 #[47, 52, 57, 63, 69, 75, 81, 86], 47) := by decide +kernel
theorem dH_count_48 : decode cH_count 48 = .ok (.aload_n 0, 1) := by decide +kernel
theorem dH_count_49 : decode cH_count 49 = .ok (.getfield 15, 3) := by decide +kernel
theorem dH_count_52 : decode cH_count 52 = .ok (.ireturn, 1) := by decide +kernel
theorem dH_count_53 : decode cH_count 53 = .ok (.aload_n 0, 1) := by decide +kernel
theorem dH_count_54 : decode cH_count 54 = .ok (.invokevirtual 166, 3) := by decide +kernel
theorem dH_count_57 : decode cH_count 57 = .ok (.ireturn, 1) := by decide +kernel
theorem dH_count_58 : decode cH_count 58 = .ok (.aload_n 0, 1) := by decide +kernel
theorem dH_count_59 : decode cH_count 59 = .ok (.iconst 0, 1) := by decide +kernel
theorem dH_count_60 : decode cH_count 60 = .ok (.invokevirtual 147, 3) := by decide +kernel
theorem dH_count_63 : decode cH_count 63 = .ok (.ireturn, 1) := by decide +kernel
theorem dH_count_64 : decode cH_count 64 = .ok (.aload_n 0, 1) := by decide +kernel
theorem dH_count_65 : decode cH_count 65 = .ok (.iconst 1, 1) := by decide +kernel
theorem dH_count_66 : decode cH_count 66 = .ok (.invokevirtual 147, 3) := by decide +kernel
theorem dH_count_69 : decode cH_count 69 = .ok (.ireturn, 1) := by decide +kernel
theorem dH_count_70 : decode cH_count 70 = .ok (.aload_n 0, 1) := by decide +kernel
theorem dH_count_71 : decode cH_count 71 = .ok (.iconst 2, 1) := by decide +kernel
theorem dH_count_72 : decode cH_count 72 = .ok (.invokevirtual 147, 3) := by decide +kernel
theorem dH_count_75 : decode cH_count 75 = .ok (.ireturn, 1) := by decide +kernel
theorem dH_count_76 : decode cH_count 76 = .ok (.aload_n 0, 1) := by decide +kernel
theorem dH_count_77 : decode cH_count 77 = .ok (.iconst 3, 1) := by decide +kernel
theorem dH_count_78 : decode cH_count 78 = .ok (.invokevirtual 147, 3) := by decide +kernel
theorem dH_count_81 : decode cH_count 81 = .ok (.ireturn, 1) := by decide +kernel
theorem dH_count_82 : decode cH_count 82 = .ok (.aload_n 0, 1) := by decide +kernel
theorem dH_count_83 : decode cH_count 83 = .ok (.invokevirtual 169, 3) := by decide +kernel
theorem dH_count_86 : decode cH_count 86 = .ok (.ireturn, 1) := by decide +kernel
theorem dH_count_87 : decode cH_count 87 = .ok (.aload_n 0, 1) := by decide +kernel
theorem dH_count_88 : decode cH_count 88 = .ok (.getfield 19, 3) := by decide +kernel
theorem dH_count_91 : decode cH_count 91 = .ok (.ireturn, 1) := by decide +kernel
theorem dH_count_92 : decode cH_count 92 = .ok (.new 36, 3) := by decide +kernel
theorem dH_count_95 : decode cH_count 95 = .ok (.dup, 1) := by decide +kernel
theorem dH_count_96 : decode cH_count 96 = .ok (.ldc 172, 2) := by decide +kernel
theorem dH_count_98 : decode cH_count 98 = .ok (.invokespecial 40, 3) := by decide +kernel
theorem dH_count_101 : decode cH_count 101 = .ok (.athrow, 1) := by decide +kernel
theorem dH_sectionOf_0 : decode cH_sectionOf 0 = .ok (.iload_n 0, 1) := by decide +kernel
theorem dH_sectionOf_1 : decode cH_sectionOf 1 = .ok (.bipush 10, 2) := by decide +kernel
theorem dH_sectionOf_3 : decode cH_sectionOf 3 = .ok (.idiv, 1) := by decide +kernel
theorem dH_sectionOf_4 : decode cH_sectionOf 4 = .ok (.ireturn, 1) := by decide +kernel
theorem dH_isOnTrack_0 : decode cH_isOnTrack 0 = .ok (.iload_n 1, 1) := by decide +kernel
theorem dH_isOnTrack_1 : decode cH_isOnTrack 1 = .ok (.ifCond .lt 27, 3) := by decide +kernel
theorem dH_isOnTrack_4 : decode cH_isOnTrack 4 = .ok (.iload_n 1, 1) := by decide +kernel
theorem dH_isOnTrack_5 : decode cH_isOnTrack 5 = .ok (.aload_n 0, 1) := by decide +kernel
theorem dH_isOnTrack_6 : decode cH_isOnTrack 6 = .ok (.getfield 15, 3) := by decide +kernel
theorem dH_isOnTrack_9 : decode cH_isOnTrack 9 = .ok (.if_icmp .ge 19, 3) := by decide +kernel
theorem dH_isOnTrack_12 : decode cH_isOnTrack 12 = .ok (.aload_n 0, 1) := by decide +kernel
theorem dH_isOnTrack_13 : decode cH_isOnTrack 13 = .ok (.getfield 11, 3) := by decide +kernel
theorem dH_isOnTrack_16 : decode cH_isOnTrack 16 = .ok (.iload_n 1, 1) := by decide +kernel
theorem dH_isOnTrack_17 : decode cH_isOnTrack 17 = .ok (.aaload, 1) := by decide +kernel
theorem dH_isOnTrack_18 : decode cH_isOnTrack 18 = .ok (.getfield 139, 3) := by decide +kernel
theorem dH_isOnTrack_21 : decode cH_isOnTrack 21 = .ok (.ifCond .eq 7, 3) := by decide +kernel
theorem dH_isOnTrack_24 : decode cH_isOnTrack 24 = .ok (.iconst 1, 1) := by decide +kernel
theorem dH_isOnTrack_25 : decode cH_isOnTrack 25 = .ok (.goto 4, 3) := by decide +kernel
theorem dH_isOnTrack_28 : decode cH_isOnTrack 28 = .ok (.iconst 0, 1) := by decide +kernel
theorem dH_isOnTrack_29 : decode cH_isOnTrack 29 = .ok (.ireturn, 1) := by decide +kernel
theorem dH_existingTrain_0 : decode cH_existingTrain 0 = .ok (.aload_n 0, 1) := by decide +kernel
theorem dH_existingTrain_1 : decode cH_existingTrain 1 = .ok (.iload_n 1, 1) := by decide +kernel
theorem dH_existingTrain_2 : decode cH_existingTrain 2 = .ok (.invokevirtual 127, 3) := by decide +kernel
theorem dH_existingTrain_5 : decode cH_existingTrain 5 = .ok (.ifCond .eq 15, 3) := by decide +kernel
theorem dH_existingTrain_8 : decode cH_existingTrain 8 = .ok (.aload_n 0, 1) := by decide +kernel
theorem dH_existingTrain_9 : decode cH_existingTrain 9 = .ok (.getfield 11, 3) := by decide +kernel
theorem dH_existingTrain_12 : decode cH_existingTrain 12 = .ok (.iload_n 1, 1) := by decide +kernel
theorem dH_existingTrain_13 : decode cH_existingTrain 13 = .ok (.aaload, 1) := by decide +kernel
theorem dH_existingTrain_14 : decode cH_existingTrain 14 = .ok (.getfield 131, 3) := by decide +kernel
theorem dH_existingTrain_17 : decode cH_existingTrain 17 = .ok (.ifCond .ne 13, 3) := by decide +kernel
theorem dH_existingTrain_20 : decode cH_existingTrain 20 = .ok (.new 134, 3) := by decide +kernel
theorem dH_existingTrain_23 : decode cH_existingTrain 23 = .ok (.dup, 1) := by decide +kernel
theorem dH_existingTrain_24 : decode cH_existingTrain 24 = .ok (.ldc 174, 2) := by decide +kernel
theorem dH_existingTrain_26 : decode cH_existingTrain 26 = .ok (.invokespecial 138, 3) := by decide +kernel
theorem dH_existingTrain_29 : decode cH_existingTrain 29 = .ok (.athrow, 1) := by decide +kernel
theorem dH_existingTrain_30 : decode cH_existingTrain 30 = .ok (.aload_n 0, 1) := by decide +kernel
theorem dH_existingTrain_31 : decode cH_existingTrain 31 = .ok (.getfield 11, 3) := by decide +kernel
theorem dH_existingTrain_34 : decode cH_existingTrain 34 = .ok (.iload_n 1, 1) := by decide +kernel
theorem dH_existingTrain_35 : decode cH_existingTrain 35 = .ok (.aaload, 1) := by decide +kernel
theorem dH_existingTrain_36 : decode cH_existingTrain 36 = .ok (.areturn, 1) := by decide +kernel
theorem dH_isStoodOn_0 : decode cH_isStoodOn 0 = .ok (.iconst 0, 1) := by decide +kernel
theorem dH_isStoodOn_1 : decode cH_isStoodOn 1 = .ok (.istore_n 3, 1) := by decide +kernel
theorem dH_isStoodOn_2 : decode cH_isStoodOn 2 = .ok (.iload_n 3, 1) := by decide +kernel
theorem dH_isStoodOn_3 : decode cH_isStoodOn 3 = .ok (.aload_n 0, 1) := by decide +kernel
theorem dH_isStoodOn_4 : decode cH_isStoodOn 4 = .ok (.getfield 15, 3) := by decide +kernel
theorem dH_isStoodOn_7 : decode cH_isStoodOn 7 = .ok (.if_icmp .ge 25, 3) := by decide +kernel
theorem dH_isStoodOn_10 : decode cH_isStoodOn 10 = .ok (.aload_n 0, 1) := by decide +kernel
theorem dH_isStoodOn_11 : decode cH_isStoodOn 11 = .ok (.getfield 11, 3) := by decide +kernel
theorem dH_isStoodOn_14 : decode cH_isStoodOn 14 = .ok (.iload_n 3, 1) := by decide +kernel
theorem dH_isStoodOn_15 : decode cH_isStoodOn 15 = .ok (.aaload, 1) := by decide +kernel
theorem dH_isStoodOn_16 : decode cH_isStoodOn 16 = .ok (.iload_n 1, 1) := by decide +kernel
theorem dH_isStoodOn_17 : decode cH_isStoodOn 17 = .ok (.iload_n 2, 1) := by decide +kernel
theorem dH_isStoodOn_18 : decode cH_isStoodOn 18 = .ok (.invokevirtual 176, 3) := by decide +kernel
theorem dH_isStoodOn_21 : decode cH_isStoodOn 21 = .ok (.ifCond .eq 5, 3) := by decide +kernel
theorem dH_isStoodOn_24 : decode cH_isStoodOn 24 = .ok (.iconst 1, 1) := by decide +kernel
theorem dH_isStoodOn_25 : decode cH_isStoodOn 25 = .ok (.ireturn, 1) := by decide +kernel
theorem dH_isStoodOn_26 : decode cH_isStoodOn 26 = .ok (.iinc 3 1, 3) := by decide +kernel
theorem dH_isStoodOn_29 : decode cH_isStoodOn 29 = .ok (.goto (-27), 3) := by decide +kernel
theorem dH_isStoodOn_32 : decode cH_isStoodOn 32 = .ok (.iconst 0, 1) := by decide +kernel
theorem dH_isStoodOn_33 : decode cH_isStoodOn 33 = .ok (.ireturn, 1) := by decide +kernel
theorem dH_isDetectedOccupied_0 : decode cH_isDetectedOccupied 0 = .ok (.iload_n 1, 1) := by decide +kernel
theorem dH_isDetectedOccupied_1 : decode cH_isDetectedOccupied 1 = .ok (.bipush 30, 2) := by decide +kernel
theorem dH_isDetectedOccupied_3 : decode cH_isDetectedOccupied 3 = .ok (.imul, 1) := by decide +kernel
theorem dH_isDetectedOccupied_4 : decode cH_isDetectedOccupied 4 = .ok (.istore_n 2, 1) := by decide +kernel
theorem dH_isDetectedOccupied_5 : decode cH_isDetectedOccupied 5 = .ok (.aload_n 0, 1) := by decide +kernel
theorem dH_isDetectedOccupied_6 : decode cH_isDetectedOccupied 6 = .ok (.iload_n 2, 1) := by decide +kernel
theorem dH_isDetectedOccupied_7 : decode cH_isDetectedOccupied 7 = .ok (.iload_n 2, 1) := by decide +kernel
theorem dH_isDetectedOccupied_8 : decode cH_isDetectedOccupied 8 = .ok (.bipush 30, 2) := by decide +kernel
theorem dH_isDetectedOccupied_10 : decode cH_isDetectedOccupied 10 = .ok (.iadd, 1) := by decide +kernel
theorem dH_isDetectedOccupied_11 : decode cH_isDetectedOccupied 11 = .ok (.iconst 1, 1) := by decide +kernel
theorem dH_isDetectedOccupied_12 : decode cH_isDetectedOccupied 12 = .ok (.isub, 1) := by decide +kernel
theorem dH_isDetectedOccupied_13 : decode cH_isDetectedOccupied 13 = .ok (.invokevirtual 50, 3) := by decide +kernel
theorem dH_isDetectedOccupied_16 : decode cH_isDetectedOccupied 16 = .ok (.ireturn, 1) := by decide +kernel
theorem dH_isSectionStoodOn_0 : decode cH_isSectionStoodOn 0 = .ok (.iload_n 1, 1) := by decide +kernel
theorem dH_isSectionStoodOn_1 : decode cH_isSectionStoodOn 1 = .ok (.bipush 10, 2) := by decide +kernel
theorem dH_isSectionStoodOn_3 : decode cH_isSectionStoodOn 3 = .ok (.imul, 1) := by decide +kernel
theorem dH_isSectionStoodOn_4 : decode cH_isSectionStoodOn 4 = .ok (.istore_n 2, 1) := by decide +kernel
theorem dH_isSectionStoodOn_5 : decode cH_isSectionStoodOn 5 = .ok (.aload_n 0, 1) := by decide +kernel
theorem dH_isSectionStoodOn_6 : decode cH_isSectionStoodOn 6 = .ok (.iload_n 2, 1) := by decide +kernel
theorem dH_isSectionStoodOn_7 : decode cH_isSectionStoodOn 7 = .ok (.iload_n 2, 1) := by decide +kernel
theorem dH_isSectionStoodOn_8 : decode cH_isSectionStoodOn 8 = .ok (.bipush 10, 2) := by decide +kernel
theorem dH_isSectionStoodOn_10 : decode cH_isSectionStoodOn 10 = .ok (.iadd, 1) := by decide +kernel
theorem dH_isSectionStoodOn_11 : decode cH_isSectionStoodOn 11 = .ok (.iconst 1, 1) := by decide +kernel
theorem dH_isSectionStoodOn_12 : decode cH_isSectionStoodOn 12 = .ok (.isub, 1) := by decide +kernel
theorem dH_isSectionStoodOn_13 : decode cH_isSectionStoodOn 13 = .ok (.invokevirtual 50, 3) := by decide +kernel
theorem dH_isSectionStoodOn_16 : decode cH_isSectionStoodOn 16 = .ok (.ireturn, 1) := by decide +kernel
theorem dH_isAnyClaimed_0 : decode cH_isAnyClaimed 0 = .ok (.iconst 0, 1) := by decide +kernel
theorem dH_isAnyClaimed_1 : decode cH_isAnyClaimed 1 = .ok (.istore 4, 2) := by decide +kernel
theorem dH_isAnyClaimed_3 : decode cH_isAnyClaimed 3 = .ok (.iload 4, 2) := by decide +kernel
theorem dH_isAnyClaimed_5 : decode cH_isAnyClaimed 5 = .ok (.aload_n 0, 1) := by decide +kernel
theorem dH_isAnyClaimed_6 : decode cH_isAnyClaimed 6 = .ok (.getfield 15, 3) := by decide +kernel
theorem dH_isAnyClaimed_9 : decode cH_isAnyClaimed 9 = .ok (.if_icmp .ge 32, 3) := by decide +kernel
theorem dH_isAnyClaimed_12 : decode cH_isAnyClaimed 12 = .ok (.iload 4, 2) := by decide +kernel
theorem dH_isAnyClaimed_14 : decode cH_isAnyClaimed 14 = .ok (.iload_n 3, 1) := by decide +kernel
theorem dH_isAnyClaimed_15 : decode cH_isAnyClaimed 15 = .ok (.if_icmp .eq 20, 3) := by decide +kernel
theorem dH_isAnyClaimed_18 : decode cH_isAnyClaimed 18 = .ok (.aload_n 0, 1) := by decide +kernel
theorem dH_isAnyClaimed_19 : decode cH_isAnyClaimed 19 = .ok (.getfield 11, 3) := by decide +kernel
theorem dH_isAnyClaimed_22 : decode cH_isAnyClaimed 22 = .ok (.iload 4, 2) := by decide +kernel
theorem dH_isAnyClaimed_24 : decode cH_isAnyClaimed 24 = .ok (.aaload, 1) := by decide +kernel
theorem dH_isAnyClaimed_25 : decode cH_isAnyClaimed 25 = .ok (.iload_n 1, 1) := by decide +kernel
theorem dH_isAnyClaimed_26 : decode cH_isAnyClaimed 26 = .ok (.iload_n 2, 1) := by decide +kernel
theorem dH_isAnyClaimed_27 : decode cH_isAnyClaimed 27 = .ok (.invokevirtual 179, 3) := by decide +kernel
theorem dH_isAnyClaimed_30 : decode cH_isAnyClaimed 30 = .ok (.ifCond .eq 5, 3) := by decide +kernel
theorem dH_isAnyClaimed_33 : decode cH_isAnyClaimed 33 = .ok (.iconst 1, 1) := by decide +kernel
theorem dH_isAnyClaimed_34 : decode cH_isAnyClaimed 34 = .ok (.ireturn, 1) := by decide +kernel
theorem dH_isAnyClaimed_35 : decode cH_isAnyClaimed 35 = .ok (.iinc 4 1, 3) := by decide +kernel
theorem dH_isAnyClaimed_38 : decode cH_isAnyClaimed 38 = .ok (.goto (-35), 3) := by decide +kernel
theorem dH_isAnyClaimed_41 : decode cH_isAnyClaimed 41 = .ok (.iconst 0, 1) := by decide +kernel
theorem dH_isAnyClaimed_42 : decode cH_isAnyClaimed 42 = .ok (.ireturn, 1) := by decide +kernel
theorem dH_isAnyClaimedByMute_0 : decode cH_isAnyClaimedByMute 0 = .ok (.iconst 0, 1) := by decide +kernel
theorem dH_isAnyClaimedByMute_1 : decode cH_isAnyClaimedByMute 1 = .ok (.istore_n 3, 1) := by decide +kernel
theorem dH_isAnyClaimedByMute_2 : decode cH_isAnyClaimedByMute 2 = .ok (.iload_n 3, 1) := by decide +kernel
theorem dH_isAnyClaimedByMute_3 : decode cH_isAnyClaimedByMute 3 = .ok (.aload_n 0, 1) := by decide +kernel
theorem dH_isAnyClaimedByMute_4 : decode cH_isAnyClaimedByMute 4 = .ok (.getfield 15, 3) := by decide +kernel
theorem dH_isAnyClaimedByMute_7 : decode cH_isAnyClaimedByMute 7 = .ok (.if_icmp .ge 37, 3) := by decide +kernel
theorem dH_isAnyClaimedByMute_10 : decode cH_isAnyClaimedByMute 10 = .ok (.aload_n 0, 1) := by decide +kernel
theorem dH_isAnyClaimedByMute_11 : decode cH_isAnyClaimedByMute 11 = .ok (.getfield 11, 3) := by decide +kernel
theorem dH_isAnyClaimedByMute_14 : decode cH_isAnyClaimedByMute 14 = .ok (.iload_n 3, 1) := by decide +kernel
theorem dH_isAnyClaimedByMute_15 : decode cH_isAnyClaimedByMute 15 = .ok (.aaload, 1) := by decide +kernel
theorem dH_isAnyClaimedByMute_16 : decode cH_isAnyClaimedByMute 16 = .ok (.invokevirtual 86, 3) := by decide +kernel
theorem dH_isAnyClaimedByMute_19 : decode cH_isAnyClaimedByMute 19 = .ok (.ifCond .eq 19, 3) := by decide +kernel
theorem dH_isAnyClaimedByMute_22 : decode cH_isAnyClaimedByMute 22 = .ok (.aload_n 0, 1) := by decide +kernel
theorem dH_isAnyClaimedByMute_23 : decode cH_isAnyClaimedByMute 23 = .ok (.getfield 11, 3) := by decide +kernel
theorem dH_isAnyClaimedByMute_26 : decode cH_isAnyClaimedByMute 26 = .ok (.iload_n 3, 1) := by decide +kernel
theorem dH_isAnyClaimedByMute_27 : decode cH_isAnyClaimedByMute 27 = .ok (.aaload, 1) := by decide +kernel
theorem dH_isAnyClaimedByMute_28 : decode cH_isAnyClaimedByMute 28 = .ok (.iload_n 1, 1) := by decide +kernel
theorem dH_isAnyClaimedByMute_29 : decode cH_isAnyClaimedByMute 29 = .ok (.iload_n 2, 1) := by decide +kernel
theorem dH_isAnyClaimedByMute_30 : decode cH_isAnyClaimedByMute 30 = .ok (.invokevirtual 179, 3) := by decide +kernel
theorem dH_isAnyClaimedByMute_33 : decode cH_isAnyClaimedByMute 33 = .ok (.ifCond .eq 5, 3) := by decide +kernel
theorem dH_isAnyClaimedByMute_36 : decode cH_isAnyClaimedByMute 36 = .ok (.iconst 1, 1) := by decide +kernel
theorem dH_isAnyClaimedByMute_37 : decode cH_isAnyClaimedByMute 37 = .ok (.ireturn, 1) := by decide +kernel
theorem dH_isAnyClaimedByMute_38 : decode cH_isAnyClaimedByMute 38 = .ok (.iinc 3 1, 3) := by decide +kernel
theorem dH_isAnyClaimedByMute_41 : decode cH_isAnyClaimedByMute 41 = .ok (.goto (-39), 3) := by decide +kernel
theorem dH_isAnyClaimedByMute_44 : decode cH_isAnyClaimedByMute 44 = .ok (.iconst 0, 1) := by decide +kernel
theorem dH_isAnyClaimedByMute_45 : decode cH_isAnyClaimedByMute 45 = .ok (.ireturn, 1) := by decide +kernel
theorem dH_farthestFreeFrom_0 : decode cH_farthestFreeFrom 0 = .ok (.iload_n 1, 1) := by decide +kernel
theorem dH_farthestFreeFrom_1 : decode cH_farthestFreeFrom 1 = .ok (.istore_n 3, 1) := by decide +kernel
theorem dH_farthestFreeFrom_2 : decode cH_farthestFreeFrom 2 = .ok (.iload_n 1, 1) := by decide +kernel
theorem dH_farthestFreeFrom_3 : decode cH_farthestFreeFrom 3 = .ok (.iconst 1, 1) := by decide +kernel
theorem dH_farthestFreeFrom_4 : decode cH_farthestFreeFrom 4 = .ok (.iadd, 1) := by decide +kernel
theorem dH_farthestFreeFrom_5 : decode cH_farthestFreeFrom 5 = .ok (.istore 4, 2) := by decide +kernel
theorem dH_farthestFreeFrom_7 : decode cH_farthestFreeFrom 7 = .ok (.iload 4, 2) := by decide +kernel
theorem dH_farthestFreeFrom_9 : decode cH_farthestFreeFrom 9 = .ok (.bipush 12, 2) := by decide +kernel
theorem dH_farthestFreeFrom_11 : decode cH_farthestFreeFrom 11 = .ok (.if_icmp .ge 37, 3) := by decide +kernel
theorem dH_farthestFreeFrom_14 : decode cH_farthestFreeFrom 14 = .ok (.aload_n 0, 1) := by decide +kernel
theorem dH_farthestFreeFrom_15 : decode cH_farthestFreeFrom 15 = .ok (.getfield 22, 3) := by decide +kernel
theorem dH_farthestFreeFrom_18 : decode cH_farthestFreeFrom 18 = .ok (.iload 4, 2) := by decide +kernel
theorem dH_farthestFreeFrom_20 : decode cH_farthestFreeFrom 20 = .ok (.iaload, 1) := by decide +kernel
theorem dH_farthestFreeFrom_21 : decode cH_farthestFreeFrom 21 = .ok (.ifCond .ne 27, 3) := by decide +kernel
theorem dH_farthestFreeFrom_24 : decode cH_farthestFreeFrom 24 = .ok (.aload_n 0, 1) := by decide +kernel
theorem dH_farthestFreeFrom_25 : decode cH_farthestFreeFrom 25 = .ok (.iload 4, 2) := by decide +kernel
theorem dH_farthestFreeFrom_27 : decode cH_farthestFreeFrom 27 = .ok (.iload 4, 2) := by decide +kernel
theorem dH_farthestFreeFrom_29 : decode cH_farthestFreeFrom 29 = .ok (.iload_n 2, 1) := by decide +kernel
theorem dH_farthestFreeFrom_30 : decode cH_farthestFreeFrom 30 = .ok (.invokevirtual 60, 3) := by decide +kernel
theorem dH_farthestFreeFrom_33 : decode cH_farthestFreeFrom 33 = .ok (.ifCond .eq 6, 3) := by decide +kernel
theorem dH_farthestFreeFrom_36 : decode cH_farthestFreeFrom 36 = .ok (.goto 12, 3) := by decide +kernel
theorem dH_farthestFreeFrom_39 : decode cH_farthestFreeFrom 39 = .ok (.iload 4, 2) := by decide +kernel
theorem dH_farthestFreeFrom_41 : decode cH_farthestFreeFrom 41 = .ok (.istore_n 3, 1) := by decide +kernel
theorem dH_farthestFreeFrom_42 : decode cH_farthestFreeFrom 42 = .ok (.iinc 4 1, 3) := by decide +kernel
theorem dH_farthestFreeFrom_45 : decode cH_farthestFreeFrom 45 = .ok (.goto (-38), 3) := by decide +kernel
theorem dH_farthestFreeFrom_48 : decode cH_farthestFreeFrom 48 = .ok (.iload_n 3, 1) := by decide +kernel
theorem dH_farthestFreeFrom_49 : decode cH_farthestFreeFrom 49 = .ok (.ireturn, 1) := by decide +kernel
theorem dH_trainsThatCame_0 : decode cH_trainsThatCame 0 = .ok (.iconst 0, 1) := by decide +kernel
theorem dH_trainsThatCame_1 : decode cH_trainsThatCame 1 = .ok (.istore_n 1, 1) := by decide +kernel
theorem dH_trainsThatCame_2 : decode cH_trainsThatCame 2 = .ok (.iconst 0, 1) := by decide +kernel
theorem dH_trainsThatCame_3 : decode cH_trainsThatCame 3 = .ok (.istore_n 2, 1) := by decide +kernel
theorem dH_trainsThatCame_4 : decode cH_trainsThatCame 4 = .ok (.iload_n 2, 1) := by decide +kernel
theorem dH_trainsThatCame_5 : decode cH_trainsThatCame 5 = .ok (.aload_n 0, 1) := by decide +kernel
theorem dH_trainsThatCame_6 : decode cH_trainsThatCame 6 = .ok (.getfield 15, 3) := by decide +kernel
theorem dH_trainsThatCame_9 : decode cH_trainsThatCame 9 = .ok (.if_icmp .ge 24, 3) := by decide +kernel
theorem dH_trainsThatCame_12 : decode cH_trainsThatCame 12 = .ok (.aload_n 0, 1) := by decide +kernel
theorem dH_trainsThatCame_13 : decode cH_trainsThatCame 13 = .ok (.getfield 11, 3) := by decide +kernel
theorem dH_trainsThatCame_16 : decode cH_trainsThatCame 16 = .ok (.iload_n 2, 1) := by decide +kernel
theorem dH_trainsThatCame_17 : decode cH_trainsThatCame 17 = .ok (.aaload, 1) := by decide +kernel
theorem dH_trainsThatCame_18 : decode cH_trainsThatCame 18 = .ok (.getfield 131, 3) := by decide +kernel
theorem dH_trainsThatCame_21 : decode cH_trainsThatCame 21 = .ok (.ifCond .eq 6, 3) := by decide +kernel
theorem dH_trainsThatCame_24 : decode cH_trainsThatCame 24 = .ok (.iinc 1 1, 3) := by decide +kernel
theorem dH_trainsThatCame_27 : decode cH_trainsThatCame 27 = .ok (.iinc 2 1, 3) := by decide +kernel
theorem dH_trainsThatCame_30 : decode cH_trainsThatCame 30 = .ok (.goto (-26), 3) := by decide +kernel
theorem dH_trainsThatCame_33 : decode cH_trainsThatCame 33 = .ok (.iload_n 1, 1) := by decide +kernel
theorem dH_trainsThatCame_34 : decode cH_trainsThatCame 34 = .ok (.ireturn, 1) := by decide +kernel
theorem dH_sectionsInState_0 : decode cH_sectionsInState 0 = .ok (.iconst 0, 1) := by decide +kernel
theorem dH_sectionsInState_1 : decode cH_sectionsInState 1 = .ok (.istore_n 2, 1) := by decide +kernel
theorem dH_sectionsInState_2 : decode cH_sectionsInState 2 = .ok (.iconst 0, 1) := by decide +kernel
theorem dH_sectionsInState_3 : decode cH_sectionsInState 3 = .ok (.istore_n 3, 1) := by decide +kernel
theorem dH_sectionsInState_4 : decode cH_sectionsInState 4 = .ok (.iload_n 3, 1) := by decide +kernel
theorem dH_sectionsInState_5 : decode cH_sectionsInState 5 = .ok (.bipush 12, 2) := by decide +kernel
theorem dH_sectionsInState_7 : decode cH_sectionsInState 7 = .ok (.if_icmp .ge 22, 3) := by decide +kernel
theorem dH_sectionsInState_10 : decode cH_sectionsInState 10 = .ok (.aload_n 0, 1) := by decide +kernel
theorem dH_sectionsInState_11 : decode cH_sectionsInState 11 = .ok (.getfield 22, 3) := by decide +kernel
theorem dH_sectionsInState_14 : decode cH_sectionsInState 14 = .ok (.iload_n 3, 1) := by decide +kernel
theorem dH_sectionsInState_15 : decode cH_sectionsInState 15 = .ok (.iaload, 1) := by decide +kernel
theorem dH_sectionsInState_16 : decode cH_sectionsInState 16 = .ok (.iload_n 1, 1) := by decide +kernel
theorem dH_sectionsInState_17 : decode cH_sectionsInState 17 = .ok (.if_icmp .ne 6, 3) := by decide +kernel
theorem dH_sectionsInState_20 : decode cH_sectionsInState 20 = .ok (.iinc 2 1, 3) := by decide +kernel
theorem dH_sectionsInState_23 : decode cH_sectionsInState 23 = .ok (.iinc 3 1, 3) := by decide +kernel
theorem dH_sectionsInState_26 : decode cH_sectionsInState 26 = .ok (.goto (-22), 3) := by decide +kernel
theorem dH_sectionsInState_29 : decode cH_sectionsInState 29 = .ok (.iload_n 2, 1) := by decide +kernel
theorem dH_sectionsInState_30 : decode cH_sectionsInState 30 = .ok (.ireturn, 1) := by decide +kernel
theorem dH_sectionsWronglyFree_0 : decode cH_sectionsWronglyFree 0 = .ok (.iconst 0, 1) := by decide +kernel
theorem dH_sectionsWronglyFree_1 : decode cH_sectionsWronglyFree 1 = .ok (.istore_n 1, 1) := by decide +kernel
theorem dH_sectionsWronglyFree_2 : decode cH_sectionsWronglyFree 2 = .ok (.iconst 0, 1) := by decide +kernel
theorem dH_sectionsWronglyFree_3 : decode cH_sectionsWronglyFree 3 = .ok (.istore_n 2, 1) := by decide +kernel
theorem dH_sectionsWronglyFree_4 : decode cH_sectionsWronglyFree 4 = .ok (.iload_n 2, 1) := by decide +kernel
theorem dH_sectionsWronglyFree_5 : decode cH_sectionsWronglyFree 5 = .ok (.bipush 12, 2) := by decide +kernel
theorem dH_sectionsWronglyFree_7 : decode cH_sectionsWronglyFree 7 = .ok (.if_icmp .ge 39, 3) := by decide +kernel
theorem dH_sectionsWronglyFree_10 : decode cH_sectionsWronglyFree 10 = .ok (.aload_n 0, 1) := by decide +kernel
theorem dH_sectionsWronglyFree_11 : decode cH_sectionsWronglyFree 11 = .ok (.getfield 22, 3) := by decide +kernel
theorem dH_sectionsWronglyFree_14 : decode cH_sectionsWronglyFree 14 = .ok (.iload_n 2, 1) := by decide +kernel
theorem dH_sectionsWronglyFree_15 : decode cH_sectionsWronglyFree 15 = .ok (.iaload, 1) := by decide +kernel
theorem dH_sectionsWronglyFree_16 : decode cH_sectionsWronglyFree 16 = .ok (.ifCond .ne 24, 3) := by decide +kernel
theorem dH_sectionsWronglyFree_19 : decode cH_sectionsWronglyFree 19 = .ok (.aload_n 0, 1) := by decide +kernel
theorem dH_sectionsWronglyFree_20 : decode cH_sectionsWronglyFree 20 = .ok (.iload_n 2, 1) := by decide +kernel
theorem dH_sectionsWronglyFree_21 : decode cH_sectionsWronglyFree 21 = .ok (.iload_n 2, 1) := by decide +kernel
theorem dH_sectionsWronglyFree_22 : decode cH_sectionsWronglyFree 22 = .ok (.iconst (-1), 1) := by decide +kernel
theorem dH_sectionsWronglyFree_23 : decode cH_sectionsWronglyFree 23 = .ok (.invokevirtual 60, 3) := by decide +kernel
theorem dH_sectionsWronglyFree_26 : decode cH_sectionsWronglyFree 26 = .ok (.ifCond .ne 14, 3) := by decide +kernel
theorem dH_sectionsWronglyFree_29 : decode cH_sectionsWronglyFree 29 = .ok (.aload_n 0, 1) := by decide +kernel
theorem dH_sectionsWronglyFree_30 : decode cH_sectionsWronglyFree 30 = .ok (.iload_n 2, 1) := by decide +kernel
theorem dH_sectionsWronglyFree_31 : decode cH_sectionsWronglyFree 31 = .ok (.invokevirtual 182, 3) := by decide +kernel
theorem dH_sectionsWronglyFree_34 : decode cH_sectionsWronglyFree 34 = .ok (.ifCond .eq 6, 3) := by decide +kernel
theorem dH_sectionsWronglyFree_37 : decode cH_sectionsWronglyFree 37 = .ok (.iinc 1 1, 3) := by decide +kernel
theorem dH_sectionsWronglyFree_40 : decode cH_sectionsWronglyFree 40 = .ok (.iinc 2 1, 3) := by decide +kernel
theorem dH_sectionsWronglyFree_43 : decode cH_sectionsWronglyFree 43 = .ok (.goto (-39), 3) := by decide +kernel
theorem dH_sectionsWronglyFree_46 : decode cH_sectionsWronglyFree 46 = .ok (.iload_n 1, 1) := by decide +kernel
theorem dH_sectionsWronglyFree_47 : decode cH_sectionsWronglyFree 47 = .ok (.ireturn, 1) := by decide +kernel
theorem dH_makeTick_0 : decode cH_makeTick 0 = .ok (.iconst 0, 1) := by decide +kernel
theorem dH_makeTick_1 : decode cH_makeTick 1 = .ok (.istore_n 1, 1) := by decide +kernel
theorem dH_makeTick_2 : decode cH_makeTick 2 = .ok (.iload_n 1, 1) := by decide +kernel
theorem dH_makeTick_3 : decode cH_makeTick 3 = .ok (.aload_n 0, 1) := by decide +kernel
theorem dH_makeTick_4 : decode cH_makeTick 4 = .ok (.getfield 15, 3) := by decide +kernel
theorem dH_makeTick_7 : decode cH_makeTick 7 = .ok (.if_icmp .ge 31, 3) := by decide +kernel
theorem dH_makeTick_10 : decode cH_makeTick 10 = .ok (.aload_n 0, 1) := by decide +kernel
theorem dH_makeTick_11 : decode cH_makeTick 11 = .ok (.getfield 11, 3) := by decide +kernel
theorem dH_makeTick_14 : decode cH_makeTick 14 = .ok (.iload_n 1, 1) := by decide +kernel
theorem dH_makeTick_15 : decode cH_makeTick 15 = .ok (.aaload, 1) := by decide +kernel
theorem dH_makeTick_16 : decode cH_makeTick 16 = .ok (.getfield 131, 3) := by decide +kernel
theorem dH_makeTick_19 : decode cH_makeTick 19 = .ok (.ifCond .eq 13, 3) := by decide +kernel
theorem dH_makeTick_22 : decode cH_makeTick 22 = .ok (.aload_n 0, 1) := by decide +kernel
theorem dH_makeTick_23 : decode cH_makeTick 23 = .ok (.aload_n 0, 1) := by decide +kernel
theorem dH_makeTick_24 : decode cH_makeTick 24 = .ok (.getfield 11, 3) := by decide +kernel
theorem dH_makeTick_27 : decode cH_makeTick 27 = .ok (.iload_n 1, 1) := by decide +kernel
theorem dH_makeTick_28 : decode cH_makeTick 28 = .ok (.aaload, 1) := by decide +kernel
theorem dH_makeTick_29 : decode cH_makeTick 29 = .ok (.invokevirtual 185, 3) := by decide +kernel
theorem dH_makeTick_32 : decode cH_makeTick 32 = .ok (.iinc 1 1, 3) := by decide +kernel
theorem dH_makeTick_35 : decode cH_makeTick 35 = .ok (.goto (-33), 3) := by decide +kernel
theorem dH_makeTick_38 : decode cH_makeTick 38 = .ok (.iconst 0, 1) := by decide +kernel
theorem dH_makeTick_39 : decode cH_makeTick 39 = .ok (.istore_n 1, 1) := by decide +kernel
theorem dH_makeTick_40 : decode cH_makeTick 40 = .ok (.iload_n 1, 1) := by decide +kernel
theorem dH_makeTick_41 : decode cH_makeTick 41 = .ok (.aload_n 0, 1) := by decide +kernel
theorem dH_makeTick_42 : decode cH_makeTick 42 = .ok (.getfield 15, 3) := by decide +kernel
theorem dH_makeTick_45 : decode cH_makeTick 45 = .ok (.if_icmp .ge 30, 3) := by decide +kernel
theorem dH_makeTick_48 : decode cH_makeTick 48 = .ok (.aload_n 0, 1) := by decide +kernel
theorem dH_makeTick_49 : decode cH_makeTick 49 = .ok (.getfield 11, 3) := by decide +kernel
theorem dH_makeTick_52 : decode cH_makeTick 52 = .ok (.iload_n 1, 1) := by decide +kernel
theorem dH_makeTick_53 : decode cH_makeTick 53 = .ok (.aaload, 1) := by decide +kernel
theorem dH_makeTick_54 : decode cH_makeTick 54 = .ok (.getfield 131, 3) := by decide +kernel
theorem dH_makeTick_57 : decode cH_makeTick 57 = .ok (.ifCond .eq 12, 3) := by decide +kernel
theorem dH_makeTick_60 : decode cH_makeTick 60 = .ok (.aload_n 0, 1) := by decide +kernel
theorem dH_makeTick_61 : decode cH_makeTick 61 = .ok (.getfield 11, 3) := by decide +kernel
theorem dH_makeTick_64 : decode cH_makeTick 64 = .ok (.iload_n 1, 1) := by decide +kernel
theorem dH_makeTick_65 : decode cH_makeTick 65 = .ok (.aaload, 1) := by decide +kernel
theorem dH_makeTick_66 : decode cH_makeTick 66 = .ok (.invokevirtual 189, 3) := by decide +kernel
theorem dH_makeTick_69 : decode cH_makeTick 69 = .ok (.iinc 1 1, 3) := by decide +kernel
theorem dH_makeTick_72 : decode cH_makeTick 72 = .ok (.goto (-32), 3) := by decide +kernel
theorem dH_makeTick_75 : decode cH_makeTick 75 = .ok (.aload_n 0, 1) := by decide +kernel
theorem dH_makeTick_76 : decode cH_makeTick 76 = .ok (.invokevirtual 70, 3) := by decide +kernel
theorem dH_makeTick_79 : decode cH_makeTick 79 = .ok (.aload_n 0, 1) := by decide +kernel
theorem dH_makeTick_80 : decode cH_makeTick 80 = .ok (.dup, 1) := by decide +kernel
theorem dH_makeTick_81 : decode cH_makeTick 81 = .ok (.getfield 19, 3) := by decide +kernel
theorem dH_makeTick_84 : decode cH_makeTick 84 = .ok (.iconst 1, 1) := by decide +kernel
theorem dH_makeTick_85 : decode cH_makeTick 85 = .ok (.iadd, 1) := by decide +kernel
theorem dH_makeTick_86 : decode cH_makeTick 86 = .ok (.putfield 19, 3) := by decide +kernel
theorem dH_makeTick_89 : decode cH_makeTick 89 = .ok (.return_, 1) := by decide +kernel
theorem dH_goForward_0 : decode cH_goForward 0 = .ok (.iconst 0, 1) := by decide +kernel
theorem dH_goForward_1 : decode cH_goForward 1 = .ok (.istore_n 2, 1) := by decide +kernel
theorem dH_goForward_2 : decode cH_goForward 2 = .ok (.iload_n 2, 1) := by decide +kernel
theorem dH_goForward_3 : decode cH_goForward 3 = .ok (.aload_n 1, 1) := by decide +kernel
theorem dH_goForward_4 : decode cH_goForward 4 = .ok (.getfield 79, 3) := by decide +kernel
theorem dH_goForward_7 : decode cH_goForward 7 = .ok (.if_icmp .ge 39, 3) := by decide +kernel
theorem dH_goForward_10 : decode cH_goForward 10 = .ok (.aload_n 1, 1) := by decide +kernel
theorem dH_goForward_11 : decode cH_goForward 11 = .ok (.getfield 104, 3) := by decide +kernel
theorem dH_goForward_14 : decode cH_goForward 14 = .ok (.iconst 1, 1) := by decide +kernel
theorem dH_goForward_15 : decode cH_goForward 15 = .ok (.iadd, 1) := by decide +kernel
theorem dH_goForward_16 : decode cH_goForward 16 = .ok (.istore_n 3, 1) := by decide +kernel
theorem dH_goForward_17 : decode cH_goForward 17 = .ok (.iload_n 3, 1) := by decide +kernel
theorem dH_goForward_18 : decode cH_goForward 18 = .ok (.aload_n 1, 1) := by decide +kernel
theorem dH_goForward_19 : decode cH_goForward 19 = .ok (.getfield 92, 3) := by decide +kernel
theorem dH_goForward_22 : decode cH_goForward 22 = .ok (.if_icmp .gt 12, 3) := by decide +kernel
theorem dH_goForward_25 : decode cH_goForward 25 = .ok (.aload_n 0, 1) := by decide +kernel
theorem dH_goForward_26 : decode cH_goForward 26 = .ok (.iload_n 3, 1) := by decide +kernel
theorem dH_goForward_27 : decode cH_goForward 27 = .ok (.iload_n 3, 1) := by decide +kernel
theorem dH_goForward_28 : decode cH_goForward 28 = .ok (.invokevirtual 50, 3) := by decide +kernel
theorem dH_goForward_31 : decode cH_goForward 31 = .ok (.ifCond .eq 4, 3) := by decide +kernel
theorem dH_goForward_34 : decode cH_goForward 34 = .ok (.return_, 1) := by decide +kernel
theorem dH_goForward_35 : decode cH_goForward 35 = .ok (.aload_n 1, 1) := by decide +kernel
theorem dH_goForward_36 : decode cH_goForward 36 = .ok (.iload_n 3, 1) := by decide +kernel
theorem dH_goForward_37 : decode cH_goForward 37 = .ok (.putfield 104, 3) := by decide +kernel
theorem dH_goForward_40 : decode cH_goForward 40 = .ok (.iinc 2 1, 3) := by decide +kernel
theorem dH_goForward_43 : decode cH_goForward 43 = .ok (.goto (-41), 3) := by decide +kernel
theorem dH_goForward_46 : decode cH_goForward 46 = .ok (.return_, 1) := by decide +kernel
theorem dH_findStates_0 : decode cH_findStates 0 = .ok (.aload_n 0, 1) := by decide +kernel
theorem dH_findStates_1 : decode cH_findStates 1 = .ok (.invokevirtual 192, 3) := by decide +kernel
theorem dH_findStates_4 : decode cH_findStates 4 = .ok (.iconst 0, 1) := by decide +kernel
theorem dH_findStates_5 : decode cH_findStates 5 = .ok (.istore_n 1, 1) := by decide +kernel
theorem dH_findStates_6 : decode cH_findStates 6 = .ok (.iload_n 1, 1) := by decide +kernel
theorem dH_findStates_7 : decode cH_findStates 7 = .ok (.bipush 12, 2) := by decide +kernel
theorem dH_findStates_9 : decode cH_findStates 9 = .ok (.if_icmp .ge 20, 3) := by decide +kernel
theorem dH_findStates_12 : decode cH_findStates 12 = .ok (.aload_n 0, 1) := by decide +kernel
theorem dH_findStates_13 : decode cH_findStates 13 = .ok (.getfield 22, 3) := by decide +kernel
theorem dH_findStates_16 : decode cH_findStates 16 = .ok (.iload_n 1, 1) := by decide +kernel
theorem dH_findStates_17 : decode cH_findStates 17 = .ok (.aload_n 0, 1) := by decide +kernel
theorem dH_findStates_18 : decode cH_findStates 18 = .ok (.iload_n 1, 1) := by decide +kernel
theorem dH_findStates_19 : decode cH_findStates 19 = .ok (.invokevirtual 195, 3) := by decide +kernel
theorem dH_findStates_22 : decode cH_findStates 22 = .ok (.iastore, 1) := by decide +kernel
theorem dH_findStates_23 : decode cH_findStates 23 = .ok (.iinc 1 1, 3) := by decide +kernel
theorem dH_findStates_26 : decode cH_findStates 26 = .ok (.goto (-20), 3) := by decide +kernel
theorem dH_findStates_29 : decode cH_findStates 29 = .ok (.iconst 0, 1) := by decide +kernel
theorem dH_findStates_30 : decode cH_findStates 30 = .ok (.istore_n 1, 1) := by decide +kernel
theorem dH_findStates_31 : decode cH_findStates 31 = .ok (.iload_n 1, 1) := by decide +kernel
theorem dH_findStates_32 : decode cH_findStates 32 = .ok (.bipush 12, 2) := by decide +kernel
theorem dH_findStates_34 : decode cH_findStates 34 = .ok (.if_icmp .ge 44, 3) := by decide +kernel
theorem dH_findStates_37 : decode cH_findStates 37 = .ok (.aload_n 0, 1) := by decide +kernel
theorem dH_findStates_38 : decode cH_findStates 38 = .ok (.getfield 22, 3) := by decide +kernel
theorem dH_findStates_41 : decode cH_findStates 41 = .ok (.iload_n 1, 1) := by decide +kernel
theorem dH_findStates_42 : decode cH_findStates 42 = .ok (.iaload, 1) := by decide +kernel
theorem dH_findStates_43 : decode cH_findStates 43 = .ok (.ifCond .ne 29, 3) := by decide +kernel
theorem dH_findStates_46 : decode cH_findStates 46 = .ok (.aload_n 0, 1) := by decide +kernel
theorem dH_findStates_47 : decode cH_findStates 47 = .ok (.iload_n 1, 1) := by decide +kernel
theorem dH_findStates_48 : decode cH_findStates 48 = .ok (.iload_n 1, 1) := by decide +kernel
theorem dH_findStates_49 : decode cH_findStates 49 = .ok (.invokevirtual 198, 3) := by decide +kernel
theorem dH_findStates_52 : decode cH_findStates 52 = .ok (.ifCond .eq 20, 3) := by decide +kernel
theorem dH_findStates_55 : decode cH_findStates 55 = .ok (.aload_n 0, 1) := by decide +kernel
theorem dH_findStates_56 : decode cH_findStates 56 = .ok (.iload_n 1, 1) := by decide +kernel
theorem dH_findStates_57 : decode cH_findStates 57 = .ok (.iconst 3, 1) := by decide +kernel
theorem dH_findStates_58 : decode cH_findStates 58 = .ok (.idiv, 1) := by decide +kernel
theorem dH_findStates_59 : decode cH_findStates 59 = .ok (.invokevirtual 154, 3) := by decide +kernel
theorem dH_findStates_62 : decode cH_findStates 62 = .ok (.ifCond .eq 10, 3) := by decide +kernel
theorem dH_findStates_65 : decode cH_findStates 65 = .ok (.aload_n 0, 1) := by decide +kernel
theorem dH_findStates_66 : decode cH_findStates 66 = .ok (.getfield 22, 3) := by decide +kernel
theorem dH_findStates_69 : decode cH_findStates 69 = .ok (.iload_n 1, 1) := by decide +kernel
theorem dH_findStates_70 : decode cH_findStates 70 = .ok (.iconst 3, 1) := by decide +kernel
theorem dH_findStates_71 : decode cH_findStates 71 = .ok (.iastore, 1) := by decide +kernel
theorem dH_findStates_72 : decode cH_findStates 72 = .ok (.iinc 1 1, 3) := by decide +kernel
theorem dH_findStates_75 : decode cH_findStates 75 = .ok (.goto (-44), 3) := by decide +kernel
theorem dH_findStates_78 : decode cH_findStates 78 = .ok (.return_, 1) := by decide +kernel
theorem dH_locateTrains_0 : decode cH_locateTrains 0 = .ok (.iconst 0, 1) := by decide +kernel
theorem dH_locateTrains_1 : decode cH_locateTrains 1 = .ok (.istore_n 1, 1) := by decide +kernel
theorem dH_locateTrains_2 : decode cH_locateTrains 2 = .ok (.iload_n 1, 1) := by decide +kernel
theorem dH_locateTrains_3 : decode cH_locateTrains 3 = .ok (.bipush 12, 2) := by decide +kernel
theorem dH_locateTrains_5 : decode cH_locateTrains 5 = .ok (.if_icmp .ge 95, 3) := by decide +kernel
theorem dH_locateTrains_8 : decode cH_locateTrains 8 = .ok (.aload_n 0, 1) := by decide +kernel
theorem dH_locateTrains_9 : decode cH_locateTrains 9 = .ok (.getfield 32, 3) := by decide +kernel
theorem dH_locateTrains_12 : decode cH_locateTrains 12 = .ok (.iload_n 1, 1) := by decide +kernel
theorem dH_locateTrains_13 : decode cH_locateTrains 13 = .ok (.aload_n 0, 1) := by decide +kernel
theorem dH_locateTrains_14 : decode cH_locateTrains 14 = .ok (.getfield 29, 3) := by decide +kernel
theorem dH_locateTrains_17 : decode cH_locateTrains 17 = .ok (.iload_n 1, 1) := by decide +kernel
theorem dH_locateTrains_18 : decode cH_locateTrains 18 = .ok (.iaload, 1) := by decide +kernel
theorem dH_locateTrains_19 : decode cH_locateTrains 19 = .ok (.iastore, 1) := by decide +kernel
theorem dH_locateTrains_20 : decode cH_locateTrains 20 = .ok (.aload_n 0, 1) := by decide +kernel
theorem dH_locateTrains_21 : decode cH_locateTrains 21 = .ok (.getfield 29, 3) := by decide +kernel
theorem dH_locateTrains_24 : decode cH_locateTrains 24 = .ok (.iload_n 1, 1) := by decide +kernel
theorem dH_locateTrains_25 : decode cH_locateTrains 25 = .ok (.iconst (-1), 1) := by decide +kernel
theorem dH_locateTrains_26 : decode cH_locateTrains 26 = .ok (.iastore, 1) := by decide +kernel
theorem dH_locateTrains_27 : decode cH_locateTrains 27 = .ok (.aload_n 0, 1) := by decide +kernel
theorem dH_locateTrains_28 : decode cH_locateTrains 28 = .ok (.getfield 26, 3) := by decide +kernel
theorem dH_locateTrains_31 : decode cH_locateTrains 31 = .ok (.iload_n 1, 1) := by decide +kernel
theorem dH_locateTrains_32 : decode cH_locateTrains 32 = .ok (.iconst 0, 1) := by decide +kernel
theorem dH_locateTrains_33 : decode cH_locateTrains 33 = .ok (.iastore, 1) := by decide +kernel
theorem dH_locateTrains_34 : decode cH_locateTrains 34 = .ok (.iconst 0, 1) := by decide +kernel
theorem dH_locateTrains_35 : decode cH_locateTrains 35 = .ok (.istore_n 2, 1) := by decide +kernel
theorem dH_locateTrains_36 : decode cH_locateTrains 36 = .ok (.iload_n 2, 1) := by decide +kernel
theorem dH_locateTrains_37 : decode cH_locateTrains 37 = .ok (.aload_n 0, 1) := by decide +kernel
theorem dH_locateTrains_38 : decode cH_locateTrains 38 = .ok (.getfield 15, 3) := by decide +kernel
theorem dH_locateTrains_41 : decode cH_locateTrains 41 = .ok (.if_icmp .ge 53, 3) := by decide +kernel
theorem dH_locateTrains_44 : decode cH_locateTrains 44 = .ok (.aload_n 0, 1) := by decide +kernel
theorem dH_locateTrains_45 : decode cH_locateTrains 45 = .ok (.getfield 11, 3) := by decide +kernel
theorem dH_locateTrains_48 : decode cH_locateTrains 48 = .ok (.iload_n 2, 1) := by decide +kernel
theorem dH_locateTrains_49 : decode cH_locateTrains 49 = .ok (.aaload, 1) := by decide +kernel
theorem dH_locateTrains_50 : decode cH_locateTrains 50 = .ok (.iload_n 1, 1) := by decide +kernel
theorem dH_locateTrains_51 : decode cH_locateTrains 51 = .ok (.invokevirtual 201, 3) := by decide +kernel
theorem dH_locateTrains_54 : decode cH_locateTrains 54 = .ok (.ifCond .eq 34, 3) := by decide +kernel
theorem dH_locateTrains_57 : decode cH_locateTrains 57 = .ok (.aload_n 0, 1) := by decide +kernel
theorem dH_locateTrains_58 : decode cH_locateTrains 58 = .ok (.getfield 26, 3) := by decide +kernel
theorem dH_locateTrains_61 : decode cH_locateTrains 61 = .ok (.iload_n 1, 1) := by decide +kernel
theorem dH_locateTrains_62 : decode cH_locateTrains 62 = .ok (.dup2, 1) := by decide +kernel
theorem dH_locateTrains_63 : decode cH_locateTrains 63 = .ok (.iaload, 1) := by decide +kernel
theorem dH_locateTrains_64 : decode cH_locateTrains 64 = .ok (.iconst 1, 1) := by decide +kernel
theorem dH_locateTrains_65 : decode cH_locateTrains 65 = .ok (.iadd, 1) := by decide +kernel
theorem dH_locateTrains_66 : decode cH_locateTrains 66 = .ok (.iastore, 1) := by decide +kernel
theorem dH_locateTrains_67 : decode cH_locateTrains 67 = .ok (.aload_n 0, 1) := by decide +kernel
theorem dH_locateTrains_68 : decode cH_locateTrains 68 = .ok (.getfield 29, 3) := by decide +kernel
theorem dH_locateTrains_71 : decode cH_locateTrains 71 = .ok (.iload_n 1, 1) := by decide +kernel
theorem dH_locateTrains_72 : decode cH_locateTrains 72 = .ok (.aload_n 0, 1) := by decide +kernel
theorem dH_locateTrains_73 : decode cH_locateTrains 73 = .ok (.getfield 26, 3) := by decide +kernel
theorem dH_locateTrains_76 : decode cH_locateTrains 76 = .ok (.iload_n 1, 1) := by decide +kernel
theorem dH_locateTrains_77 : decode cH_locateTrains 77 = .ok (.iaload, 1) := by decide +kernel
theorem dH_locateTrains_78 : decode cH_locateTrains 78 = .ok (.iconst 1, 1) := by decide +kernel
theorem dH_locateTrains_79 : decode cH_locateTrains 79 = .ok (.if_icmp .ne 7, 3) := by decide +kernel
theorem dH_locateTrains_82 : decode cH_locateTrains 82 = .ok (.iload_n 2, 1) := by decide +kernel
theorem dH_locateTrains_83 : decode cH_locateTrains 83 = .ok (.goto 4, 3) := by decide +kernel
theorem dH_locateTrains_86 : decode cH_locateTrains 86 = .ok (.iconst (-1), 1) := by decide +kernel
theorem dH_locateTrains_87 : decode cH_locateTrains 87 = .ok (.iastore, 1) := by decide +kernel
theorem dH_locateTrains_88 : decode cH_locateTrains 88 = .ok (.iinc 2 1, 3) := by decide +kernel
theorem dH_locateTrains_91 : decode cH_locateTrains 91 = .ok (.goto (-55), 3) := by decide +kernel
theorem dH_locateTrains_94 : decode cH_locateTrains 94 = .ok (.iinc 1 1, 3) := by decide +kernel
theorem dH_locateTrains_97 : decode cH_locateTrains 97 = .ok (.goto (-95), 3) := by decide +kernel
theorem dH_locateTrains_100 : decode cH_locateTrains 100 = .ok (.return_, 1) := by decide +kernel
theorem dH_stateByReports_0 : decode cH_stateByReports 0 = .ok (.aload_n 0, 1) := by decide +kernel
theorem dH_stateByReports_1 : decode cH_stateByReports 1 = .ok (.iload_n 1, 1) := by decide +kernel
theorem dH_stateByReports_2 : decode cH_stateByReports 2 = .ok (.iconst 3, 1) := by decide +kernel
theorem dH_stateByReports_3 : decode cH_stateByReports 3 = .ok (.idiv, 1) := by decide +kernel
theorem dH_stateByReports_4 : decode cH_stateByReports 4 = .ok (.invokevirtual 154, 3) := by decide +kernel
theorem dH_stateByReports_7 : decode cH_stateByReports 7 = .ok (.ifCond .ne 5, 3) := by decide +kernel
theorem dH_stateByReports_10 : decode cH_stateByReports 10 = .ok (.iconst 0, 1) := by decide +kernel
theorem dH_stateByReports_11 : decode cH_stateByReports 11 = .ok (.ireturn, 1) := by decide +kernel
theorem dH_stateByReports_12 : decode cH_stateByReports 12 = .ok (.aload_n 0, 1) := by decide +kernel
theorem dH_stateByReports_13 : decode cH_stateByReports 13 = .ok (.getfield 26, 3) := by decide +kernel
theorem dH_stateByReports_16 : decode cH_stateByReports 16 = .ok (.iload_n 1, 1) := by decide +kernel
theorem dH_stateByReports_17 : decode cH_stateByReports 17 = .ok (.iaload, 1) := by decide +kernel
theorem dH_stateByReports_18 : decode cH_stateByReports 18 = .ok (.ifCond .le 9, 3) := by decide +kernel
theorem dH_stateByReports_21 : decode cH_stateByReports 21 = .ok (.aload_n 0, 1) := by decide +kernel
theorem dH_stateByReports_22 : decode cH_stateByReports 22 = .ok (.iload_n 1, 1) := by decide +kernel
theorem dH_stateByReports_23 : decode cH_stateByReports 23 = .ok (.invokevirtual 204, 3) := by decide +kernel
theorem dH_stateByReports_26 : decode cH_stateByReports 26 = .ok (.ireturn, 1) := by decide +kernel
theorem dH_stateByReports_27 : decode cH_stateByReports 27 = .ok (.aload_n 0, 1) := by decide +kernel
theorem dH_stateByReports_28 : decode cH_stateByReports 28 = .ok (.getfield 22, 3) := by decide +kernel
theorem dH_stateByReports_31 : decode cH_stateByReports 31 = .ok (.iload_n 1, 1) := by decide +kernel
theorem dH_stateByReports_32 : decode cH_stateByReports 32 = .ok (.iaload, 1) := by decide +kernel
theorem dH_stateByReports_33 : decode cH_stateByReports 33 = .ok (.ifCond .ne 17, 3) := by decide +kernel
theorem dH_stateByReports_36 : decode cH_stateByReports 36 = .ok (.aload_n 0, 1) := by decide +kernel
theorem dH_stateByReports_37 : decode cH_stateByReports 37 = .ok (.iload_n 1, 1) := by decide +kernel
theorem dH_stateByReports_38 : decode cH_stateByReports 38 = .ok (.invokevirtual 207, 3) := by decide +kernel
theorem dH_stateByReports_41 : decode cH_stateByReports 41 = .ok (.ifCond .eq 7, 3) := by decide +kernel
theorem dH_stateByReports_44 : decode cH_stateByReports 44 = .ok (.iconst 0, 1) := by decide +kernel
theorem dH_stateByReports_45 : decode cH_stateByReports 45 = .ok (.goto 4, 3) := by decide +kernel
theorem dH_stateByReports_48 : decode cH_stateByReports 48 = .ok (.iconst 3, 1) := by decide +kernel
theorem dH_stateByReports_49 : decode cH_stateByReports 49 = .ok (.ireturn, 1) := by decide +kernel
theorem dH_stateByReports_50 : decode cH_stateByReports 50 = .ok (.aload_n 0, 1) := by decide +kernel
theorem dH_stateByReports_51 : decode cH_stateByReports 51 = .ok (.getfield 22, 3) := by decide +kernel
theorem dH_stateByReports_54 : decode cH_stateByReports 54 = .ok (.iload_n 1, 1) := by decide +kernel
theorem dH_stateByReports_55 : decode cH_stateByReports 55 = .ok (.iaload, 1) := by decide +kernel
theorem dH_stateByReports_56 : decode cH_stateByReports 56 = .ok (.iconst 1, 1) := by decide +kernel
theorem dH_stateByReports_57 : decode cH_stateByReports 57 = .ok (.if_icmp .ne 17, 3) := by decide +kernel
theorem dH_stateByReports_60 : decode cH_stateByReports 60 = .ok (.aload_n 0, 1) := by decide +kernel
theorem dH_stateByReports_61 : decode cH_stateByReports 61 = .ok (.iload_n 1, 1) := by decide +kernel
theorem dH_stateByReports_62 : decode cH_stateByReports 62 = .ok (.invokevirtual 210, 3) := by decide +kernel
theorem dH_stateByReports_65 : decode cH_stateByReports 65 = .ok (.ifCond .eq 7, 3) := by decide +kernel
theorem dH_stateByReports_68 : decode cH_stateByReports 68 = .ok (.iconst 0, 1) := by decide +kernel
theorem dH_stateByReports_69 : decode cH_stateByReports 69 = .ok (.goto 4, 3) := by decide +kernel
theorem dH_stateByReports_72 : decode cH_stateByReports 72 = .ok (.iconst 3, 1) := by decide +kernel
theorem dH_stateByReports_73 : decode cH_stateByReports 73 = .ok (.ireturn, 1) := by decide +kernel
theorem dH_stateByReports_74 : decode cH_stateByReports 74 = .ok (.iconst 3, 1) := by decide +kernel
theorem dH_stateByReports_75 : decode cH_stateByReports 75 = .ok (.ireturn, 1) := by decide +kernel
theorem dH_stateUnderTrains_0 : decode cH_stateUnderTrains 0 = .ok (.aload_n 0, 1) := by decide +kernel
theorem dH_stateUnderTrains_1 : decode cH_stateUnderTrains 1 = .ok (.getfield 29, 3) := by decide +kernel
theorem dH_stateUnderTrains_4 : decode cH_stateUnderTrains 4 = .ok (.iload_n 1, 1) := by decide +kernel
theorem dH_stateUnderTrains_5 : decode cH_stateUnderTrains 5 = .ok (.iaload, 1) := by decide +kernel
theorem dH_stateUnderTrains_6 : decode cH_stateUnderTrains 6 = .ok (.istore_n 2, 1) := by decide +kernel
theorem dH_stateUnderTrains_7 : decode cH_stateUnderTrains 7 = .ok (.aload_n 0, 1) := by decide +kernel
theorem dH_stateUnderTrains_8 : decode cH_stateUnderTrains 8 = .ok (.getfield 22, 3) := by decide +kernel
theorem dH_stateUnderTrains_11 : decode cH_stateUnderTrains 11 = .ok (.iload_n 1, 1) := by decide +kernel
theorem dH_stateUnderTrains_12 : decode cH_stateUnderTrains 12 = .ok (.iaload, 1) := by decide +kernel
theorem dH_stateUnderTrains_13 : decode cH_stateUnderTrains 13 = .ok (.ifCond .eq 13, 3) := by decide +kernel
theorem dH_stateUnderTrains_16 : decode cH_stateUnderTrains 16 = .ok (.aload_n 0, 1) := by decide +kernel
theorem dH_stateUnderTrains_17 : decode cH_stateUnderTrains 17 = .ok (.getfield 22, 3) := by decide +kernel
theorem dH_stateUnderTrains_20 : decode cH_stateUnderTrains 20 = .ok (.iload_n 1, 1) := by decide +kernel
theorem dH_stateUnderTrains_21 : decode cH_stateUnderTrains 21 = .ok (.iaload, 1) := by decide +kernel
theorem dH_stateUnderTrains_22 : decode cH_stateUnderTrains 22 = .ok (.iconst 1, 1) := by decide +kernel
theorem dH_stateUnderTrains_23 : decode cH_stateUnderTrains 23 = .ok (.if_icmp .ne 7, 3) := by decide +kernel
theorem dH_stateUnderTrains_26 : decode cH_stateUnderTrains 26 = .ok (.iconst 1, 1) := by decide +kernel
theorem dH_stateUnderTrains_27 : decode cH_stateUnderTrains 27 = .ok (.goto 4, 3) := by decide +kernel
theorem dH_stateUnderTrains_30 : decode cH_stateUnderTrains 30 = .ok (.iconst 0, 1) := by decide +kernel
theorem dH_stateUnderTrains_31 : decode cH_stateUnderTrains 31 = .ok (.istore_n 3, 1) := by decide +kernel
theorem dH_stateUnderTrains_32 : decode cH_stateUnderTrains 32 = .ok (.iload_n 2, 1) := by decide +kernel
theorem dH_stateUnderTrains_33 : decode cH_stateUnderTrains 33 = .ok (.iconst (-1), 1) := by decide +kernel
theorem dH_stateUnderTrains_34 : decode cH_stateUnderTrains 34 = .ok (.if_icmp .eq 23, 3) := by decide +kernel
theorem dH_stateUnderTrains_37 : decode cH_stateUnderTrains 37 = .ok (.aload_n 0, 1) := by decide +kernel
theorem dH_stateUnderTrains_38 : decode cH_stateUnderTrains 38 = .ok (.getfield 11, 3) := by decide +kernel
theorem dH_stateUnderTrains_41 : decode cH_stateUnderTrains 41 = .ok (.iload_n 2, 1) := by decide +kernel
theorem dH_stateUnderTrains_42 : decode cH_stateUnderTrains 42 = .ok (.aaload, 1) := by decide +kernel
theorem dH_stateUnderTrains_43 : decode cH_stateUnderTrains 43 = .ok (.getfield 122, 3) := by decide +kernel
theorem dH_stateUnderTrains_46 : decode cH_stateUnderTrains 46 = .ok (.ifCond .eq 11, 3) := by decide +kernel
theorem dH_stateUnderTrains_49 : decode cH_stateUnderTrains 49 = .ok (.iload_n 3, 1) := by decide +kernel
theorem dH_stateUnderTrains_50 : decode cH_stateUnderTrains 50 = .ok (.ifCond .eq 7, 3) := by decide +kernel
theorem dH_stateUnderTrains_53 : decode cH_stateUnderTrains 53 = .ok (.iconst 1, 1) := by decide +kernel
theorem dH_stateUnderTrains_54 : decode cH_stateUnderTrains 54 = .ok (.goto 4, 3) := by decide +kernel
theorem dH_stateUnderTrains_57 : decode cH_stateUnderTrains 57 = .ok (.iconst 0, 1) := by decide +kernel
theorem dH_stateUnderTrains_58 : decode cH_stateUnderTrains 58 = .ok (.istore 4, 2) := by decide +kernel
theorem dH_stateUnderTrains_60 : decode cH_stateUnderTrains 60 = .ok (.iload 4, 2) := by decide +kernel
theorem dH_stateUnderTrains_62 : decode cH_stateUnderTrains 62 = .ok (.ifCond .eq 7, 3) := by decide +kernel
theorem dH_stateUnderTrains_65 : decode cH_stateUnderTrains 65 = .ok (.iconst 1, 1) := by decide +kernel
theorem dH_stateUnderTrains_66 : decode cH_stateUnderTrains 66 = .ok (.goto 4, 3) := by decide +kernel
theorem dH_stateUnderTrains_69 : decode cH_stateUnderTrains 69 = .ok (.iconst 2, 1) := by decide +kernel
theorem dH_stateUnderTrains_70 : decode cH_stateUnderTrains 70 = .ok (.ireturn, 1) := by decide +kernel
theorem dH_staysFree_0 : decode cH_staysFree 0 = .ok (.iload_n 1, 1) := by decide +kernel
theorem dH_staysFree_1 : decode cH_staysFree 1 = .ok (.iload_n 1, 1) := by decide +kernel
theorem dH_staysFree_2 : decode cH_staysFree 2 = .ok (.iconst 3, 1) := by decide +kernel
theorem dH_staysFree_3 : decode cH_staysFree 3 = .ok (.irem, 1) := by decide +kernel
theorem dH_staysFree_4 : decode cH_staysFree 4 = .ok (.isub, 1) := by decide +kernel
theorem dH_staysFree_5 : decode cH_staysFree 5 = .ok (.istore_n 2, 1) := by decide +kernel
theorem dH_staysFree_6 : decode cH_staysFree 6 = .ok (.iload_n 2, 1) := by decide +kernel
theorem dH_staysFree_7 : decode cH_staysFree 7 = .ok (.iconst 3, 1) := by decide +kernel
theorem dH_staysFree_8 : decode cH_staysFree 8 = .ok (.iadd, 1) := by decide +kernel
theorem dH_staysFree_9 : decode cH_staysFree 9 = .ok (.iconst 1, 1) := by decide +kernel
theorem dH_staysFree_10 : decode cH_staysFree 10 = .ok (.isub, 1) := by decide +kernel
theorem dH_staysFree_11 : decode cH_staysFree 11 = .ok (.istore_n 3, 1) := by decide +kernel
theorem dH_staysFree_12 : decode cH_staysFree 12 = .ok (.aload_n 0, 1) := by decide +kernel
theorem dH_staysFree_13 : decode cH_staysFree 13 = .ok (.iload_n 2, 1) := by decide +kernel
theorem dH_staysFree_14 : decode cH_staysFree 14 = .ok (.iload_n 3, 1) := by decide +kernel
theorem dH_staysFree_15 : decode cH_staysFree 15 = .ok (.invokevirtual 213, 3) := by decide +kernel
theorem dH_staysFree_18 : decode cH_staysFree 18 = .ok (.ifCond .ne 12, 3) := by decide +kernel
theorem dH_staysFree_21 : decode cH_staysFree 21 = .ok (.aload_n 0, 1) := by decide +kernel
theorem dH_staysFree_22 : decode cH_staysFree 22 = .ok (.iload_n 2, 1) := by decide +kernel
theorem dH_staysFree_23 : decode cH_staysFree 23 = .ok (.iload_n 3, 1) := by decide +kernel
theorem dH_staysFree_24 : decode cH_staysFree 24 = .ok (.invokevirtual 198, 3) := by decide +kernel
theorem dH_staysFree_27 : decode cH_staysFree 27 = .ok (.ifCond .eq 7, 3) := by decide +kernel
theorem dH_staysFree_30 : decode cH_staysFree 30 = .ok (.iconst 1, 1) := by decide +kernel
theorem dH_staysFree_31 : decode cH_staysFree 31 = .ok (.goto 4, 3) := by decide +kernel
theorem dH_staysFree_34 : decode cH_staysFree 34 = .ok (.iconst 0, 1) := by decide +kernel
theorem dH_staysFree_35 : decode cH_staysFree 35 = .ok (.istore 4, 2) := by decide +kernel
theorem dH_staysFree_37 : decode cH_staysFree 37 = .ok (.iload 4, 2) := by decide +kernel
theorem dH_staysFree_39 : decode cH_staysFree 39 = .ok (.ifCond .eq 15, 3) := by decide +kernel
theorem dH_staysFree_42 : decode cH_staysFree 42 = .ok (.aload_n 0, 1) := by decide +kernel
theorem dH_staysFree_43 : decode cH_staysFree 43 = .ok (.iload_n 1, 1) := by decide +kernel
theorem dH_staysFree_44 : decode cH_staysFree 44 = .ok (.invokevirtual 216, 3) := by decide +kernel
theorem dH_staysFree_47 : decode cH_staysFree 47 = .ok (.ifCond .ne 7, 3) := by decide +kernel
theorem dH_staysFree_50 : decode cH_staysFree 50 = .ok (.iconst 1, 1) := by decide +kernel
theorem dH_staysFree_51 : decode cH_staysFree 51 = .ok (.goto 4, 3) := by decide +kernel
theorem dH_staysFree_54 : decode cH_staysFree 54 = .ok (.iconst 0, 1) := by decide +kernel
theorem dH_staysFree_55 : decode cH_staysFree 55 = .ok (.ireturn, 1) := by decide +kernel
theorem dH_isAnyTrainLocated_0 : decode cH_isAnyTrainLocated 0 = .ok (.iload_n 1, 1) := by decide +kernel
theorem dH_isAnyTrainLocated_1 : decode cH_isAnyTrainLocated 1 = .ok (.istore_n 3, 1) := by decide +kernel
theorem dH_isAnyTrainLocated_2 : decode cH_isAnyTrainLocated 2 = .ok (.iload_n 3, 1) := by decide +kernel
theorem dH_isAnyTrainLocated_3 : decode cH_isAnyTrainLocated 3 = .ok (.iload_n 2, 1) := by decide +kernel
theorem dH_isAnyTrainLocated_4 : decode cH_isAnyTrainLocated 4 = .ok (.if_icmp .gt 20, 3) := by decide +kernel
theorem dH_isAnyTrainLocated_7 : decode cH_isAnyTrainLocated 7 = .ok (.aload_n 0, 1) := by decide +kernel
theorem dH_isAnyTrainLocated_8 : decode cH_isAnyTrainLocated 8 = .ok (.getfield 26, 3) := by decide +kernel
theorem dH_isAnyTrainLocated_11 : decode cH_isAnyTrainLocated 11 = .ok (.iload_n 3, 1) := by decide +kernel
theorem dH_isAnyTrainLocated_12 : decode cH_isAnyTrainLocated 12 = .ok (.iaload, 1) := by decide +kernel
theorem dH_isAnyTrainLocated_13 : decode cH_isAnyTrainLocated 13 = .ok (.ifCond .le 5, 3) := by decide +kernel
theorem dH_isAnyTrainLocated_16 : decode cH_isAnyTrainLocated 16 = .ok (.iconst 1, 1) := by decide +kernel
theorem dH_isAnyTrainLocated_17 : decode cH_isAnyTrainLocated 17 = .ok (.ireturn, 1) := by decide +kernel
theorem dH_isAnyTrainLocated_18 : decode cH_isAnyTrainLocated 18 = .ok (.iinc 3 1, 3) := by decide +kernel
theorem dH_isAnyTrainLocated_21 : decode cH_isAnyTrainLocated 21 = .ok (.goto (-19), 3) := by decide +kernel
theorem dH_isAnyTrainLocated_24 : decode cH_isAnyTrainLocated 24 = .ok (.iconst 0, 1) := by decide +kernel
theorem dH_isAnyTrainLocated_25 : decode cH_isAnyTrainLocated 25 = .ok (.ireturn, 1) := by decide +kernel
theorem dH_wasLeftByBrokenTrain_0 : decode cH_wasLeftByBrokenTrain 0 = .ok (.iconst 0, 1) := by decide +kernel
theorem dH_wasLeftByBrokenTrain_1 : decode cH_wasLeftByBrokenTrain 1 = .ok (.istore_n 2, 1) := by decide +kernel
theorem dH_wasLeftByBrokenTrain_2 : decode cH_wasLeftByBrokenTrain 2 = .ok (.iload_n 2, 1) := by decide +kernel
theorem dH_wasLeftByBrokenTrain_3 : decode cH_wasLeftByBrokenTrain 3 = .ok (.aload_n 0, 1) := by decide +kernel
theorem dH_wasLeftByBrokenTrain_4 : decode cH_wasLeftByBrokenTrain 4 = .ok (.getfield 15, 3) := by decide +kernel
theorem dH_wasLeftByBrokenTrain_7 : decode cH_wasLeftByBrokenTrain 7 = .ok (.if_icmp .ge 47, 3) := by decide +kernel
theorem dH_wasLeftByBrokenTrain_10 : decode cH_wasLeftByBrokenTrain 10 = .ok (.aload_n 0, 1) := by decide +kernel
theorem dH_wasLeftByBrokenTrain_11 : decode cH_wasLeftByBrokenTrain 11 = .ok (.getfield 11, 3) := by decide +kernel
theorem dH_wasLeftByBrokenTrain_14 : decode cH_wasLeftByBrokenTrain 14 = .ok (.iload_n 2, 1) := by decide +kernel
theorem dH_wasLeftByBrokenTrain_15 : decode cH_wasLeftByBrokenTrain 15 = .ok (.aaload, 1) := by decide +kernel
theorem dH_wasLeftByBrokenTrain_16 : decode cH_wasLeftByBrokenTrain 16 = .ok (.astore_n 3, 1) := by decide +kernel
theorem dH_wasLeftByBrokenTrain_17 : decode cH_wasLeftByBrokenTrain 17 = .ok (.aload_n 3, 1) := by decide +kernel
theorem dH_wasLeftByBrokenTrain_18 : decode cH_wasLeftByBrokenTrain 18 = .ok (.getfield 131, 3) := by decide +kernel
theorem dH_wasLeftByBrokenTrain_21 : decode cH_wasLeftByBrokenTrain 21 = .ok (.ifCond .eq 27, 3) := by decide +kernel
theorem dH_wasLeftByBrokenTrain_24 : decode cH_wasLeftByBrokenTrain 24 = .ok (.aload_n 3, 1) := by decide +kernel
theorem dH_wasLeftByBrokenTrain_25 : decode cH_wasLeftByBrokenTrain 25 = .ok (.getfield 163, 3) := by decide +kernel
theorem dH_wasLeftByBrokenTrain_28 : decode cH_wasLeftByBrokenTrain 28 = .ok (.ifCond .ne 20, 3) := by decide +kernel
theorem dH_wasLeftByBrokenTrain_31 : decode cH_wasLeftByBrokenTrain 31 = .ok (.aload_n 3, 1) := by decide +kernel
theorem dH_wasLeftByBrokenTrain_32 : decode cH_wasLeftByBrokenTrain 32 = .ok (.getfield 122, 3) := by decide +kernel
theorem dH_wasLeftByBrokenTrain_35 : decode cH_wasLeftByBrokenTrain 35 = .ok (.ifCond .ne 13, 3) := by decide +kernel
theorem dH_wasLeftByBrokenTrain_38 : decode cH_wasLeftByBrokenTrain 38 = .ok (.aload_n 3, 1) := by decide +kernel
theorem dH_wasLeftByBrokenTrain_39 : decode cH_wasLeftByBrokenTrain 39 = .ok (.iload_n 1, 1) := by decide +kernel
theorem dH_wasLeftByBrokenTrain_40 : decode cH_wasLeftByBrokenTrain 40 = .ok (.invokevirtual 219, 3) := by decide +kernel
theorem dH_wasLeftByBrokenTrain_43 : decode cH_wasLeftByBrokenTrain 43 = .ok (.ifCond .eq 5, 3) := by decide +kernel
theorem dH_wasLeftByBrokenTrain_46 : decode cH_wasLeftByBrokenTrain 46 = .ok (.iconst 1, 1) := by decide +kernel
theorem dH_wasLeftByBrokenTrain_47 : decode cH_wasLeftByBrokenTrain 47 = .ok (.ireturn, 1) := by decide +kernel
theorem dH_wasLeftByBrokenTrain_48 : decode cH_wasLeftByBrokenTrain 48 = .ok (.iinc 2 1, 3) := by decide +kernel
theorem dH_wasLeftByBrokenTrain_51 : decode cH_wasLeftByBrokenTrain 51 = .ok (.goto (-49), 3) := by decide +kernel
theorem dH_wasLeftByBrokenTrain_54 : decode cH_wasLeftByBrokenTrain 54 = .ok (.iconst 0, 1) := by decide +kernel
theorem dH_wasLeftByBrokenTrain_55 : decode cH_wasLeftByBrokenTrain 55 = .ok (.ireturn, 1) := by decide +kernel
theorem dH_wasLeftByWholeTrain_0 : decode cH_wasLeftByWholeTrain 0 = .ok (.aload_n 0, 1) := by decide +kernel
theorem dH_wasLeftByWholeTrain_1 : decode cH_wasLeftByWholeTrain 1 = .ok (.getfield 32, 3) := by decide +kernel
theorem dH_wasLeftByWholeTrain_4 : decode cH_wasLeftByWholeTrain 4 = .ok (.iload_n 1, 1) := by decide +kernel
theorem dH_wasLeftByWholeTrain_5 : decode cH_wasLeftByWholeTrain 5 = .ok (.iaload, 1) := by decide +kernel
theorem dH_wasLeftByWholeTrain_6 : decode cH_wasLeftByWholeTrain 6 = .ok (.istore_n 2, 1) := by decide +kernel
theorem dH_wasLeftByWholeTrain_7 : decode cH_wasLeftByWholeTrain 7 = .ok (.iload_n 2, 1) := by decide +kernel
theorem dH_wasLeftByWholeTrain_8 : decode cH_wasLeftByWholeTrain 8 = .ok (.iconst (-1), 1) := by decide +kernel
theorem dH_wasLeftByWholeTrain_9 : decode cH_wasLeftByWholeTrain 9 = .ok (.if_icmp .eq 31, 3) := by decide +kernel
theorem dH_wasLeftByWholeTrain_12 : decode cH_wasLeftByWholeTrain 12 = .ok (.aload_n 0, 1) := by decide +kernel
theorem dH_wasLeftByWholeTrain_13 : decode cH_wasLeftByWholeTrain 13 = .ok (.getfield 11, 3) := by decide +kernel
theorem dH_wasLeftByWholeTrain_16 : decode cH_wasLeftByWholeTrain 16 = .ok (.iload_n 2, 1) := by decide +kernel
theorem dH_wasLeftByWholeTrain_17 : decode cH_wasLeftByWholeTrain 17 = .ok (.aaload, 1) := by decide +kernel
theorem dH_wasLeftByWholeTrain_18 : decode cH_wasLeftByWholeTrain 18 = .ok (.getfield 163, 3) := by decide +kernel
theorem dH_wasLeftByWholeTrain_21 : decode cH_wasLeftByWholeTrain 21 = .ok (.ifCond .ne 19, 3) := by decide +kernel
theorem dH_wasLeftByWholeTrain_24 : decode cH_wasLeftByWholeTrain 24 = .ok (.aload_n 0, 1) := by decide +kernel
theorem dH_wasLeftByWholeTrain_25 : decode cH_wasLeftByWholeTrain 25 = .ok (.getfield 11, 3) := by decide +kernel
theorem dH_wasLeftByWholeTrain_28 : decode cH_wasLeftByWholeTrain 28 = .ok (.iload_n 2, 1) := by decide +kernel
theorem dH_wasLeftByWholeTrain_29 : decode cH_wasLeftByWholeTrain 29 = .ok (.aaload, 1) := by decide +kernel
theorem dH_wasLeftByWholeTrain_30 : decode cH_wasLeftByWholeTrain 30 = .ok (.getfield 122, 3) := by decide +kernel
theorem dH_wasLeftByWholeTrain_33 : decode cH_wasLeftByWholeTrain 33 = .ok (.ifCond .eq 7, 3) := by decide +kernel
theorem dH_wasLeftByWholeTrain_36 : decode cH_wasLeftByWholeTrain 36 = .ok (.iconst 1, 1) := by decide +kernel
theorem dH_wasLeftByWholeTrain_37 : decode cH_wasLeftByWholeTrain 37 = .ok (.goto 4, 3) := by decide +kernel
theorem dH_wasLeftByWholeTrain_40 : decode cH_wasLeftByWholeTrain 40 = .ok (.iconst 0, 1) := by decide +kernel
theorem dH_wasLeftByWholeTrain_41 : decode cH_wasLeftByWholeTrain 41 = .ok (.ireturn, 1) := by decide +kernel
