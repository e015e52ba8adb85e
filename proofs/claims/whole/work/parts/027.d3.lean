theorem rs_d_36_0 : decode (rs_cd 36) 0 = .ok (.aload_n 0, 1) := by decide +kernel
theorem rs_d_36_1 : decode (rs_cd 36) 1 = .ok (.getfield 25, 3) := by decide +kernel
theorem rs_f_36_25 : rs_fd 36 25 = some (7, 2, 2) := by decide +kernel
theorem rs_d_36_4 : decode (rs_cd 36) 4 = .ok (.iload_n 1, 1) := by decide +kernel
theorem rs_d_36_5 : decode (rs_cd 36) 5 = .ok (.invokevirtual 91, 3) := by decide +kernel
theorem rs_t_36_91 : rs_tg 36 91 = some 0 := by decide +kernel
theorem rs_d_36_8 : decode (rs_cd 36) 8 = .ok (.ifCond .eq 19, 3) := by decide +kernel
theorem rs_d_36_11 : decode (rs_cd 36) 11 = .ok (.aload_n 0, 1) := by decide +kernel
theorem rs_d_36_12 : decode (rs_cd 36) 12 = .ok (.getfield 25, 3) := by decide +kernel
theorem rs_d_36_15 : decode (rs_cd 36) 15 = .ok (.getfield 81, 3) := by decide +kernel
theorem rs_f_36_81 : rs_fd 36 81 = some (1, 0, 2) := by decide +kernel
theorem rs_d_36_18 : decode (rs_cd 36) 18 = .ok (.iload_n 1, 1) := by decide +kernel
theorem rs_d_36_19 : decode (rs_cd 36) 19 = .ok (.aaload, 1) := by decide +kernel
theorem rs_d_36_20 : decode (rs_cd 36) 20 = .ok (.getfield 95, 3) := by decide +kernel
theorem rs_f_36_95 : rs_fd 36 95 = some (3, 5, 1) := by decide +kernel
theorem rs_d_36_23 : decode (rs_cd 36) 23 = .ok (.iload_n 2, 1) := by decide +kernel
theorem rs_d_36_24 : decode (rs_cd 36) 24 = .ok (.if_icmp .ne 5, 3) := by decide +kernel
theorem rs_d_36_27 : decode (rs_cd 36) 27 = .ok (.iconst 0, 1) := by decide +kernel
theorem rs_d_36_28 : decode (rs_cd 36) 28 = .ok (.ireturn, 1) := by decide +kernel
theorem rs_d_36_29 : decode (rs_cd 36) 29 = .ok (.aload_n 0, 1) := by decide +kernel
theorem rs_d_36_30 : decode (rs_cd 36) 30 = .ok (.getfield 25, 3) := by decide +kernel
theorem rs_d_36_33 : decode (rs_cd 36) 33 = .ok (.getfield 81, 3) := by decide +kernel
theorem rs_d_36_36 : decode (rs_cd 36) 36 = .ok (.iload_n 1, 1) := by decide +kernel
theorem rs_d_36_37 : decode (rs_cd 36) 37 = .ok (.aaload, 1) := by decide +kernel
theorem rs_d_36_38 : decode (rs_cd 36) 38 = .ok (.iload_n 2, 1) := by decide +kernel
theorem rs_d_36_39 : decode (rs_cd 36) 39 = .ok (.putfield 95, 3) := by decide +kernel
theorem rs_d_36_42 : decode (rs_cd 36) 42 = .ok (.iconst 1, 1) := by decide +kernel
theorem rs_d_36_43 : decode (rs_cd 36) 43 = .ok (.ireturn, 1) := by decide +kernel
theorem rs_d_37_0 : decode (rs_cd 37) 0 = .ok (.iload_n 1, 1) := by decide +kernel
theorem rs_d_37_1 : decode (rs_cd 37) 1 = .ok (.invokestatic 99, 3) := by decide +kernel
theorem rs_t_37_99 : rs_tg 37 99 = some 52 := by decide +kernel
theorem rs_d_37_4 : decode (rs_cd 37) 4 = .ok (.ifCond .eq 36, 3) := by decide +kernel
theorem rs_d_37_7 : decode (rs_cd 37) 7 = .ok (.iload_n 2, 1) := by decide +kernel
theorem rs_d_37_8 : decode (rs_cd 37) 8 = .ok (.iload_n 2, 1) := by decide +kernel
theorem rs_d_37_9 : decode (rs_cd 37) 9 = .ok (.invokestatic 43, 3) := by decide +kernel
theorem rs_t_37_43 : rs_tg 37 43 = some 53 := by decide +kernel
theorem rs_d_37_12 : decode (rs_cd 37) 12 = .ok (.ifCond .eq 28, 3) := by decide +kernel
theorem rs_d_37_15 : decode (rs_cd 37) 15 = .ok (.iload_n 3, 1) := by decide +kernel
theorem rs_d_37_16 : decode (rs_cd 37) 16 = .ok (.iload_n 3, 1) := by decide +kernel
theorem rs_d_37_17 : decode (rs_cd 37) 17 = .ok (.invokestatic 43, 3) := by decide +kernel
theorem rs_d_37_20 : decode (rs_cd 37) 20 = .ok (.ifCond .eq 20, 3) := by decide +kernel
theorem rs_d_37_23 : decode (rs_cd 37) 23 = .ok (.aload_n 0, 1) := by decide +kernel
theorem rs_d_37_24 : decode (rs_cd 37) 24 = .ok (.getfield 25, 3) := by decide +kernel
theorem rs_f_37_25 : rs_fd 37 25 = some (7, 2, 2) := by decide +kernel
theorem rs_d_37_27 : decode (rs_cd 37) 27 = .ok (.getfield 102, 3) := by decide +kernel
theorem rs_f_37_102 : rs_fd 37 102 = some (1, 1, 2) := by decide +kernel
theorem rs_d_37_30 : decode (rs_cd 37) 30 = .ok (.iload_n 1, 1) := by decide +kernel
theorem rs_d_37_31 : decode (rs_cd 37) 31 = .ok (.aaload, 1) := by decide +kernel
theorem rs_d_37_32 : decode (rs_cd 37) 32 = .ok (.getfield 106, 3) := by decide +kernel
theorem rs_f_37_106 : rs_fd 37 106 = some (6, 2, 0) := by decide +kernel
theorem rs_d_37_35 : decode (rs_cd 37) 35 = .ok (.bipush 10, 2) := by decide +kernel
theorem rs_d_37_37 : decode (rs_cd 37) 37 = .ok (.if_icmp .lt 5, 3) := by decide +kernel
theorem rs_d_37_40 : decode (rs_cd 37) 40 = .ok (.iconst 0, 1) := by decide +kernel
theorem rs_d_37_41 : decode (rs_cd 37) 41 = .ok (.ireturn, 1) := by decide +kernel
theorem rs_d_37_42 : decode (rs_cd 37) 42 = .ok (.aload_n 0, 1) := by decide +kernel
theorem rs_d_37_43 : decode (rs_cd 37) 43 = .ok (.getfield 25, 3) := by decide +kernel
theorem rs_d_37_46 : decode (rs_cd 37) 46 = .ok (.getfield 102, 3) := by decide +kernel
theorem rs_d_37_49 : decode (rs_cd 37) 49 = .ok (.iload_n 1, 1) := by decide +kernel
theorem rs_d_37_50 : decode (rs_cd 37) 50 = .ok (.aaload, 1) := by decide +kernel
theorem rs_d_37_51 : decode (rs_cd 37) 51 = .ok (.astore 4, 2) := by decide +kernel
theorem rs_d_37_53 : decode (rs_cd 37) 53 = .ok (.aload 4, 2) := by decide +kernel
theorem rs_d_37_55 : decode (rs_cd 37) 55 = .ok (.getfield 111, 3) := by decide +kernel
theorem rs_f_37_111 : rs_fd 37 111 = some (6, 0, 2) := by decide +kernel
theorem rs_d_37_58 : decode (rs_cd 37) 58 = .ok (.aload 4, 2) := by decide +kernel
theorem rs_d_37_60 : decode (rs_cd 37) 60 = .ok (.getfield 106, 3) := by decide +kernel
theorem rs_d_37_63 : decode (rs_cd 37) 63 = .ok (.iload_n 2, 1) := by decide +kernel
theorem rs_d_37_64 : decode (rs_cd 37) 64 = .ok (.iastore, 1) := by decide +kernel
theorem rs_d_37_65 : decode (rs_cd 37) 65 = .ok (.aload 4, 2) := by decide +kernel
theorem rs_d_37_67 : decode (rs_cd 37) 67 = .ok (.getfield 114, 3) := by decide +kernel
theorem rs_f_37_114 : rs_fd 37 114 = some (6, 1, 2) := by decide +kernel
theorem rs_d_37_70 : decode (rs_cd 37) 70 = .ok (.aload 4, 2) := by decide +kernel
theorem rs_d_37_72 : decode (rs_cd 37) 72 = .ok (.getfield 106, 3) := by decide +kernel
theorem rs_d_37_75 : decode (rs_cd 37) 75 = .ok (.iload_n 3, 1) := by decide +kernel
theorem rs_d_37_76 : decode (rs_cd 37) 76 = .ok (.iastore, 1) := by decide +kernel
theorem rs_d_37_77 : decode (rs_cd 37) 77 = .ok (.aload 4, 2) := by decide +kernel
theorem rs_d_37_79 : decode (rs_cd 37) 79 = .ok (.dup, 1) := by decide +kernel
theorem rs_d_37_80 : decode (rs_cd 37) 80 = .ok (.getfield 106, 3) := by decide +kernel
theorem rs_d_37_83 : decode (rs_cd 37) 83 = .ok (.iconst 1, 1) := by decide +kernel
theorem rs_d_37_84 : decode (rs_cd 37) 84 = .ok (.iadd, 1) := by decide +kernel
theorem rs_d_37_85 : decode (rs_cd 37) 85 = .ok (.putfield 106, 3) := by decide +kernel
theorem rs_d_37_88 : decode (rs_cd 37) 88 = .ok (.aload 4, 2) := by decide +kernel
theorem rs_d_37_90 : decode (rs_cd 37) 90 = .ok (.getfield 106, 3) := by decide +kernel
theorem rs_d_37_93 : decode (rs_cd 37) 93 = .ok (.ireturn, 1) := by decide +kernel
theorem rs_d_38_0 : decode (rs_cd 38) 0 = .ok (.aload_n 0, 1) := by decide +kernel
theorem rs_d_38_1 : decode (rs_cd 38) 1 = .ok (.iload_n 1, 1) := by decide +kernel
theorem rs_d_38_2 : decode (rs_cd 38) 2 = .ok (.invokevirtual 117, 3) := by decide +kernel
theorem rs_t_38_117 : rs_tg 38 117 = some 51 := by decide +kernel
theorem rs_d_38_5 : decode (rs_cd 38) 5 = .ok (.ifCond .eq 11, 3) := by decide +kernel
theorem rs_d_38_8 : decode (rs_cd 38) 8 = .ok (.iload_n 2, 1) := by decide +kernel
theorem rs_d_38_9 : decode (rs_cd 38) 9 = .ok (.iload_n 3, 1) := by decide +kernel
theorem rs_d_38_10 : decode (rs_cd 38) 10 = .ok (.invokestatic 43, 3) := by decide +kernel
theorem rs_t_38_43 : rs_tg 38 43 = some 53 := by decide +kernel
theorem rs_d_38_13 : decode (rs_cd 38) 13 = .ok (.ifCond .ne 13, 3) := by decide +kernel
theorem rs_d_38_16 : decode (rs_cd 38) 16 = .ok (.new 47, 3) := by decide +kernel
theorem rs_d_38_19 : decode (rs_cd 38) 19 = .ok (.dup, 1) := by decide +kernel
theorem rs_d_38_20 : decode (rs_cd 38) 20 = .ok (.ldc 120, 2) := by decide +kernel
theorem rs_d_38_22 : decode (rs_cd 38) 22 = .ok (.invokespecial 51, 3) := by decide +kernel
theorem rs_d_38_25 : decode (rs_cd 38) 25 = .ok (.athrow, 1) := by decide +kernel
theorem rs_d_38_26 : decode (rs_cd 38) 26 = .ok (.aload_n 0, 1) := by decide +kernel
theorem rs_d_38_27 : decode (rs_cd 38) 27 = .ok (.getfield 122, 3) := by decide +kernel
theorem rs_f_38_122 : rs_fd 38 122 = some (7, 7, 0) := by decide +kernel
theorem rs_d_38_30 : decode (rs_cd 38) 30 = .ok (.bipush 12, 2) := by decide +kernel
theorem rs_d_38_32 : decode (rs_cd 38) 32 = .ok (.if_icmp .lt 13, 3) := by decide +kernel
theorem rs_d_38_35 : decode (rs_cd 38) 35 = .ok (.new 58, 3) := by decide +kernel
theorem rs_d_38_38 : decode (rs_cd 38) 38 = .ok (.dup, 1) := by decide +kernel
theorem rs_d_38_39 : decode (rs_cd 38) 39 = .ok (.ldc 125, 2) := by decide +kernel
theorem rs_d_38_41 : decode (rs_cd 38) 41 = .ok (.invokespecial 62, 3) := by decide +kernel
theorem rs_d_38_44 : decode (rs_cd 38) 44 = .ok (.athrow, 1) := by decide +kernel
theorem rs_d_38_45 : decode (rs_cd 38) 45 = .ok (.aload_n 0, 1) := by decide +kernel
theorem rs_d_38_46 : decode (rs_cd 38) 46 = .ok (.getfield 18, 3) := by decide +kernel
theorem rs_f_38_18 : rs_fd 38 18 = some (7, 1, 2) := by decide +kernel
theorem rs_d_38_49 : decode (rs_cd 38) 49 = .ok (.aload_n 0, 1) := by decide +kernel
theorem rs_d_38_50 : decode (rs_cd 38) 50 = .ok (.getfield 122, 3) := by decide +kernel
theorem rs_d_38_53 : decode (rs_cd 38) 53 = .ok (.aaload, 1) := by decide +kernel
theorem rs_d_38_54 : decode (rs_cd 38) 54 = .ok (.astore 4, 2) := by decide +kernel
theorem rs_d_38_56 : decode (rs_cd 38) 56 = .ok (.aload 4, 2) := by decide +kernel
theorem rs_d_38_58 : decode (rs_cd 38) 58 = .ok (.iload_n 1, 1) := by decide +kernel
theorem rs_d_38_59 : decode (rs_cd 38) 59 = .ok (.putfield 127, 3) := by decide +kernel
theorem rs_f_38_127 : rs_fd 38 127 = some (0, 0, 0) := by decide +kernel
theorem rs_d_38_62 : decode (rs_cd 38) 62 = .ok (.aload 4, 2) := by decide +kernel
theorem rs_d_38_64 : decode (rs_cd 38) 64 = .ok (.iload_n 2, 1) := by decide +kernel
theorem rs_d_38_65 : decode (rs_cd 38) 65 = .ok (.putfield 130, 3) := by decide +kernel
theorem rs_f_38_130 : rs_fd 38 130 = some (0, 1, 0) := by decide +kernel
theorem rs_d_38_68 : decode (rs_cd 38) 68 = .ok (.aload 4, 2) := by decide +kernel
theorem rs_d_38_70 : decode (rs_cd 38) 70 = .ok (.iload_n 3, 1) := by decide +kernel
theorem rs_d_38_71 : decode (rs_cd 38) 71 = .ok (.putfield 132, 3) := by decide +kernel
theorem rs_f_38_132 : rs_fd 38 132 = some (0, 2, 0) := by decide +kernel
theorem rs_d_38_74 : decode (rs_cd 38) 74 = .ok (.aload 4, 2) := by decide +kernel
theorem rs_d_38_76 : decode (rs_cd 38) 76 = .ok (.iconst 1, 1) := by decide +kernel
theorem rs_d_38_77 : decode (rs_cd 38) 77 = .ok (.putfield 134, 3) := by decide +kernel
theorem rs_f_38_134 : rs_fd 38 134 = some (0, 3, 1) := by decide +kernel
theorem rs_d_38_80 : decode (rs_cd 38) 80 = .ok (.aload_n 0, 1) := by decide +kernel
theorem rs_d_38_81 : decode (rs_cd 38) 81 = .ok (.dup, 1) := by decide +kernel
theorem rs_d_38_82 : decode (rs_cd 38) 82 = .ok (.getfield 122, 3) := by decide +kernel
theorem rs_d_38_85 : decode (rs_cd 38) 85 = .ok (.iconst 1, 1) := by decide +kernel
theorem rs_d_38_86 : decode (rs_cd 38) 86 = .ok (.iadd, 1) := by decide +kernel
theorem rs_d_38_87 : decode (rs_cd 38) 87 = .ok (.putfield 122, 3) := by decide +kernel
theorem rs_d_38_90 : decode (rs_cd 38) 90 = .ok (.aload_n 0, 1) := by decide +kernel
theorem rs_d_38_91 : decode (rs_cd 38) 91 = .ok (.getfield 122, 3) := by decide +kernel
theorem rs_d_38_94 : decode (rs_cd 38) 94 = .ok (.iconst 1, 1) := by decide +kernel
theorem rs_d_38_95 : decode (rs_cd 38) 95 = .ok (.isub, 1) := by decide +kernel
theorem rs_d_38_96 : decode (rs_cd 38) 96 = .ok (.ireturn, 1) := by decide +kernel
theorem rs_d_39_0 : decode (rs_cd 39) 0 = .ok (.iload_n 1, 1) := by decide +kernel
theorem rs_d_39_1 : decode (rs_cd 39) 1 = .ok (.ifCond .lt 24, 3) := by decide +kernel
theorem rs_d_39_4 : decode (rs_cd 39) 4 = .ok (.iload_n 1, 1) := by decide +kernel
theorem rs_d_39_5 : decode (rs_cd 39) 5 = .ok (.aload_n 0, 1) := by decide +kernel
theorem rs_d_39_6 : decode (rs_cd 39) 6 = .ok (.getfield 122, 3) := by decide +kernel
theorem rs_f_39_122 : rs_fd 39 122 = some (7, 7, 0) := by decide +kernel
theorem rs_d_39_9 : decode (rs_cd 39) 9 = .ok (.if_icmp .ge 16, 3) := by decide +kernel
theorem rs_d_39_12 : decode (rs_cd 39) 12 = .ok (.aload_n 0, 1) := by decide +kernel
theorem rs_d_39_13 : decode (rs_cd 39) 13 = .ok (.getfield 18, 3) := by decide +kernel
theorem rs_f_39_18 : rs_fd 39 18 = some (7, 1, 2) := by decide +kernel
theorem rs_d_39_16 : decode (rs_cd 39) 16 = .ok (.iload_n 1, 1) := by decide +kernel
theorem rs_d_39_17 : decode (rs_cd 39) 17 = .ok (.aaload, 1) := by decide +kernel
theorem rs_d_39_18 : decode (rs_cd 39) 18 = .ok (.getfield 134, 3) := by decide +kernel
theorem rs_f_39_134 : rs_fd 39 134 = some (0, 3, 1) := by decide +kernel
theorem rs_d_39_21 : decode (rs_cd 39) 21 = .ok (.iload_n 2, 1) := by decide +kernel
theorem rs_d_39_22 : decode (rs_cd 39) 22 = .ok (.if_icmp .ne 5, 3) := by decide +kernel
theorem rs_d_39_25 : decode (rs_cd 39) 25 = .ok (.iconst 0, 1) := by decide +kernel
theorem rs_d_39_26 : decode (rs_cd 39) 26 = .ok (.ireturn, 1) := by decide +kernel
theorem rs_d_39_27 : decode (rs_cd 39) 27 = .ok (.aload_n 0, 1) := by decide +kernel
theorem rs_d_39_28 : decode (rs_cd 39) 28 = .ok (.getfield 18, 3) := by decide +kernel
theorem rs_d_39_31 : decode (rs_cd 39) 31 = .ok (.iload_n 1, 1) := by decide +kernel
theorem rs_d_39_32 : decode (rs_cd 39) 32 = .ok (.aaload, 1) := by decide +kernel
theorem rs_d_39_33 : decode (rs_cd 39) 33 = .ok (.iload_n 2, 1) := by decide +kernel
theorem rs_d_39_34 : decode (rs_cd 39) 34 = .ok (.putfield 134, 3) := by decide +kernel
theorem rs_d_39_37 : decode (rs_cd 39) 37 = .ok (.iconst 1, 1) := by decide +kernel
theorem rs_d_39_38 : decode (rs_cd 39) 38 = .ok (.ireturn, 1) := by decide +kernel
theorem rs_d_40_0 : decode (rs_cd 40) 0 = .ok (.aload_n 0, 1) := by decide +kernel
theorem rs_d_40_1 : decode (rs_cd 40) 1 = .ok (.aload_n 0, 1) := by decide +kernel
theorem rs_d_40_2 : decode (rs_cd 40) 2 = .ok (.invokevirtual 137, 3) := by decide +kernel
theorem rs_t_40_137 : rs_tg 40 137 = some 56 := by decide +kernel
theorem rs_d_40_5 : decode (rs_cd 40) 5 = .ok (.aload_n 0, 1) := by decide +kernel
theorem rs_d_40_6 : decode (rs_cd 40) 6 = .ok (.getfield 36, 3) := by decide +kernel
theorem rs_f_40_36 : rs_fd 40 36 = some (7, 4, 2) := by decide +kernel
theorem rs_d_40_9 : decode (rs_cd 40) 9 = .ok (.invokevirtual 141, 3) := by decide +kernel
theorem rs_t_40_141 : rs_tg 40 141 = some 57 := by decide +kernel
theorem rs_d_40_12 : decode (rs_cd 40) 12 = .ok (.aload_n 0, 1) := by decide +kernel
theorem rs_d_40_13 : decode (rs_cd 40) 13 = .ok (.getfield 25, 3) := by decide +kernel
theorem rs_f_40_25 : rs_fd 40 25 = some (7, 2, 2) := by decide +kernel
theorem rs_d_40_16 : decode (rs_cd 40) 16 = .ok (.aload_n 0, 1) := by decide +kernel
theorem rs_d_40_17 : decode (rs_cd 40) 17 = .ok (.getfield 36, 3) := by decide +kernel
theorem rs_d_40_20 : decode (rs_cd 40) 20 = .ok (.invokevirtual 145, 3) := by decide +kernel
theorem rs_t_40_145 : rs_tg 40 145 = some 5 := by decide +kernel
theorem rs_d_40_23 : decode (rs_cd 40) 23 = .ok (.aload_n 0, 1) := by decide +kernel
theorem rs_d_40_24 : decode (rs_cd 40) 24 = .ok (.aload_n 0, 1) := by decide +kernel
theorem rs_d_40_25 : decode (rs_cd 40) 25 = .ok (.getfield 36, 3) := by decide +kernel
theorem rs_d_40_28 : decode (rs_cd 40) 28 = .ok (.getfield 149, 3) := by decide +kernel
theorem rs_f_40_149 : rs_fd 40 149 = some (2, 3, 1) := by decide +kernel
theorem rs_d_40_31 : decode (rs_cd 40) 31 = .ok (.ifCond .eq 7, 3) := by decide +kernel
theorem rs_d_40_34 : decode (rs_cd 40) 34 = .ok (.iconst 0, 1) := by decide +kernel
theorem rs_d_40_35 : decode (rs_cd 40) 35 = .ok (.goto 7, 3) := by decide +kernel
theorem rs_d_40_38 : decode (rs_cd 40) 38 = .ok (.aload_n 0, 1) := by decide +kernel
theorem rs_d_40_39 : decode (rs_cd 40) 39 = .ok (.getfield 54, 3) := by decide +kernel
theorem rs_f_40_54 : rs_fd 40 54 = some (7, 6, 0) := by decide +kernel
theorem rs_d_40_42 : decode (rs_cd 40) 42 = .ok (.putfield 152, 3) := by decide +kernel
theorem rs_f_40_152 : rs_fd 40 152 = some (7, 8, 0) := by decide +kernel
theorem rs_d_40_45 : decode (rs_cd 40) 45 = .ok (.aload_n 0, 1) := by decide +kernel
theorem rs_d_40_46 : decode (rs_cd 40) 46 = .ok (.getfield 36, 3) := by decide +kernel
theorem rs_d_40_49 : decode (rs_cd 40) 49 = .ok (.getfield 149, 3) := by decide +kernel
theorem rs_d_40_52 : decode (rs_cd 40) 52 = .ok (.ifCond .ne 7, 3) := by decide +kernel
theorem rs_d_40_55 : decode (rs_cd 40) 55 = .ok (.iconst 1, 1) := by decide +kernel
theorem rs_d_40_56 : decode (rs_cd 40) 56 = .ok (.goto 4, 3) := by decide +kernel
theorem rs_d_40_59 : decode (rs_cd 40) 59 = .ok (.iconst 0, 1) := by decide +kernel
theorem rs_d_40_60 : decode (rs_cd 40) 60 = .ok (.ireturn, 1) := by decide +kernel
theorem rs_d_41_0 : decode (rs_cd 41) 0 = .ok (.iload_n 1, 1) := by decide +kernel
theorem rs_d_41_1 : decode (rs_cd 41) 1 = .ok (.ifCond .lt 23, 3) := by decide +kernel
theorem rs_d_41_4 : decode (rs_cd 41) 4 = .ok (.iload_n 1, 1) := by decide +kernel
theorem rs_d_41_5 : decode (rs_cd 41) 5 = .ok (.aload_n 0, 1) := by decide +kernel
theorem rs_d_41_6 : decode (rs_cd 41) 6 = .ok (.getfield 152, 3) := by decide +kernel
theorem rs_f_41_152 : rs_fd 41 152 = some (7, 8, 0) := by decide +kernel
theorem rs_d_41_9 : decode (rs_cd 41) 9 = .ok (.if_icmp .ge 15, 3) := by decide +kernel
theorem rs_d_41_12 : decode (rs_cd 41) 12 = .ok (.aload_n 0, 1) := by decide +kernel
theorem rs_d_41_13 : decode (rs_cd 41) 13 = .ok (.getfield 36, 3) := by decide +kernel
theorem rs_f_41_36 : rs_fd 41 36 = some (7, 4, 2) := by decide +kernel
theorem rs_d_41_16 : decode (rs_cd 41) 16 = .ok (.getfield 63, 3) := by decide +kernel
theorem rs_f_41_63 : rs_fd 41 63 = some (2, 0, 2) := by decide +kernel
theorem rs_d_41_19 : decode (rs_cd 41) 19 = .ok (.iload_n 1, 1) := by decide +kernel
theorem rs_d_41_20 : decode (rs_cd 41) 20 = .ok (.iaload, 1) := by decide +kernel
theorem rs_d_41_21 : decode (rs_cd 41) 21 = .ok (.goto 6, 3) := by decide +kernel
theorem rs_d_41_24 : decode (rs_cd 41) 24 = .ok (.sipush (-1000), 3) := by decide +kernel
theorem rs_d_41_27 : decode (rs_cd 41) 27 = .ok (.ireturn, 1) := by decide +kernel
theorem rs_d_42_0 : decode (rs_cd 42) 0 = .ok (.iload_n 1, 1) := by decide +kernel
theorem rs_d_42_1 : decode (rs_cd 42) 1 = .ok (.ifCond .lt 23, 3) := by decide +kernel
theorem rs_d_42_4 : decode (rs_cd 42) 4 = .ok (.iload_n 1, 1) := by decide +kernel
theorem rs_d_42_5 : decode (rs_cd 42) 5 = .ok (.aload_n 0, 1) := by decide +kernel
theorem rs_d_42_6 : decode (rs_cd 42) 6 = .ok (.getfield 152, 3) := by decide +kernel
theorem rs_f_42_152 : rs_fd 42 152 = some (7, 8, 0) := by decide +kernel
theorem rs_d_42_9 : decode (rs_cd 42) 9 = .ok (.if_icmp .ge 15, 3) := by decide +kernel
theorem rs_d_42_12 : decode (rs_cd 42) 12 = .ok (.aload_n 0, 1) := by decide +kernel
theorem rs_d_42_13 : decode (rs_cd 42) 13 = .ok (.getfield 36, 3) := by decide +kernel
theorem rs_f_42_36 : rs_fd 42 36 = some (7, 4, 2) := by decide +kernel
theorem rs_d_42_16 : decode (rs_cd 42) 16 = .ok (.getfield 67, 3) := by decide +kernel
theorem rs_f_42_67 : rs_fd 42 67 = some (2, 1, 2) := by decide +kernel
theorem rs_d_42_19 : decode (rs_cd 42) 19 = .ok (.iload_n 1, 1) := by decide +kernel
theorem rs_d_42_20 : decode (rs_cd 42) 20 = .ok (.iaload, 1) := by decide +kernel
theorem rs_d_42_21 : decode (rs_cd 42) 21 = .ok (.goto 6, 3) := by decide +kernel
theorem rs_d_42_24 : decode (rs_cd 42) 24 = .ok (.sipush (-1000), 3) := by decide +kernel
theorem rs_d_42_27 : decode (rs_cd 42) 27 = .ok (.ireturn, 1) := by decide +kernel
theorem rs_d_43_0 : decode (rs_cd 43) 0 = .ok (.aload_n 0, 1) := by decide +kernel
theorem rs_d_43_1 : decode (rs_cd 43) 1 = .ok (.invokevirtual 137, 3) := by decide +kernel
theorem rs_t_43_137 : rs_tg 43 137 = some 56 := by decide +kernel
theorem rs_d_43_4 : decode (rs_cd 43) 4 = .ok (.istore_n 1, 1) := by decide +kernel
theorem rs_d_43_5 : decode (rs_cd 43) 5 = .ok (.aload_n 0, 1) := by decide +kernel
theorem rs_d_43_6 : decode (rs_cd 43) 6 = .ok (.iload_n 1, 1) := by decide +kernel
theorem rs_d_43_7 : decode (rs_cd 43) 7 = .ok (.aload_n 0, 1) := by decide +kernel
theorem rs_d_43_8 : decode (rs_cd 43) 8 = .ok (.getfield 39, 3) := by decide +kernel
theorem rs_f_43_39 : rs_fd 43 39 = some (7, 5, 2) := by decide +kernel
theorem rs_d_43_11 : decode (rs_cd 43) 11 = .ok (.invokevirtual 141, 3) := by decide +kernel
theorem rs_t_43_141 : rs_tg 43 141 = some 57 := by decide +kernel
theorem rs_d_43_14 : decode (rs_cd 43) 14 = .ok (.aload_n 0, 1) := by decide +kernel
theorem rs_d_43_15 : decode (rs_cd 43) 15 = .ok (.getfield 25, 3) := by decide +kernel
theorem rs_f_43_25 : rs_fd 43 25 = some (7, 2, 2) := by decide +kernel
theorem rs_d_43_18 : decode (rs_cd 43) 18 = .ok (.aload_n 0, 1) := by decide +kernel
theorem rs_d_43_19 : decode (rs_cd 43) 19 = .ok (.getfield 39, 3) := by decide +kernel
theorem rs_d_43_22 : decode (rs_cd 43) 22 = .ok (.invokevirtual 145, 3) := by decide +kernel
theorem rs_t_43_145 : rs_tg 43 145 = some 5 := by decide +kernel
theorem rs_d_43_25 : decode (rs_cd 43) 25 = .ok (.aload_n 0, 1) := by decide +kernel
theorem rs_d_43_26 : decode (rs_cd 43) 26 = .ok (.getfield 39, 3) := by decide +kernel
theorem rs_d_43_29 : decode (rs_cd 43) 29 = .ok (.getfield 149, 3) := by decide +kernel
theorem rs_f_43_149 : rs_fd 43 149 = some (2, 3, 1) := by decide +kernel
theorem rs_d_43_32 : decode (rs_cd 43) 32 = .ok (.ifCond .eq 16, 3) := by decide +kernel
theorem rs_d_43_35 : decode (rs_cd 43) 35 = .ok (.aload_n 0, 1) := by decide +kernel
theorem rs_d_43_36 : decode (rs_cd 43) 36 = .ok (.iload_n 1, 1) := by decide +kernel
theorem rs_d_43_37 : decode (rs_cd 43) 37 = .ok (.iconst 0, 1) := by decide +kernel
theorem rs_d_43_38 : decode (rs_cd 43) 38 = .ok (.iconst 0, 1) := by decide +kernel
theorem rs_d_43_39 : decode (rs_cd 43) 39 = .ok (.sipush (-1000), 3) := by decide +kernel
theorem rs_d_43_42 : decode (rs_cd 43) 42 = .ok (.invokevirtual 155, 3) := by decide +kernel
theorem rs_t_43_155 : rs_tg 43 155 = some 58 := by decide +kernel
theorem rs_d_43_45 : decode (rs_cd 43) 45 = .ok (.goto 6, 3) := by decide +kernel
theorem rs_d_43_48 : decode (rs_cd 43) 48 = .ok (.sipush (-1000), 3) := by decide +kernel
theorem rs_d_43_51 : decode (rs_cd 43) 51 = .ok (.ireturn, 1) := by decide +kernel
theorem rs_d_44_0 : decode (rs_cd 44) 0 = .ok (.aload_n 0, 1) := by decide +kernel
theorem rs_d_44_1 : decode (rs_cd 44) 1 = .ok (.iload_n 1, 1) := by decide +kernel
theorem rs_d_44_2 : decode (rs_cd 44) 2 = .ok (.invokevirtual 117, 3) := by decide +kernel
theorem rs_t_44_117 : rs_tg 44 117 = some 51 := by decide +kernel
theorem rs_d_44_5 : decode (rs_cd 44) 5 = .ok (.ifCond .ne 13, 3) := by decide +kernel
theorem rs_d_44_8 : decode (rs_cd 44) 8 = .ok (.new 47, 3) := by decide +kernel
theorem rs_d_44_11 : decode (rs_cd 44) 11 = .ok (.dup, 1) := by decide +kernel
theorem rs_d_44_12 : decode (rs_cd 44) 12 = .ok (.ldc 159, 2) := by decide +kernel
theorem rs_d_44_14 : decode (rs_cd 44) 14 = .ok (.invokespecial 51, 3) := by decide +kernel
theorem rs_d_44_17 : decode (rs_cd 44) 17 = .ok (.athrow, 1) := by decide +kernel
theorem rs_d_44_18 : decode (rs_cd 44) 18 = .ok (.aload_n 0, 1) := by decide +kernel
theorem rs_d_44_19 : decode (rs_cd 44) 19 = .ok (.invokevirtual 137, 3) := by decide +kernel
theorem rs_t_44_137 : rs_tg 44 137 = some 56 := by decide +kernel
theorem rs_d_44_22 : decode (rs_cd 44) 22 = .ok (.istore_n 3, 1) := by decide +kernel
theorem rs_d_44_23 : decode (rs_cd 44) 23 = .ok (.aload_n 0, 1) := by decide +kernel
theorem rs_d_44_24 : decode (rs_cd 44) 24 = .ok (.iload_n 3, 1) := by decide +kernel
theorem rs_d_44_25 : decode (rs_cd 44) 25 = .ok (.aload_n 0, 1) := by decide +kernel
theorem rs_d_44_26 : decode (rs_cd 44) 26 = .ok (.getfield 39, 3) := by decide +kernel
theorem rs_f_44_39 : rs_fd 44 39 = some (7, 5, 2) := by decide +kernel
theorem rs_d_44_29 : decode (rs_cd 44) 29 = .ok (.invokevirtual 141, 3) := by decide +kernel
theorem rs_t_44_141 : rs_tg 44 141 = some 57 := by decide +kernel
theorem rs_d_44_32 : decode (rs_cd 44) 32 = .ok (.aload_n 0, 1) := by decide +kernel
theorem rs_d_44_33 : decode (rs_cd 44) 33 = .ok (.getfield 25, 3) := by decide +kernel
theorem rs_f_44_25 : rs_fd 44 25 = some (7, 2, 2) := by decide +kernel
theorem rs_d_44_36 : decode (rs_cd 44) 36 = .ok (.aload_n 0, 1) := by decide +kernel
theorem rs_d_44_37 : decode (rs_cd 44) 37 = .ok (.getfield 39, 3) := by decide +kernel
theorem rs_d_44_40 : decode (rs_cd 44) 40 = .ok (.invokevirtual 145, 3) := by decide +kernel
theorem rs_t_44_145 : rs_tg 44 145 = some 5 := by decide +kernel
theorem rs_d_44_43 : decode (rs_cd 44) 43 = .ok (.aload_n 0, 1) := by decide +kernel
theorem rs_d_44_44 : decode (rs_cd 44) 44 = .ok (.getfield 39, 3) := by decide +kernel
theorem rs_d_44_47 : decode (rs_cd 44) 47 = .ok (.getfield 149, 3) := by decide +kernel
theorem rs_f_44_149 : rs_fd 44 149 = some (2, 3, 1) := by decide +kernel
theorem rs_d_44_50 : decode (rs_cd 44) 50 = .ok (.ifCond .eq 9, 3) := by decide +kernel
theorem rs_d_44_53 : decode (rs_cd 44) 53 = .ok (.sipush (-1000), 3) := by decide +kernel
theorem rs_d_44_56 : decode (rs_cd 44) 56 = .ok (.goto 19, 3) := by decide +kernel
theorem rs_d_44_59 : decode (rs_cd 44) 59 = .ok (.aload_n 0, 1) := by decide +kernel
theorem rs_d_44_60 : decode (rs_cd 44) 60 = .ok (.iload_n 3, 1) := by decide +kernel
theorem rs_d_44_61 : decode (rs_cd 44) 61 = .ok (.iload_n 1, 1) := by decide +kernel
theorem rs_d_44_62 : decode (rs_cd 44) 62 = .ok (.iload_n 2, 1) := by decide +kernel
theorem rs_d_44_63 : decode (rs_cd 44) 63 = .ok (.aload_n 0, 1) := by decide +kernel
theorem rs_d_44_64 : decode (rs_cd 44) 64 = .ok (.getfield 39, 3) := by decide +kernel
theorem rs_d_44_67 : decode (rs_cd 44) 67 = .ok (.iload_n 1, 1) := by decide +kernel
theorem rs_d_44_68 : decode (rs_cd 44) 68 = .ok (.iload_n 2, 1) := by decide +kernel
theorem rs_d_44_69 : decode (rs_cd 44) 69 = .ok (.invokevirtual 161, 3) := by decide +kernel
theorem rs_t_44_161 : rs_tg 44 161 = some 23 := by decide +kernel
theorem rs_d_44_72 : decode (rs_cd 44) 72 = .ok (.invokevirtual 155, 3) := by decide +kernel
theorem rs_t_44_155 : rs_tg 44 155 = some 58 := by decide +kernel
theorem rs_d_44_75 : decode (rs_cd 44) 75 = .ok (.ireturn, 1) := by decide +kernel
theorem rs_d_45_0 : decode (rs_cd 45) 0 = .ok (.iload_n 1, 1) := by decide +kernel
theorem rs_d_45_1 : decode (rs_cd 45) 1 = .ok (.invokestatic 165, 3) := by decide +kernel
theorem rs_t_45_165 : rs_tg 45 165 = some 54 := by decide +kernel
theorem rs_d_45_4 : decode (rs_cd 45) 4 = .ok (.ifCond .ne 13, 3) := by decide +kernel
theorem rs_d_45_7 : decode (rs_cd 45) 7 = .ok (.new 47, 3) := by decide +kernel
theorem rs_d_45_10 : decode (rs_cd 45) 10 = .ok (.dup, 1) := by decide +kernel
theorem rs_d_45_11 : decode (rs_cd 45) 11 = .ok (.ldc 168, 2) := by decide +kernel
theorem rs_d_45_13 : decode (rs_cd 45) 13 = .ok (.invokespecial 51, 3) := by decide +kernel
theorem rs_d_45_16 : decode (rs_cd 45) 16 = .ok (.athrow, 1) := by decide +kernel
theorem rs_d_45_17 : decode (rs_cd 45) 17 = .ok (.aload_n 0, 1) := by decide +kernel
theorem rs_d_45_18 : decode (rs_cd 45) 18 = .ok (.iconst 0, 1) := by decide +kernel
theorem rs_d_45_19 : decode (rs_cd 45) 19 = .ok (.iconst 0, 1) := by decide +kernel
theorem rs_d_45_20 : decode (rs_cd 45) 20 = .ok (.iload_n 1, 1) := by decide +kernel
theorem rs_d_45_21 : decode (rs_cd 45) 21 = .ok (.invokevirtual 170, 3) := by decide +kernel
theorem rs_t_45_170 : rs_tg 45 170 = some 59 := by decide +kernel
theorem rs_d_45_24 : decode (rs_cd 45) 24 = .ok (.aload_n 0, 1) := by decide +kernel
theorem rs_d_45_25 : decode (rs_cd 45) 25 = .ok (.getfield 32, 3) := by decide +kernel
theorem rs_f_45_32 : rs_fd 45 32 = some (7, 3, 2) := by decide +kernel
theorem rs_d_45_28 : decode (rs_cd 45) 28 = .ok (.aload_n 0, 1) := by decide +kernel
theorem rs_d_45_29 : decode (rs_cd 45) 29 = .ok (.getfield 25, 3) := by decide +kernel
theorem rs_f_45_25 : rs_fd 45 25 = some (7, 2, 2) := by decide +kernel
theorem rs_d_45_32 : decode (rs_cd 45) 32 = .ok (.iconst 0, 1) := by decide +kernel
theorem rs_d_45_33 : decode (rs_cd 45) 33 = .ok (.invokevirtual 174, 3) := by decide +kernel
theorem rs_t_45_174 : rs_tg 45 174 = some 29 := by decide +kernel
theorem rs_d_45_36 : decode (rs_cd 45) 36 = .ok (.ireturn, 1) := by decide +kernel
theorem rs_d_46_0 : decode (rs_cd 46) 0 = .ok (.aload_n 0, 1) := by decide +kernel
theorem rs_d_46_1 : decode (rs_cd 46) 1 = .ok (.iload_n 1, 1) := by decide +kernel
theorem rs_d_46_2 : decode (rs_cd 46) 2 = .ok (.invokevirtual 117, 3) := by decide +kernel
theorem rs_t_46_117 : rs_tg 46 117 = some 51 := by decide +kernel
theorem rs_d_46_5 : decode (rs_cd 46) 5 = .ok (.ifCond .eq 10, 3) := by decide +kernel
theorem rs_d_46_8 : decode (rs_cd 46) 8 = .ok (.iload_n 2, 1) := by decide +kernel
theorem rs_d_46_9 : decode (rs_cd 46) 9 = .ok (.invokestatic 165, 3) := by decide +kernel
theorem rs_t_46_165 : rs_tg 46 165 = some 54 := by decide +kernel
theorem rs_d_46_12 : decode (rs_cd 46) 12 = .ok (.ifCond .ne 13, 3) := by decide +kernel
theorem rs_d_46_15 : decode (rs_cd 46) 15 = .ok (.new 47, 3) := by decide +kernel
theorem rs_d_46_18 : decode (rs_cd 46) 18 = .ok (.dup, 1) := by decide +kernel
theorem rs_d_46_19 : decode (rs_cd 46) 19 = .ok (.ldc 178, 2) := by decide +kernel
theorem rs_d_46_21 : decode (rs_cd 46) 21 = .ok (.invokespecial 51, 3) := by decide +kernel
theorem rs_d_46_24 : decode (rs_cd 46) 24 = .ok (.athrow, 1) := by decide +kernel
theorem rs_d_46_25 : decode (rs_cd 46) 25 = .ok (.aload_n 0, 1) := by decide +kernel
theorem rs_d_46_26 : decode (rs_cd 46) 26 = .ok (.iload_n 1, 1) := by decide +kernel
theorem rs_d_46_27 : decode (rs_cd 46) 27 = .ok (.iconst 0, 1) := by decide +kernel
theorem rs_d_46_28 : decode (rs_cd 46) 28 = .ok (.iload_n 2, 1) := by decide +kernel
theorem rs_d_46_29 : decode (rs_cd 46) 29 = .ok (.invokevirtual 170, 3) := by decide +kernel
theorem rs_t_46_170 : rs_tg 46 170 = some 59 := by decide +kernel
theorem rs_d_46_32 : decode (rs_cd 46) 32 = .ok (.aload_n 0, 1) := by decide +kernel
theorem rs_d_46_33 : decode (rs_cd 46) 33 = .ok (.getfield 32, 3) := by decide +kernel
theorem rs_f_46_32 : rs_fd 46 32 = some (7, 3, 2) := by decide +kernel
theorem rs_d_46_36 : decode (rs_cd 46) 36 = .ok (.aload_n 0, 1) := by decide +kernel
theorem rs_d_46_37 : decode (rs_cd 46) 37 = .ok (.getfield 25, 3) := by decide +kernel
theorem rs_f_46_25 : rs_fd 46 25 = some (7, 2, 2) := by decide +kernel
theorem rs_d_46_40 : decode (rs_cd 46) 40 = .ok (.iconst 0, 1) := by decide +kernel
theorem rs_d_46_41 : decode (rs_cd 46) 41 = .ok (.invokevirtual 174, 3) := by decide +kernel
theorem rs_t_46_174 : rs_tg 46 174 = some 29 := by decide +kernel
theorem rs_d_46_44 : decode (rs_cd 46) 44 = .ok (.iconst 1, 1) := by decide +kernel
theorem rs_d_46_45 : decode (rs_cd 46) 45 = .ok (.if_icmp .ne 15, 3) := by decide +kernel
theorem rs_d_46_48 : decode (rs_cd 46) 48 = .ok (.aload_n 0, 1) := by decide +kernel
theorem rs_d_46_49 : decode (rs_cd 46) 49 = .ok (.getfield 32, 3) := by decide +kernel
theorem rs_d_46_52 : decode (rs_cd 46) 52 = .ok (.getfield 180, 3) := by decide +kernel
theorem rs_f_46_180 : rs_fd 46 180 = some (4, 1, 2) := by decide +kernel
theorem rs_d_46_55 : decode (rs_cd 46) 55 = .ok (.iload_n 1, 1) := by decide +kernel
theorem rs_d_46_56 : decode (rs_cd 46) 56 = .ok (.iaload, 1) := by decide +kernel
theorem rs_d_46_57 : decode (rs_cd 46) 57 = .ok (.goto 6, 3) := by decide +kernel
theorem rs_d_46_60 : decode (rs_cd 46) 60 = .ok (.sipush (-1000), 3) := by decide +kernel
theorem rs_d_46_63 : decode (rs_cd 46) 63 = .ok (.ireturn, 1) := by decide +kernel
theorem rs_d_47_0 : decode (rs_cd 47) 0 = .ok (.aload_n 0, 1) := by decide +kernel
theorem rs_d_47_1 : decode (rs_cd 47) 1 = .ok (.iload_n 1, 1) := by decide +kernel
theorem rs_d_47_2 : decode (rs_cd 47) 2 = .ok (.invokevirtual 117, 3) := by decide +kernel
theorem rs_t_47_117 : rs_tg 47 117 = some 51 := by decide +kernel
theorem rs_d_47_5 : decode (rs_cd 47) 5 = .ok (.ifCond .eq 10, 3) := by decide +kernel
theorem rs_d_47_8 : decode (rs_cd 47) 8 = .ok (.iload_n 2, 1) := by decide +kernel
theorem rs_d_47_9 : decode (rs_cd 47) 9 = .ok (.invokestatic 165, 3) := by decide +kernel
theorem rs_t_47_165 : rs_tg 47 165 = some 54 := by decide +kernel
theorem rs_d_47_12 : decode (rs_cd 47) 12 = .ok (.ifCond .ne 13, 3) := by decide +kernel
theorem rs_d_47_15 : decode (rs_cd 47) 15 = .ok (.new 47, 3) := by decide +kernel
theorem rs_d_47_18 : decode (rs_cd 47) 18 = .ok (.dup, 1) := by decide +kernel
theorem rs_d_47_19 : decode (rs_cd 47) 19 = .ok (.ldc 178, 2) := by decide +kernel
theorem rs_d_47_21 : decode (rs_cd 47) 21 = .ok (.invokespecial 51, 3) := by decide +kernel
theorem rs_d_47_24 : decode (rs_cd 47) 24 = .ok (.athrow, 1) := by decide +kernel
theorem rs_d_47_25 : decode (rs_cd 47) 25 = .ok (.aload_n 0, 1) := by decide +kernel
theorem rs_d_47_26 : decode (rs_cd 47) 26 = .ok (.iload_n 1, 1) := by decide +kernel
theorem rs_d_47_27 : decode (rs_cd 47) 27 = .ok (.iconst 1, 1) := by decide +kernel
theorem rs_d_47_28 : decode (rs_cd 47) 28 = .ok (.iload_n 2, 1) := by decide +kernel
theorem rs_d_47_29 : decode (rs_cd 47) 29 = .ok (.invokevirtual 170, 3) := by decide +kernel
theorem rs_t_47_170 : rs_tg 47 170 = some 59 := by decide +kernel
theorem rs_d_47_32 : decode (rs_cd 47) 32 = .ok (.aload_n 0, 1) := by decide +kernel
theorem rs_d_47_33 : decode (rs_cd 47) 33 = .ok (.getfield 32, 3) := by decide +kernel
theorem rs_f_47_32 : rs_fd 47 32 = some (7, 3, 2) := by decide +kernel
theorem rs_d_47_36 : decode (rs_cd 47) 36 = .ok (.aload_n 0, 1) := by decide +kernel
theorem rs_d_47_37 : decode (rs_cd 47) 37 = .ok (.getfield 25, 3) := by decide +kernel
theorem rs_f_47_25 : rs_fd 47 25 = some (7, 2, 2) := by decide +kernel
theorem rs_d_47_40 : decode (rs_cd 47) 40 = .ok (.iconst 0, 1) := by decide +kernel
theorem rs_d_47_41 : decode (rs_cd 47) 41 = .ok (.invokevirtual 174, 3) := by decide +kernel
theorem rs_t_47_174 : rs_tg 47 174 = some 29 := by decide +kernel
theorem rs_d_47_44 : decode (rs_cd 47) 44 = .ok (.iconst 1, 1) := by decide +kernel
theorem rs_d_47_45 : decode (rs_cd 47) 45 = .ok (.if_icmp .ne 15, 3) := by decide +kernel
theorem rs_d_47_48 : decode (rs_cd 47) 48 = .ok (.aload_n 0, 1) := by decide +kernel
theorem rs_d_47_49 : decode (rs_cd 47) 49 = .ok (.getfield 32, 3) := by decide +kernel
theorem rs_d_47_52 : decode (rs_cd 47) 52 = .ok (.getfield 180, 3) := by decide +kernel
theorem rs_f_47_180 : rs_fd 47 180 = some (4, 1, 2) := by decide +kernel
theorem rs_d_47_55 : decode (rs_cd 47) 55 = .ok (.iload_n 1, 1) := by decide +kernel
theorem rs_d_47_56 : decode (rs_cd 47) 56 = .ok (.iaload, 1) := by decide +kernel
theorem rs_d_47_57 : decode (rs_cd 47) 57 = .ok (.goto 6, 3) := by decide +kernel
theorem rs_d_47_60 : decode (rs_cd 47) 60 = .ok (.sipush (-1000), 3) := by decide +kernel
theorem rs_d_47_63 : decode (rs_cd 47) 63 = .ok (.ireturn, 1) := by decide +kernel
theorem rs_d_48_0 : decode (rs_cd 48) 0 = .ok (.aload_n 0, 1) := by decide +kernel
theorem rs_d_48_1 : decode (rs_cd 48) 1 = .ok (.getfield 32, 3) := by decide +kernel
theorem rs_f_48_32 : rs_fd 48 32 = some (7, 3, 2) := by decide +kernel
theorem rs_d_48_4 : decode (rs_cd 48) 4 = .ok (.getfield 183, 3) := by decide +kernel
theorem rs_f_48_183 : rs_fd 48 183 = some (4, 3, 0) := by decide +kernel
theorem rs_d_48_7 : decode (rs_cd 48) 7 = .ok (.ireturn, 1) := by decide +kernel
theorem rs_d_49_0 : decode (rs_cd 49) 0 = .ok (.iload_n 1, 1) := by decide +kernel
theorem rs_d_49_1 : decode (rs_cd 49) 1 = .ok (.ifCond .lt 26, 3) := by decide +kernel
theorem rs_d_49_4 : decode (rs_cd 49) 4 = .ok (.iload_n 1, 1) := by decide +kernel
theorem rs_d_49_5 : decode (rs_cd 49) 5 = .ok (.aload_n 0, 1) := by decide +kernel
theorem rs_d_49_6 : decode (rs_cd 49) 6 = .ok (.getfield 32, 3) := by decide +kernel
theorem rs_f_49_32 : rs_fd 49 32 = some (7, 3, 2) := by decide +kernel
theorem rs_d_49_9 : decode (rs_cd 49) 9 = .ok (.getfield 186, 3) := by decide +kernel
theorem rs_f_49_186 : rs_fd 49 186 = some (4, 2, 0) := by decide +kernel
theorem rs_d_49_12 : decode (rs_cd 49) 12 = .ok (.if_icmp .ge 15, 3) := by decide +kernel
theorem rs_d_49_15 : decode (rs_cd 49) 15 = .ok (.aload_n 0, 1) := by decide +kernel
theorem rs_d_49_16 : decode (rs_cd 49) 16 = .ok (.getfield 32, 3) := by decide +kernel
theorem rs_d_49_19 : decode (rs_cd 49) 19 = .ok (.getfield 180, 3) := by decide +kernel
theorem rs_f_49_180 : rs_fd 49 180 = some (4, 1, 2) := by decide +kernel
theorem rs_d_49_22 : decode (rs_cd 49) 22 = .ok (.iload_n 1, 1) := by decide +kernel
theorem rs_d_49_23 : decode (rs_cd 49) 23 = .ok (.iaload, 1) := by decide +kernel
theorem rs_d_49_24 : decode (rs_cd 49) 24 = .ok (.goto 6, 3) := by decide +kernel
theorem rs_d_49_27 : decode (rs_cd 49) 27 = .ok (.sipush (-1000), 3) := by decide +kernel
theorem rs_d_49_30 : decode (rs_cd 49) 30 = .ok (.ireturn, 1) := by decide +kernel
theorem rs_d_50_0 : decode (rs_cd 50) 0 = .ok (.aload_n 0, 1) := by decide +kernel
theorem rs_d_50_1 : decode (rs_cd 50) 1 = .ok (.getfield 25, 3) := by decide +kernel
theorem rs_f_50_25 : rs_fd 50 25 = some (7, 2, 2) := by decide +kernel
theorem rs_d_50_4 : decode (rs_cd 50) 4 = .ok (.iload_n 1, 1) := by decide +kernel
theorem rs_d_50_5 : decode (rs_cd 50) 5 = .ok (.invokevirtual 91, 3) := by decide +kernel
theorem rs_t_50_91 : rs_tg 50 91 = some 0 := by decide +kernel
theorem rs_d_50_8 : decode (rs_cd 50) 8 = .ok (.ifCond .ne 5, 3) := by decide +kernel
theorem rs_d_50_11 : decode (rs_cd 50) 11 = .ok (.iconst 0, 1) := by decide +kernel
theorem rs_d_50_12 : decode (rs_cd 50) 12 = .ok (.ireturn, 1) := by decide +kernel
theorem rs_d_50_13 : decode (rs_cd 50) 13 = .ok (.aload_n 0, 1) := by decide +kernel
theorem rs_d_50_14 : decode (rs_cd 50) 14 = .ok (.getfield 25, 3) := by decide +kernel
theorem rs_d_50_17 : decode (rs_cd 50) 17 = .ok (.getfield 81, 3) := by decide +kernel
theorem rs_f_50_81 : rs_fd 50 81 = some (1, 0, 2) := by decide +kernel
theorem rs_d_50_20 : decode (rs_cd 50) 20 = .ok (.iload_n 1, 1) := by decide +kernel
theorem rs_d_50_21 : decode (rs_cd 50) 21 = .ok (.aaload, 1) := by decide +kernel
theorem rs_d_50_22 : decode (rs_cd 50) 22 = .ok (.astore_n 2, 1) := by decide +kernel
theorem rs_d_50_23 : decode (rs_cd 50) 23 = .ok (.aload_n 2, 1) := by decide +kernel
theorem rs_d_50_24 : decode (rs_cd 50) 24 = .ok (.getfield 189, 3) := by decide +kernel
theorem rs_f_50_189 : rs_fd 50 189 = some (3, 4, 0) := by decide +kernel
theorem rs_d_50_27 : decode (rs_cd 50) 27 = .ok (.aload_n 0, 1) := by decide +kernel
theorem rs_d_50_28 : decode (rs_cd 50) 28 = .ok (.getfield 32, 3) := by decide +kernel
theorem rs_f_50_32 : rs_fd 50 32 = some (7, 3, 2) := by decide +kernel
theorem rs_d_50_31 : decode (rs_cd 50) 31 = .ok (.getfield 186, 3) := by decide +kernel
theorem rs_f_50_186 : rs_fd 50 186 = some (4, 2, 0) := by decide +kernel
theorem rs_d_50_34 : decode (rs_cd 50) 34 = .ok (.ishr, 1) := by decide +kernel
theorem rs_d_50_35 : decode (rs_cd 50) 35 = .ok (.ifCond .ne 7, 3) := by decide +kernel
theorem rs_d_50_38 : decode (rs_cd 50) 38 = .ok (.iconst 1, 1) := by decide +kernel
theorem rs_d_50_39 : decode (rs_cd 50) 39 = .ok (.goto 4, 3) := by decide +kernel
theorem rs_d_50_42 : decode (rs_cd 50) 42 = .ok (.iconst 0, 1) := by decide +kernel
theorem rs_d_50_43 : decode (rs_cd 50) 43 = .ok (.istore_n 3, 1) := by decide +kernel
theorem rs_d_50_44 : decode (rs_cd 50) 44 = .ok (.iload_n 3, 1) := by decide +kernel
theorem rs_d_50_45 : decode (rs_cd 50) 45 = .ok (.ifCond .eq 25, 3) := by decide +kernel
theorem rs_d_50_48 : decode (rs_cd 50) 48 = .ok (.aload_n 0, 1) := by decide +kernel
theorem rs_d_50_49 : decode (rs_cd 50) 49 = .ok (.getfield 25, 3) := by decide +kernel
theorem rs_d_50_52 : decode (rs_cd 50) 52 = .ok (.aload_n 2, 1) := by decide +kernel
theorem rs_d_50_53 : decode (rs_cd 50) 53 = .ok (.aload_n 0, 1) := by decide +kernel
theorem rs_d_50_54 : decode (rs_cd 50) 54 = .ok (.getfield 32, 3) := by decide +kernel
theorem rs_d_50_57 : decode (rs_cd 50) 57 = .ok (.getfield 180, 3) := by decide +kernel
theorem rs_f_50_180 : rs_fd 50 180 = some (4, 1, 2) := by decide +kernel
theorem rs_d_50_60 : decode (rs_cd 50) 60 = .ok (.invokevirtual 190, 3) := by decide +kernel
theorem rs_t_50_190 : rs_tg 50 190 = some 1 := by decide +kernel
theorem rs_d_50_63 : decode (rs_cd 50) 63 = .ok (.ifCond .eq 7, 3) := by decide +kernel
theorem rs_d_50_66 : decode (rs_cd 50) 66 = .ok (.iconst 1, 1) := by decide +kernel
theorem rs_d_50_67 : decode (rs_cd 50) 67 = .ok (.goto 4, 3) := by decide +kernel
theorem rs_d_50_70 : decode (rs_cd 50) 70 = .ok (.iconst 0, 1) := by decide +kernel
theorem rs_d_50_71 : decode (rs_cd 50) 71 = .ok (.ireturn, 1) := by decide +kernel
theorem rs_d_51_0 : decode (rs_cd 51) 0 = .ok (.iload_n 1, 1) := by decide +kernel
theorem rs_d_51_1 : decode (rs_cd 51) 1 = .ok (.ifCond .lt 15, 3) := by decide +kernel
theorem rs_d_51_4 : decode (rs_cd 51) 4 = .ok (.iload_n 1, 1) := by decide +kernel
theorem rs_d_51_5 : decode (rs_cd 51) 5 = .ok (.aload_n 0, 1) := by decide +kernel
theorem rs_d_51_6 : decode (rs_cd 51) 6 = .ok (.getfield 54, 3) := by decide +kernel
theorem rs_f_51_54 : rs_fd 51 54 = some (7, 6, 0) := by decide +kernel
theorem rs_d_51_9 : decode (rs_cd 51) 9 = .ok (.if_icmp .ge 7, 3) := by decide +kernel
theorem rs_d_51_12 : decode (rs_cd 51) 12 = .ok (.iconst 1, 1) := by decide +kernel
theorem rs_d_51_13 : decode (rs_cd 51) 13 = .ok (.goto 4, 3) := by decide +kernel
theorem rs_d_51_16 : decode (rs_cd 51) 16 = .ok (.iconst 0, 1) := by decide +kernel
theorem rs_d_51_17 : decode (rs_cd 51) 17 = .ok (.ireturn, 1) := by decide +kernel
theorem rs_d_52_0 : decode (rs_cd 52) 0 = .ok (.iload_n 0, 1) := by decide +kernel
theorem rs_d_52_1 : decode (rs_cd 52) 1 = .ok (.ifCond .lt 12, 3) := by decide +kernel
theorem rs_d_52_4 : decode (rs_cd 52) 4 = .ok (.iload_n 0, 1) := by decide +kernel
theorem rs_d_52_5 : decode (rs_cd 52) 5 = .ok (.iconst 3, 1) := by decide +kernel
theorem rs_d_52_6 : decode (rs_cd 52) 6 = .ok (.if_icmp .ge 7, 3) := by decide +kernel
theorem rs_d_52_9 : decode (rs_cd 52) 9 = .ok (.iconst 1, 1) := by decide +kernel
theorem rs_d_52_10 : decode (rs_cd 52) 10 = .ok (.goto 4, 3) := by decide +kernel
theorem rs_d_52_13 : decode (rs_cd 52) 13 = .ok (.iconst 0, 1) := by decide +kernel
theorem rs_d_52_14 : decode (rs_cd 52) 14 = .ok (.ireturn, 1) := by decide +kernel
theorem rs_d_53_0 : decode (rs_cd 53) 0 = .ok (.bipush (-100), 2) := by decide +kernel
theorem rs_d_53_2 : decode (rs_cd 53) 2 = .ok (.iload_n 0, 1) := by decide +kernel
theorem rs_d_53_3 : decode (rs_cd 53) 3 = .ok (.if_icmp .gt 18, 3) := by decide +kernel
theorem rs_d_53_6 : decode (rs_cd 53) 6 = .ok (.iload_n 0, 1) := by decide +kernel
theorem rs_d_53_7 : decode (rs_cd 53) 7 = .ok (.iload_n 1, 1) := by decide +kernel
theorem rs_d_53_8 : decode (rs_cd 53) 8 = .ok (.if_icmp .gt 13, 3) := by decide +kernel
theorem rs_d_53_11 : decode (rs_cd 53) 11 = .ok (.iload_n 1, 1) := by decide +kernel
theorem rs_d_53_12 : decode (rs_cd 53) 12 = .ok (.bipush 100, 2) := by decide +kernel
theorem rs_d_53_14 : decode (rs_cd 53) 14 = .ok (.if_icmp .gt 7, 3) := by decide +kernel
theorem rs_d_53_17 : decode (rs_cd 53) 17 = .ok (.iconst 1, 1) := by decide +kernel
theorem rs_d_53_18 : decode (rs_cd 53) 18 = .ok (.goto 4, 3) := by decide +kernel
theorem rs_d_53_21 : decode (rs_cd 53) 21 = .ok (.iconst 0, 1) := by decide +kernel
theorem rs_d_53_22 : decode (rs_cd 53) 22 = .ok (.ireturn, 1) := by decide +kernel
theorem rs_d_54_0 : decode (rs_cd 54) 0 = .ok (.iload_n 0, 1) := by decide +kernel
theorem rs_d_54_1 : decode (rs_cd 54) 1 = .ok (.ifCond .lt 14, 3) := by decide +kernel
theorem rs_d_54_4 : decode (rs_cd 54) 4 = .ok (.iload_n 0, 1) := by decide +kernel
theorem rs_d_54_5 : decode (rs_cd 54) 5 = .ok (.sipush 300, 3) := by decide +kernel
theorem rs_d_54_8 : decode (rs_cd 54) 8 = .ok (.if_icmp .gt 7, 3) := by decide +kernel
theorem rs_d_54_11 : decode (rs_cd 54) 11 = .ok (.iconst 1, 1) := by decide +kernel
theorem rs_d_54_12 : decode (rs_cd 54) 12 = .ok (.goto 4, 3) := by decide +kernel
theorem rs_d_54_15 : decode (rs_cd 54) 15 = .ok (.iconst 0, 1) := by decide +kernel
theorem rs_d_54_16 : decode (rs_cd 54) 16 = .ok (.ireturn, 1) := by decide +kernel
theorem rs_d_55_0 : decode (rs_cd 55) 0 = .ok (.iload_n 1, 1) := by decide +kernel
theorem rs_d_55_1 : decode (rs_cd 55) 1 = .ok (.tableswitch 173 0 8 #[51, 51, 51, 51, 51, 82, 51, 120, 143], 51) := by decide +kernel
theorem rs_d_55_52 : decode (rs_cd 55) 52 = .ok (.aload_n 0, 1) := by decide +kernel
theorem rs_d_55_53 : decode (rs_cd 55) 53 = .ok (.iload_n 2, 1) := by decide +kernel
theorem rs_d_55_54 : decode (rs_cd 55) 54 = .ok (.invokevirtual 117, 3) := by decide +kernel
theorem rs_t_55_117 : rs_tg 55 117 = some 51 := by decide +kernel
theorem rs_d_55_57 : decode (rs_cd 55) 57 = .ok (.ifCond .eq 24, 3) := by decide +kernel
theorem rs_d_55_60 : decode (rs_cd 55) 60 = .ok (.aload_n 0, 1) := by decide +kernel
theorem rs_d_55_61 : decode (rs_cd 55) 61 = .ok (.iload_n 3, 1) := by decide +kernel
theorem rs_d_55_62 : decode (rs_cd 55) 62 = .ok (.invokevirtual 117, 3) := by decide +kernel
theorem rs_d_55_65 : decode (rs_cd 55) 65 = .ok (.ifCond .eq 16, 3) := by decide +kernel
theorem rs_d_55_68 : decode (rs_cd 55) 68 = .ok (.aload_n 0, 1) := by decide +kernel
theorem rs_d_55_69 : decode (rs_cd 55) 69 = .ok (.iload 4, 2) := by decide +kernel
theorem rs_d_55_71 : decode (rs_cd 55) 71 = .ok (.invokevirtual 117, 3) := by decide +kernel
theorem rs_d_55_74 : decode (rs_cd 55) 74 = .ok (.ifCond .eq 7, 3) := by decide +kernel
theorem rs_d_55_77 : decode (rs_cd 55) 77 = .ok (.iconst 1, 1) := by decide +kernel
theorem rs_d_55_78 : decode (rs_cd 55) 78 = .ok (.goto 4, 3) := by decide +kernel
theorem rs_d_55_81 : decode (rs_cd 55) 81 = .ok (.iconst 0, 1) := by decide +kernel
theorem rs_d_55_82 : decode (rs_cd 55) 82 = .ok (.ireturn, 1) := by decide +kernel
theorem rs_d_55_83 : decode (rs_cd 55) 83 = .ok (.aload_n 0, 1) := by decide +kernel
theorem rs_d_55_84 : decode (rs_cd 55) 84 = .ok (.iload_n 2, 1) := by decide +kernel
theorem rs_d_55_85 : decode (rs_cd 55) 85 = .ok (.invokevirtual 117, 3) := by decide +kernel
theorem rs_d_55_88 : decode (rs_cd 55) 88 = .ok (.ifCond .eq 31, 3) := by decide +kernel
theorem rs_d_55_91 : decode (rs_cd 55) 91 = .ok (.aload_n 0, 1) := by decide +kernel
theorem rs_d_55_92 : decode (rs_cd 55) 92 = .ok (.iload_n 3, 1) := by decide +kernel
theorem rs_d_55_93 : decode (rs_cd 55) 93 = .ok (.invokevirtual 117, 3) := by decide +kernel
theorem rs_d_55_96 : decode (rs_cd 55) 96 = .ok (.ifCond .eq 23, 3) := by decide +kernel
theorem rs_d_55_99 : decode (rs_cd 55) 99 = .ok (.sipush (-200), 3) := by decide +kernel
theorem rs_d_55_102 : decode (rs_cd 55) 102 = .ok (.iload 4, 2) := by decide +kernel
theorem rs_d_55_104 : decode (rs_cd 55) 104 = .ok (.if_icmp .gt 15, 3) := by decide +kernel
theorem rs_d_55_107 : decode (rs_cd 55) 107 = .ok (.iload 4, 2) := by decide +kernel
theorem rs_d_55_109 : decode (rs_cd 55) 109 = .ok (.sipush 200, 3) := by decide +kernel
theorem rs_d_55_112 : decode (rs_cd 55) 112 = .ok (.if_icmp .gt 7, 3) := by decide +kernel
theorem rs_d_55_115 : decode (rs_cd 55) 115 = .ok (.iconst 1, 1) := by decide +kernel
theorem rs_d_55_116 : decode (rs_cd 55) 116 = .ok (.goto 4, 3) := by decide +kernel
theorem rs_d_55_119 : decode (rs_cd 55) 119 = .ok (.iconst 0, 1) := by decide +kernel
theorem rs_d_55_120 : decode (rs_cd 55) 120 = .ok (.ireturn, 1) := by decide +kernel
theorem rs_d_55_121 : decode (rs_cd 55) 121 = .ok (.iload_n 2, 1) := by decide +kernel
theorem rs_d_55_122 : decode (rs_cd 55) 122 = .ok (.aload_n 0, 1) := by decide +kernel
theorem rs_d_55_123 : decode (rs_cd 55) 123 = .ok (.getfield 54, 3) := by decide +kernel
theorem rs_f_55_54 : rs_fd 55 54 = some (7, 6, 0) := by decide +kernel
theorem rs_d_55_126 : decode (rs_cd 55) 126 = .ok (.ishr, 1) := by decide +kernel
theorem rs_d_55_127 : decode (rs_cd 55) 127 = .ok (.ifCond .ne 15, 3) := by decide +kernel
theorem rs_d_55_130 : decode (rs_cd 55) 130 = .ok (.iload_n 2, 1) := by decide +kernel
theorem rs_d_55_131 : decode (rs_cd 55) 131 = .ok (.invokestatic 194, 3) := by decide +kernel
theorem rs_t_55_194 : rs_tg 55 194 = some 114 := by decide +kernel
theorem rs_d_55_134 : decode (rs_cd 55) 134 = .ok (.iconst 2, 1) := by decide +kernel
theorem rs_d_55_135 : decode (rs_cd 55) 135 = .ok (.if_icmp .lt 7, 3) := by decide +kernel
theorem rs_d_55_138 : decode (rs_cd 55) 138 = .ok (.iconst 1, 1) := by decide +kernel
theorem rs_d_55_139 : decode (rs_cd 55) 139 = .ok (.goto 4, 3) := by decide +kernel
theorem rs_d_55_142 : decode (rs_cd 55) 142 = .ok (.iconst 0, 1) := by decide +kernel
theorem rs_d_55_143 : decode (rs_cd 55) 143 = .ok (.ireturn, 1) := by decide +kernel
theorem rs_d_55_144 : decode (rs_cd 55) 144 = .ok (.aload_n 0, 1) := by decide +kernel
theorem rs_d_55_145 : decode (rs_cd 55) 145 = .ok (.iload_n 2, 1) := by decide +kernel
theorem rs_d_55_146 : decode (rs_cd 55) 146 = .ok (.invokevirtual 117, 3) := by decide +kernel
theorem rs_d_55_149 : decode (rs_cd 55) 149 = .ok (.ifCond .eq 23, 3) := by decide +kernel
theorem rs_d_55_152 : decode (rs_cd 55) 152 = .ok (.aload_n 0, 1) := by decide +kernel
theorem rs_d_55_153 : decode (rs_cd 55) 153 = .ok (.iload_n 3, 1) := by decide +kernel
theorem rs_d_55_154 : decode (rs_cd 55) 154 = .ok (.invokevirtual 117, 3) := by decide +kernel
theorem rs_d_55_157 : decode (rs_cd 55) 157 = .ok (.ifCond .eq 15, 3) := by decide +kernel
theorem rs_d_55_160 : decode (rs_cd 55) 160 = .ok (.iload 4, 2) := by decide +kernel
theorem rs_d_55_162 : decode (rs_cd 55) 162 = .ok (.invokestatic 99, 3) := by decide +kernel
theorem rs_t_55_99 : rs_tg 55 99 = some 52 := by decide +kernel
theorem rs_d_55_165 : decode (rs_cd 55) 165 = .ok (.ifCond .eq 7, 3) := by decide +kernel
theorem rs_d_55_168 : decode (rs_cd 55) 168 = .ok (.iconst 1, 1) := by decide +kernel
theorem rs_d_55_169 : decode (rs_cd 55) 169 = .ok (.goto 4, 3) := by decide +kernel
theorem rs_d_55_172 : decode (rs_cd 55) 172 = .ok (.iconst 0, 1) := by decide +kernel
theorem rs_d_55_173 : decode (rs_cd 55) 173 = .ok (.ireturn, 1) := by decide +kernel
theorem rs_d_55_174 : decode (rs_cd 55) 174 = .ok (.iconst 0, 1) := by decide +kernel
theorem rs_d_55_175 : decode (rs_cd 55) 175 = .ok (.ireturn, 1) := by decide +kernel
theorem rs_d_56_0 : decode (rs_cd 56) 0 = .ok (.iconst 0, 1) := by decide +kernel
theorem rs_d_56_1 : decode (rs_cd 56) 1 = .ok (.istore_n 1, 1) := by decide +kernel
theorem rs_d_56_2 : decode (rs_cd 56) 2 = .ok (.iconst 0, 1) := by decide +kernel
theorem rs_d_56_3 : decode (rs_cd 56) 3 = .ok (.istore_n 2, 1) := by decide +kernel
theorem rs_d_56_4 : decode (rs_cd 56) 4 = .ok (.iload_n 2, 1) := by decide +kernel
theorem rs_d_56_5 : decode (rs_cd 56) 5 = .ok (.aload_n 0, 1) := by decide +kernel
theorem rs_d_56_6 : decode (rs_cd 56) 6 = .ok (.getfield 122, 3) := by decide +kernel
theorem rs_f_56_122 : rs_fd 56 122 = some (7, 7, 0) := by decide +kernel
theorem rs_d_56_9 : decode (rs_cd 56) 9 = .ok (.if_icmp .ge 27, 3) := by decide +kernel
theorem rs_d_56_12 : decode (rs_cd 56) 12 = .ok (.aload_n 0, 1) := by decide +kernel
theorem rs_d_56_13 : decode (rs_cd 56) 13 = .ok (.getfield 18, 3) := by decide +kernel
theorem rs_f_56_18 : rs_fd 56 18 = some (7, 1, 2) := by decide +kernel
theorem rs_d_56_16 : decode (rs_cd 56) 16 = .ok (.iload_n 2, 1) := by decide +kernel
theorem rs_d_56_17 : decode (rs_cd 56) 17 = .ok (.aaload, 1) := by decide +kernel
theorem rs_d_56_18 : decode (rs_cd 56) 18 = .ok (.getfield 134, 3) := by decide +kernel
theorem rs_f_56_134 : rs_fd 56 134 = some (0, 3, 1) := by decide +kernel
theorem rs_d_56_21 : decode (rs_cd 56) 21 = .ok (.ifCond .eq 9, 3) := by decide +kernel
theorem rs_d_56_24 : decode (rs_cd 56) 24 = .ok (.iload_n 1, 1) := by decide +kernel
theorem rs_d_56_25 : decode (rs_cd 56) 25 = .ok (.iconst 1, 1) := by decide +kernel
theorem rs_d_56_26 : decode (rs_cd 56) 26 = .ok (.iload_n 2, 1) := by decide +kernel
theorem rs_d_56_27 : decode (rs_cd 56) 27 = .ok (.ishl, 1) := by decide +kernel
theorem rs_d_56_28 : decode (rs_cd 56) 28 = .ok (.ior, 1) := by decide +kernel
theorem rs_d_56_29 : decode (rs_cd 56) 29 = .ok (.istore_n 1, 1) := by decide +kernel
theorem rs_d_56_30 : decode (rs_cd 56) 30 = .ok (.iinc 2 1, 3) := by decide +kernel
theorem rs_d_56_33 : decode (rs_cd 56) 33 = .ok (.goto (-29), 3) := by decide +kernel
theorem rs_d_56_36 : decode (rs_cd 56) 36 = .ok (.iload_n 1, 1) := by decide +kernel
theorem rs_d_56_37 : decode (rs_cd 56) 37 = .ok (.ireturn, 1) := by decide +kernel
theorem rs_d_57_0 : decode (rs_cd 57) 0 = .ok (.aload_n 2, 1) := by decide +kernel
theorem rs_d_57_1 : decode (rs_cd 57) 1 = .ok (.aload_n 0, 1) := by decide +kernel
theorem rs_d_57_2 : decode (rs_cd 57) 2 = .ok (.getfield 12, 3) := by decide +kernel
theorem rs_f_57_12 : rs_fd 57 12 = some (7, 0, 2) := by decide +kernel
theorem rs_d_57_5 : decode (rs_cd 57) 5 = .ok (.invokevirtual 200, 3) := by decide +kernel
theorem rs_t_57_200 : rs_tg 57 200 = some 21 := by decide +kernel
theorem rs_d_57_8 : decode (rs_cd 57) 8 = .ok (.iconst 0, 1) := by decide +kernel
theorem rs_d_57_9 : decode (rs_cd 57) 9 = .ok (.istore_n 3, 1) := by decide +kernel
theorem rs_d_57_10 : decode (rs_cd 57) 10 = .ok (.iload_n 3, 1) := by decide +kernel
theorem rs_d_57_11 : decode (rs_cd 57) 11 = .ok (.aload_n 0, 1) := by decide +kernel
theorem rs_d_57_12 : decode (rs_cd 57) 12 = .ok (.getfield 122, 3) := by decide +kernel
theorem rs_f_57_122 : rs_fd 57 122 = some (7, 7, 0) := by decide +kernel
theorem rs_d_57_15 : decode (rs_cd 57) 15 = .ok (.if_icmp .ge 49, 3) := by decide +kernel
theorem rs_d_57_18 : decode (rs_cd 57) 18 = .ok (.iload_n 1, 1) := by decide +kernel
theorem rs_d_57_19 : decode (rs_cd 57) 19 = .ok (.iload_n 3, 1) := by decide +kernel
theorem rs_d_57_20 : decode (rs_cd 57) 20 = .ok (.ishr, 1) := by decide +kernel
theorem rs_d_57_21 : decode (rs_cd 57) 21 = .ok (.iconst 1, 1) := by decide +kernel
theorem rs_d_57_22 : decode (rs_cd 57) 22 = .ok (.iand, 1) := by decide +kernel
theorem rs_d_57_23 : decode (rs_cd 57) 23 = .ok (.iconst 1, 1) := by decide +kernel
theorem rs_d_57_24 : decode (rs_cd 57) 24 = .ok (.if_icmp .ne 34, 3) := by decide +kernel
theorem rs_d_57_27 : decode (rs_cd 57) 27 = .ok (.aload_n 2, 1) := by decide +kernel
theorem rs_d_57_28 : decode (rs_cd 57) 28 = .ok (.aload_n 0, 1) := by decide +kernel
theorem rs_d_57_29 : decode (rs_cd 57) 29 = .ok (.getfield 18, 3) := by decide +kernel
theorem rs_f_57_18 : rs_fd 57 18 = some (7, 1, 2) := by decide +kernel
theorem rs_d_57_32 : decode (rs_cd 57) 32 = .ok (.iload_n 3, 1) := by decide +kernel
theorem rs_d_57_33 : decode (rs_cd 57) 33 = .ok (.aaload, 1) := by decide +kernel
theorem rs_d_57_34 : decode (rs_cd 57) 34 = .ok (.getfield 127, 3) := by decide +kernel
theorem rs_f_57_127 : rs_fd 57 127 = some (0, 0, 0) := by decide +kernel
theorem rs_d_57_37 : decode (rs_cd 57) 37 = .ok (.aload_n 0, 1) := by decide +kernel
theorem rs_d_57_38 : decode (rs_cd 57) 38 = .ok (.getfield 18, 3) := by decide +kernel
theorem rs_d_57_41 : decode (rs_cd 57) 41 = .ok (.iload_n 3, 1) := by decide +kernel
theorem rs_d_57_42 : decode (rs_cd 57) 42 = .ok (.aaload, 1) := by decide +kernel
theorem rs_d_57_43 : decode (rs_cd 57) 43 = .ok (.getfield 130, 3) := by decide +kernel
theorem rs_f_57_130 : rs_fd 57 130 = some (0, 1, 0) := by decide +kernel
theorem rs_d_57_46 : decode (rs_cd 57) 46 = .ok (.aload_n 0, 1) := by decide +kernel
theorem rs_d_57_47 : decode (rs_cd 57) 47 = .ok (.getfield 18, 3) := by decide +kernel
theorem rs_d_57_50 : decode (rs_cd 57) 50 = .ok (.iload_n 3, 1) := by decide +kernel
theorem rs_d_57_51 : decode (rs_cd 57) 51 = .ok (.aaload, 1) := by decide +kernel
theorem rs_d_57_52 : decode (rs_cd 57) 52 = .ok (.getfield 132, 3) := by decide +kernel
theorem rs_f_57_132 : rs_fd 57 132 = some (0, 2, 0) := by decide +kernel
theorem rs_d_57_55 : decode (rs_cd 57) 55 = .ok (.invokevirtual 203, 3) := by decide +kernel
theorem rs_t_57_203 : rs_tg 57 203 = some 26 := by decide +kernel
theorem rs_d_57_58 : decode (rs_cd 57) 58 = .ok (.iinc 3 1, 3) := by decide +kernel
theorem rs_d_57_61 : decode (rs_cd 57) 61 = .ok (.goto (-51), 3) := by decide +kernel
theorem rs_d_57_64 : decode (rs_cd 57) 64 = .ok (.aload_n 2, 1) := by decide +kernel
theorem rs_d_57_65 : decode (rs_cd 57) 65 = .ok (.iconst 1, 1) := by decide +kernel
theorem rs_d_57_66 : decode (rs_cd 57) 66 = .ok (.aload_n 0, 1) := by decide +kernel
theorem rs_d_57_67 : decode (rs_cd 57) 67 = .ok (.getfield 54, 3) := by decide +kernel
theorem rs_f_57_54 : rs_fd 57 54 = some (7, 6, 0) := by decide +kernel
theorem rs_d_57_70 : decode (rs_cd 57) 70 = .ok (.ishl, 1) := by decide +kernel
theorem rs_d_57_71 : decode (rs_cd 57) 71 = .ok (.iconst 1, 1) := by decide +kernel
theorem rs_d_57_72 : decode (rs_cd 57) 72 = .ok (.isub, 1) := by decide +kernel
theorem rs_d_57_73 : decode (rs_cd 57) 73 = .ok (.putfield 207, 3) := by decide +kernel
theorem rs_f_57_207 : rs_fd 57 207 = some (2, 2, 0) := by decide +kernel
theorem rs_d_57_76 : decode (rs_cd 57) 76 = .ok (.return_, 1) := by decide +kernel
theorem rs_d_58_0 : decode (rs_cd 58) 0 = .ok (.iload_n 1, 1) := by decide +kernel
theorem rs_d_58_1 : decode (rs_cd 58) 1 = .ok (.istore 5, 2) := by decide +kernel
theorem rs_d_58_3 : decode (rs_cd 58) 3 = .ok (.aload_n 0, 1) := by decide +kernel
theorem rs_d_58_4 : decode (rs_cd 58) 4 = .ok (.getfield 122, 3) := by decide +kernel
theorem rs_f_58_122 : rs_fd 58 122 = some (7, 7, 0) := by decide +kernel
theorem rs_d_58_7 : decode (rs_cd 58) 7 = .ok (.iconst 1, 1) := by decide +kernel
theorem rs_d_58_8 : decode (rs_cd 58) 8 = .ok (.isub, 1) := by decide +kernel
theorem rs_d_58_9 : decode (rs_cd 58) 9 = .ok (.istore 6, 2) := by decide +kernel
theorem rs_d_58_11 : decode (rs_cd 58) 11 = .ok (.iload 6, 2) := by decide +kernel
theorem rs_d_58_13 : decode (rs_cd 58) 13 = .ok (.ifCond .lt 71, 3) := by decide +kernel
theorem rs_d_58_16 : decode (rs_cd 58) 16 = .ok (.iload 5, 2) := by decide +kernel
theorem rs_d_58_18 : decode (rs_cd 58) 18 = .ok (.iconst 1, 1) := by decide +kernel
theorem rs_d_58_19 : decode (rs_cd 58) 19 = .ok (.iload 6, 2) := by decide +kernel
theorem rs_d_58_21 : decode (rs_cd 58) 21 = .ok (.ishl, 1) := by decide +kernel
theorem rs_d_58_22 : decode (rs_cd 58) 22 = .ok (.iconst (-1), 1) := by decide +kernel
theorem rs_d_58_23 : decode (rs_cd 58) 23 = .ok (.ixor, 1) := by decide +kernel
theorem rs_d_58_24 : decode (rs_cd 58) 24 = .ok (.iand, 1) := by decide +kernel
theorem rs_d_58_25 : decode (rs_cd 58) 25 = .ok (.istore 7, 2) := by decide +kernel
theorem rs_d_58_27 : decode (rs_cd 58) 27 = .ok (.iload 7, 2) := by decide +kernel
theorem rs_d_58_29 : decode (rs_cd 58) 29 = .ok (.iload 5, 2) := by decide +kernel
theorem rs_d_58_31 : decode (rs_cd 58) 31 = .ok (.if_icmp .eq 47, 3) := by decide +kernel
theorem rs_d_58_34 : decode (rs_cd 58) 34 = .ok (.aload_n 0, 1) := by decide +kernel
theorem rs_d_58_35 : decode (rs_cd 58) 35 = .ok (.iload 7, 2) := by decide +kernel
theorem rs_d_58_37 : decode (rs_cd 58) 37 = .ok (.aload_n 0, 1) := by decide +kernel
theorem rs_d_58_38 : decode (rs_cd 58) 38 = .ok (.getfield 39, 3) := by decide +kernel
theorem rs_f_58_39 : rs_fd 58 39 = some (7, 5, 2) := by decide +kernel
theorem rs_d_58_41 : decode (rs_cd 58) 41 = .ok (.invokevirtual 141, 3) := by decide +kernel
theorem rs_t_58_141 : rs_tg 58 141 = some 57 := by decide +kernel
theorem rs_d_58_44 : decode (rs_cd 58) 44 = .ok (.aload_n 0, 1) := by decide +kernel
theorem rs_d_58_45 : decode (rs_cd 58) 45 = .ok (.getfield 25, 3) := by decide +kernel
theorem rs_f_58_25 : rs_fd 58 25 = some (7, 2, 2) := by decide +kernel
theorem rs_d_58_48 : decode (rs_cd 58) 48 = .ok (.aload_n 0, 1) := by decide +kernel
theorem rs_d_58_49 : decode (rs_cd 58) 49 = .ok (.getfield 39, 3) := by decide +kernel
theorem rs_d_58_52 : decode (rs_cd 58) 52 = .ok (.invokevirtual 145, 3) := by decide +kernel
theorem rs_t_58_145 : rs_tg 58 145 = some 5 := by decide +kernel
theorem rs_d_58_55 : decode (rs_cd 58) 55 = .ok (.aload_n 0, 1) := by decide +kernel
theorem rs_d_58_56 : decode (rs_cd 58) 56 = .ok (.getfield 39, 3) := by decide +kernel
theorem rs_d_58_59 : decode (rs_cd 58) 59 = .ok (.iload_n 2, 1) := by decide +kernel
theorem rs_d_58_60 : decode (rs_cd 58) 60 = .ok (.iload_n 3, 1) := by decide +kernel
theorem rs_d_58_61 : decode (rs_cd 58) 61 = .ok (.invokevirtual 161, 3) := by decide +kernel
theorem rs_t_58_161 : rs_tg 58 161 = some 23 := by decide +kernel
theorem rs_d_58_64 : decode (rs_cd 58) 64 = .ok (.iload 4, 2) := by decide +kernel
theorem rs_d_58_66 : decode (rs_cd 58) 66 = .ok (.if_icmp .ne 8, 3) := by decide +kernel
theorem rs_d_58_69 : decode (rs_cd 58) 69 = .ok (.iload 7, 2) := by decide +kernel
theorem rs_d_58_71 : decode (rs_cd 58) 71 = .ok (.goto 5, 3) := by decide +kernel
theorem rs_d_58_74 : decode (rs_cd 58) 74 = .ok (.iload 5, 2) := by decide +kernel
theorem rs_d_58_76 : decode (rs_cd 58) 76 = .ok (.istore 5, 2) := by decide +kernel
theorem rs_d_58_78 : decode (rs_cd 58) 78 = .ok (.iinc 6 (-1), 3) := by decide +kernel
theorem rs_d_58_81 : decode (rs_cd 58) 81 = .ok (.goto (-70), 3) := by decide +kernel
theorem rs_d_58_84 : decode (rs_cd 58) 84 = .ok (.iload 5, 2) := by decide +kernel
theorem rs_d_58_86 : decode (rs_cd 58) 86 = .ok (.ireturn, 1) := by decide +kernel
theorem rs_d_59_0 : decode (rs_cd 59) 0 = .ok (.aload_n 0, 1) := by decide +kernel
theorem rs_d_59_1 : decode (rs_cd 59) 1 = .ok (.getfield 32, 3) := by decide +kernel
theorem rs_f_59_32 : rs_fd 59 32 = some (7, 3, 2) := by decide +kernel
theorem rs_d_59_4 : decode (rs_cd 59) 4 = .ok (.aload_n 0, 1) := by decide +kernel
theorem rs_d_59_5 : decode (rs_cd 59) 5 = .ok (.getfield 54, 3) := by decide +kernel
theorem rs_f_59_54 : rs_fd 59 54 = some (7, 6, 0) := by decide +kernel
theorem rs_d_59_8 : decode (rs_cd 59) 8 = .ok (.iload_n 1, 1) := by decide +kernel
theorem rs_d_59_9 : decode (rs_cd 59) 9 = .ok (.iload_n 2, 1) := by decide +kernel
theorem rs_d_59_10 : decode (rs_cd 59) 10 = .ok (.iload_n 3, 1) := by decide +kernel
theorem rs_d_59_11 : decode (rs_cd 59) 11 = .ok (.invokevirtual 210, 3) := by decide +kernel
theorem rs_t_59_210 : rs_tg 59 210 = some 28 := by decide +kernel
theorem rs_d_59_14 : decode (rs_cd 59) 14 = .ok (.aload_n 0, 1) := by decide +kernel
theorem rs_d_59_15 : decode (rs_cd 59) 15 = .ok (.aload_n 0, 1) := by decide +kernel
theorem rs_d_59_16 : decode (rs_cd 59) 16 = .ok (.invokevirtual 137, 3) := by decide +kernel
theorem rs_t_59_137 : rs_tg 59 137 = some 56 := by decide +kernel
theorem rs_d_59_19 : decode (rs_cd 59) 19 = .ok (.aload_n 0, 1) := by decide +kernel
theorem rs_d_59_20 : decode (rs_cd 59) 20 = .ok (.getfield 32, 3) := by decide +kernel
theorem rs_d_59_23 : decode (rs_cd 59) 23 = .ok (.getfield 214, 3) := by decide +kernel
theorem rs_f_59_214 : rs_fd 59 214 = some (4, 0, 2) := by decide +kernel
theorem rs_d_59_26 : decode (rs_cd 59) 26 = .ok (.iconst 0, 1) := by decide +kernel
theorem rs_d_59_27 : decode (rs_cd 59) 27 = .ok (.aaload, 1) := by decide +kernel
theorem rs_d_59_28 : decode (rs_cd 59) 28 = .ok (.invokevirtual 141, 3) := by decide +kernel
theorem rs_t_59_141 : rs_tg 59 141 = some 57 := by decide +kernel
theorem rs_d_59_31 : decode (rs_cd 59) 31 = .ok (.aload_n 0, 1) := by decide +kernel
theorem rs_d_59_32 : decode (rs_cd 59) 32 = .ok (.getfield 25, 3) := by decide +kernel
theorem rs_f_59_25 : rs_fd 59 25 = some (7, 2, 2) := by decide +kernel
theorem rs_d_59_35 : decode (rs_cd 59) 35 = .ok (.aload_n 0, 1) := by decide +kernel
theorem rs_d_59_36 : decode (rs_cd 59) 36 = .ok (.getfield 32, 3) := by decide +kernel
theorem rs_d_59_39 : decode (rs_cd 59) 39 = .ok (.getfield 214, 3) := by decide +kernel
theorem rs_d_59_42 : decode (rs_cd 59) 42 = .ok (.iconst 0, 1) := by decide +kernel
theorem rs_d_59_43 : decode (rs_cd 59) 43 = .ok (.aaload, 1) := by decide +kernel
theorem rs_d_59_44 : decode (rs_cd 59) 44 = .ok (.invokevirtual 145, 3) := by decide +kernel
theorem rs_t_59_145 : rs_tg 59 145 = some 5 := by decide +kernel
theorem rs_d_59_47 : decode (rs_cd 59) 47 = .ok (.return_, 1) := by decide +kernel
theorem rs_d_60_0 : decode (rs_cd 60) 0 = .ok (.aload_n 0, 1) := by decide +kernel
theorem rs_d_60_1 : decode (rs_cd 60) 1 = .ok (.getfield 74, 3) := by decide +kernel
theorem rs_f_60_74 : rs_fd 60 74 = some (8, 0, 0) := by decide +kernel
theorem rs_d_60_4 : decode (rs_cd 60) 4 = .ok (.ireturn, 1) := by decide +kernel
theorem rs_d_61_0 : decode (rs_cd 61) 0 = .ok (.aload_n 0, 1) := by decide +kernel
theorem rs_d_61_1 : decode (rs_cd 61) 1 = .ok (.iload_n 1, 1) := by decide +kernel
theorem rs_d_61_2 : decode (rs_cd 61) 2 = .ok (.putfield 74, 3) := by decide +kernel
theorem rs_f_61_74 : rs_fd 61 74 = some (8, 0, 0) := by decide +kernel
theorem rs_d_61_5 : decode (rs_cd 61) 5 = .ok (.iconst 0, 1) := by decide +kernel
theorem rs_d_61_6 : decode (rs_cd 61) 6 = .ok (.ireturn, 1) := by decide +kernel
theorem rs_d_62_0 : decode (rs_cd 62) 0 = .ok (.iload_n 0, 1) := by decide +kernel
theorem rs_d_62_1 : decode (rs_cd 62) 1 = .ok (.iload_n 1, 1) := by decide +kernel
theorem rs_d_62_2 : decode (rs_cd 62) 2 = .ok (.if_icmp .lt 12, 3) := by decide +kernel
theorem rs_d_62_5 : decode (rs_cd 62) 5 = .ok (.iload_n 0, 1) := by decide +kernel
theorem rs_d_62_6 : decode (rs_cd 62) 6 = .ok (.iload_n 2, 1) := by decide +kernel
theorem rs_d_62_7 : decode (rs_cd 62) 7 = .ok (.if_icmp .gt 7, 3) := by decide +kernel
theorem rs_d_62_10 : decode (rs_cd 62) 10 = .ok (.iconst 1, 1) := by decide +kernel
theorem rs_d_62_11 : decode (rs_cd 62) 11 = .ok (.goto 4, 3) := by decide +kernel
theorem rs_d_62_14 : decode (rs_cd 62) 14 = .ok (.iconst 0, 1) := by decide +kernel
theorem rs_d_62_15 : decode (rs_cd 62) 15 = .ok (.ireturn, 1) := by decide +kernel
theorem rs_d_63_0 : decode (rs_cd 63) 0 = .ok (.iload_n 0, 1) := by decide +kernel
theorem rs_d_63_1 : decode (rs_cd 63) 1 = .ok (.iload_n 1, 1) := by decide +kernel
theorem rs_d_63_2 : decode (rs_cd 63) 2 = .ok (.if_icmp .ge 7, 3) := by decide +kernel
theorem rs_d_63_5 : decode (rs_cd 63) 5 = .ok (.iload_n 0, 1) := by decide +kernel
theorem rs_d_63_6 : decode (rs_cd 63) 6 = .ok (.goto 4, 3) := by decide +kernel
theorem rs_d_63_9 : decode (rs_cd 63) 9 = .ok (.iload_n 1, 1) := by decide +kernel
theorem rs_d_63_10 : decode (rs_cd 63) 10 = .ok (.ireturn, 1) := by decide +kernel
theorem rs_d_64_0 : decode (rs_cd 64) 0 = .ok (.iload_n 0, 1) := by decide +kernel
theorem rs_d_64_1 : decode (rs_cd 64) 1 = .ok (.iload_n 1, 1) := by decide +kernel
theorem rs_d_64_2 : decode (rs_cd 64) 2 = .ok (.if_icmp .le 7, 3) := by decide +kernel
theorem rs_d_64_5 : decode (rs_cd 64) 5 = .ok (.iload_n 0, 1) := by decide +kernel
theorem rs_d_64_6 : decode (rs_cd 64) 6 = .ok (.goto 4, 3) := by decide +kernel
theorem rs_d_64_9 : decode (rs_cd 64) 9 = .ok (.iload_n 1, 1) := by decide +kernel
theorem rs_d_64_10 : decode (rs_cd 64) 10 = .ok (.ireturn, 1) := by decide +kernel
theorem rs_d_65_0 : decode (rs_cd 65) 0 = .ok (.iload_n 0, 1) := by decide +kernel
theorem rs_d_65_1 : decode (rs_cd 65) 1 = .ok (.bipush (-100), 2) := by decide +kernel
theorem rs_d_65_3 : decode (rs_cd 65) 3 = .ok (.if_icmp .lt 18, 3) := by decide +kernel
theorem rs_d_65_6 : decode (rs_cd 65) 6 = .ok (.iload_n 1, 1) := by decide +kernel
theorem rs_d_65_7 : decode (rs_cd 65) 7 = .ok (.bipush 100, 2) := by decide +kernel
theorem rs_d_65_9 : decode (rs_cd 65) 9 = .ok (.if_icmp .gt 12, 3) := by decide +kernel
theorem rs_d_65_12 : decode (rs_cd 65) 12 = .ok (.iload_n 0, 1) := by decide +kernel
theorem rs_d_65_13 : decode (rs_cd 65) 13 = .ok (.iload_n 1, 1) := by decide +kernel
theorem rs_d_65_14 : decode (rs_cd 65) 14 = .ok (.if_icmp .gt 7, 3) := by decide +kernel
theorem rs_d_65_17 : decode (rs_cd 65) 17 = .ok (.iconst 1, 1) := by decide +kernel
theorem rs_d_65_18 : decode (rs_cd 65) 18 = .ok (.goto 4, 3) := by decide +kernel
theorem rs_d_65_21 : decode (rs_cd 65) 21 = .ok (.iconst 0, 1) := by decide +kernel
theorem rs_d_65_22 : decode (rs_cd 65) 22 = .ok (.ireturn, 1) := by decide +kernel
theorem rs_d_66_0 : decode (rs_cd 66) 0 = .ok (.aload_n 0, 1) := by decide +kernel
theorem rs_d_66_1 : decode (rs_cd 66) 1 = .ok (.iconst 0, 1) := by decide +kernel
theorem rs_d_66_2 : decode (rs_cd 66) 2 = .ok (.putfield 74, 3) := by decide +kernel
theorem rs_f_66_74 : rs_fd 66 74 = some (8, 0, 0) := by decide +kernel
theorem rs_d_66_5 : decode (rs_cd 66) 5 = .ok (.iload_n 1, 1) := by decide +kernel
theorem rs_d_66_6 : decode (rs_cd 66) 6 = .ok (.iload_n 2, 1) := by decide +kernel
theorem rs_d_66_7 : decode (rs_cd 66) 7 = .ok (.invokestatic 78, 3) := by decide +kernel
theorem rs_t_66_78 : rs_tg 66 78 = some 65 := by decide +kernel
theorem rs_d_66_10 : decode (rs_cd 66) 10 = .ok (.ifCond .ne 9, 3) := by decide +kernel
theorem rs_d_66_13 : decode (rs_cd 66) 13 = .ok (.aload_n 0, 1) := by decide +kernel
theorem rs_d_66_14 : decode (rs_cd 66) 14 = .ok (.iconst 1, 1) := by decide +kernel
theorem rs_d_66_15 : decode (rs_cd 66) 15 = .ok (.invokevirtual 82, 3) := by decide +kernel
theorem rs_t_66_82 : rs_tg 66 82 = some 61 := by decide +kernel
theorem rs_d_66_18 : decode (rs_cd 66) 18 = .ok (.ireturn, 1) := by decide +kernel
theorem rs_d_66_19 : decode (rs_cd 66) 19 = .ok (.aload_n 0, 1) := by decide +kernel
theorem rs_d_66_20 : decode (rs_cd 66) 20 = .ok (.getfield 86, 3) := by decide +kernel
theorem rs_f_66_86 : rs_fd 66 86 = some (8, 1, 0) := by decide +kernel
theorem rs_d_66_23 : decode (rs_cd 66) 23 = .ok (.bipush 10, 2) := by decide +kernel
theorem rs_d_66_25 : decode (rs_cd 66) 25 = .ok (.if_icmp .ne 9, 3) := by decide +kernel
theorem rs_d_66_28 : decode (rs_cd 66) 28 = .ok (.aload_n 0, 1) := by decide +kernel
theorem rs_d_66_29 : decode (rs_cd 66) 29 = .ok (.iconst 2, 1) := by decide +kernel
theorem rs_d_66_30 : decode (rs_cd 66) 30 = .ok (.invokevirtual 82, 3) := by decide +kernel
theorem rs_d_66_33 : decode (rs_cd 66) 33 = .ok (.ireturn, 1) := by decide +kernel
theorem rs_d_66_34 : decode (rs_cd 66) 34 = .ok (.aload_n 0, 1) := by decide +kernel
theorem rs_d_66_35 : decode (rs_cd 66) 35 = .ok (.getfield 7, 3) := by decide +kernel
theorem rs_f_66_7 : rs_fd 66 7 = some (8, 2, 2) := by decide +kernel
theorem rs_d_66_38 : decode (rs_cd 66) 38 = .ok (.aload_n 0, 1) := by decide +kernel
theorem rs_d_66_39 : decode (rs_cd 66) 39 = .ok (.getfield 86, 3) := by decide +kernel
theorem rs_d_66_42 : decode (rs_cd 66) 42 = .ok (.iload_n 1, 1) := by decide +kernel
theorem rs_d_66_43 : decode (rs_cd 66) 43 = .ok (.iastore, 1) := by decide +kernel
theorem rs_d_66_44 : decode (rs_cd 66) 44 = .ok (.aload_n 0, 1) := by decide +kernel
theorem rs_d_66_45 : decode (rs_cd 66) 45 = .ok (.getfield 13, 3) := by decide +kernel
theorem rs_f_66_13 : rs_fd 66 13 = some (8, 3, 2) := by decide +kernel
theorem rs_d_66_48 : decode (rs_cd 66) 48 = .ok (.aload_n 0, 1) := by decide +kernel
theorem rs_d_66_49 : decode (rs_cd 66) 49 = .ok (.getfield 86, 3) := by decide +kernel
theorem rs_d_66_52 : decode (rs_cd 66) 52 = .ok (.iload_n 2, 1) := by decide +kernel
theorem rs_d_66_53 : decode (rs_cd 66) 53 = .ok (.iastore, 1) := by decide +kernel
theorem rs_d_66_54 : decode (rs_cd 66) 54 = .ok (.aload_n 0, 1) := by decide +kernel
theorem rs_d_66_55 : decode (rs_cd 66) 55 = .ok (.dup, 1) := by decide +kernel
theorem rs_d_66_56 : decode (rs_cd 66) 56 = .ok (.getfield 86, 3) := by decide +kernel
theorem rs_d_66_59 : decode (rs_cd 66) 59 = .ok (.iconst 1, 1) := by decide +kernel
theorem rs_d_66_60 : decode (rs_cd 66) 60 = .ok (.iadd, 1) := by decide +kernel
theorem rs_d_66_61 : decode (rs_cd 66) 61 = .ok (.putfield 86, 3) := by decide +kernel
theorem rs_d_66_64 : decode (rs_cd 66) 64 = .ok (.aload_n 0, 1) := by decide +kernel
theorem rs_d_66_65 : decode (rs_cd 66) 65 = .ok (.getfield 86, 3) := by decide +kernel
theorem rs_d_66_68 : decode (rs_cd 66) 68 = .ok (.iconst 1, 1) := by decide +kernel
theorem rs_d_66_69 : decode (rs_cd 66) 69 = .ok (.isub, 1) := by decide +kernel
theorem rs_d_66_70 : decode (rs_cd 66) 70 = .ok (.ireturn, 1) := by decide +kernel
theorem rs_d_67_0 : decode (rs_cd 67) 0 = .ok (.iload_n 1, 1) := by decide +kernel
theorem rs_d_67_1 : decode (rs_cd 67) 1 = .ok (.iconst 0, 1) := by decide +kernel
theorem rs_d_67_2 : decode (rs_cd 67) 2 = .ok (.aload_n 0, 1) := by decide +kernel
theorem rs_d_67_3 : decode (rs_cd 67) 3 = .ok (.getfield 86, 3) := by decide +kernel
theorem rs_f_67_86 : rs_fd 67 86 = some (8, 1, 0) := by decide +kernel
theorem rs_d_67_6 : decode (rs_cd 67) 6 = .ok (.iconst 1, 1) := by decide +kernel
theorem rs_d_67_7 : decode (rs_cd 67) 7 = .ok (.isub, 1) := by decide +kernel
theorem rs_d_67_8 : decode (rs_cd 67) 8 = .ok (.invokestatic 89, 3) := by decide +kernel
theorem rs_t_67_89 : rs_tg 67 89 = some 62 := by decide +kernel
theorem rs_d_67_11 : decode (rs_cd 67) 11 = .ok (.ireturn, 1) := by decide +kernel
theorem rs_d_68_0 : decode (rs_cd 68) 0 = .ok (.iconst 0, 1) := by decide +kernel
theorem rs_d_68_1 : decode (rs_cd 68) 1 = .ok (.istore_n 1, 1) := by decide +kernel
theorem rs_d_68_2 : decode (rs_cd 68) 2 = .ok (.iconst 0, 1) := by decide +kernel
theorem rs_d_68_3 : decode (rs_cd 68) 3 = .ok (.istore_n 2, 1) := by decide +kernel
theorem rs_d_68_4 : decode (rs_cd 68) 4 = .ok (.iload_n 2, 1) := by decide +kernel
theorem rs_d_68_5 : decode (rs_cd 68) 5 = .ok (.bipush 31, 2) := by decide +kernel
theorem rs_d_68_7 : decode (rs_cd 68) 7 = .ok (.if_icmp .ge 17, 3) := by decide +kernel
theorem rs_d_68_10 : decode (rs_cd 68) 10 = .ok (.iload_n 1, 1) := by decide +kernel
theorem rs_d_68_11 : decode (rs_cd 68) 11 = .ok (.iload_n 0, 1) := by decide +kernel
theorem rs_d_68_12 : decode (rs_cd 68) 12 = .ok (.iload_n 2, 1) := by decide +kernel
theorem rs_d_68_13 : decode (rs_cd 68) 13 = .ok (.ishr, 1) := by decide +kernel
theorem rs_d_68_14 : decode (rs_cd 68) 14 = .ok (.iconst 1, 1) := by decide +kernel
theorem rs_d_68_15 : decode (rs_cd 68) 15 = .ok (.iand, 1) := by decide +kernel
theorem rs_d_68_16 : decode (rs_cd 68) 16 = .ok (.iadd, 1) := by decide +kernel
theorem rs_d_68_17 : decode (rs_cd 68) 17 = .ok (.istore_n 1, 1) := by decide +kernel
theorem rs_d_68_18 : decode (rs_cd 68) 18 = .ok (.iinc 2 1, 3) := by decide +kernel
theorem rs_d_68_21 : decode (rs_cd 68) 21 = .ok (.goto (-17), 3) := by decide +kernel
theorem rs_d_68_24 : decode (rs_cd 68) 24 = .ok (.iload_n 1, 1) := by decide +kernel
theorem rs_d_68_25 : decode (rs_cd 68) 25 = .ok (.ireturn, 1) := by decide +kernel
theorem rs_d_69_0 : decode (rs_cd 69) 0 = .ok (.iload_n 1, 1) := by decide +kernel
theorem rs_d_69_1 : decode (rs_cd 69) 1 = .ok (.iconst 0, 1) := by decide +kernel
theorem rs_d_69_2 : decode (rs_cd 69) 2 = .ok (.bipush 8, 2) := by decide +kernel
theorem rs_d_69_4 : decode (rs_cd 69) 4 = .ok (.invokestatic 89, 3) := by decide +kernel
theorem rs_t_69_89 : rs_tg 69 89 = some 62 := by decide +kernel
theorem rs_d_69_7 : decode (rs_cd 69) 7 = .ok (.ifCond .ne 5, 3) := by decide +kernel
theorem rs_d_69_10 : decode (rs_cd 69) 10 = .ok (.iconst 0, 1) := by decide +kernel
theorem rs_d_69_11 : decode (rs_cd 69) 11 = .ok (.ireturn, 1) := by decide +kernel
theorem rs_d_69_12 : decode (rs_cd 69) 12 = .ok (.iload_n 1, 1) := by decide +kernel
theorem rs_d_69_13 : decode (rs_cd 69) 13 = .ok (.bipush 7, 2) := by decide +kernel
theorem rs_d_69_15 : decode (rs_cd 69) 15 = .ok (.if_icmp .ne 33, 3) := by decide +kernel
theorem rs_d_69_18 : decode (rs_cd 69) 18 = .ok (.iload_n 2, 1) := by decide +kernel
theorem rs_d_69_19 : decode (rs_cd 69) 19 = .ok (.iconst 1, 1) := by decide +kernel
theorem rs_d_69_20 : decode (rs_cd 69) 20 = .ok (.iconst 1, 1) := by decide +kernel
theorem rs_d_69_21 : decode (rs_cd 69) 21 = .ok (.aload_n 0, 1) := by decide +kernel
theorem rs_d_69_22 : decode (rs_cd 69) 22 = .ok (.getfield 86, 3) := by decide +kernel
theorem rs_f_69_86 : rs_fd 69 86 = some (8, 1, 0) := by decide +kernel
theorem rs_d_69_25 : decode (rs_cd 69) 25 = .ok (.ishl, 1) := by decide +kernel
theorem rs_d_69_26 : decode (rs_cd 69) 26 = .ok (.iconst 1, 1) := by decide +kernel
theorem rs_d_69_27 : decode (rs_cd 69) 27 = .ok (.isub, 1) := by decide +kernel
theorem rs_d_69_28 : decode (rs_cd 69) 28 = .ok (.invokestatic 89, 3) := by decide +kernel
theorem rs_d_69_31 : decode (rs_cd 69) 31 = .ok (.ifCond .eq 15, 3) := by decide +kernel
theorem rs_d_69_34 : decode (rs_cd 69) 34 = .ok (.iload_n 2, 1) := by decide +kernel
theorem rs_d_69_35 : decode (rs_cd 69) 35 = .ok (.invokestatic 93, 3) := by decide +kernel
theorem rs_t_69_93 : rs_tg 69 93 = some 68 := by decide +kernel
theorem rs_d_69_38 : decode (rs_cd 69) 38 = .ok (.iconst 1, 1) := by decide +kernel
theorem rs_d_69_39 : decode (rs_cd 69) 39 = .ok (.if_icmp .le 7, 3) := by decide +kernel
theorem rs_d_69_42 : decode (rs_cd 69) 42 = .ok (.iconst 1, 1) := by decide +kernel
theorem rs_d_69_43 : decode (rs_cd 69) 43 = .ok (.goto 4, 3) := by decide +kernel
theorem rs_d_69_46 : decode (rs_cd 69) 46 = .ok (.iconst 0, 1) := by decide +kernel
theorem rs_d_69_47 : decode (rs_cd 69) 47 = .ok (.ireturn, 1) := by decide +kernel
theorem rs_d_69_48 : decode (rs_cd 69) 48 = .ok (.iload_n 1, 1) := by decide +kernel
theorem rs_d_69_49 : decode (rs_cd 69) 49 = .ok (.iconst 5, 1) := by decide +kernel
theorem rs_d_69_50 : decode (rs_cd 69) 50 = .ok (.if_icmp .ne 17, 3) := by decide +kernel
theorem rs_d_69_53 : decode (rs_cd 69) 53 = .ok (.iload 4, 2) := by decide +kernel
theorem rs_d_69_55 : decode (rs_cd 69) 55 = .ok (.sipush (-200), 3) := by decide +kernel
theorem rs_d_69_58 : decode (rs_cd 69) 58 = .ok (.sipush 200, 3) := by decide +kernel
theorem rs_d_69_61 : decode (rs_cd 69) 61 = .ok (.invokestatic 89, 3) := by decide +kernel
theorem rs_d_69_64 : decode (rs_cd 69) 64 = .ok (.goto 25, 3) := by decide +kernel
theorem rs_d_69_67 : decode (rs_cd 69) 67 = .ok (.iload_n 1, 1) := by decide +kernel
theorem rs_d_69_68 : decode (rs_cd 69) 68 = .ok (.bipush 7, 2) := by decide +kernel
theorem rs_d_69_70 : decode (rs_cd 69) 70 = .ok (.if_icmp .le 13, 3) := by decide +kernel
theorem rs_d_69_73 : decode (rs_cd 69) 73 = .ok (.iload 4, 2) := by decide +kernel
theorem rs_d_69_75 : decode (rs_cd 69) 75 = .ok (.iconst 0, 1) := by decide +kernel
theorem rs_d_69_76 : decode (rs_cd 69) 76 = .ok (.iconst 2, 1) := by decide +kernel
theorem rs_d_69_77 : decode (rs_cd 69) 77 = .ok (.invokestatic 89, 3) := by decide +kernel
theorem rs_d_69_80 : decode (rs_cd 69) 80 = .ok (.goto 9, 3) := by decide +kernel
theorem rs_d_69_83 : decode (rs_cd 69) 83 = .ok (.aload_n 0, 1) := by decide +kernel
theorem rs_d_69_84 : decode (rs_cd 69) 84 = .ok (.iload 4, 2) := by decide +kernel
theorem rs_d_69_86 : decode (rs_cd 69) 86 = .ok (.invokevirtual 96, 3) := by decide +kernel
theorem rs_t_69_96 : rs_tg 69 96 = some 67 := by decide +kernel
theorem rs_d_69_89 : decode (rs_cd 69) 89 = .ok (.istore 5, 2) := by decide +kernel
theorem rs_d_69_91 : decode (rs_cd 69) 91 = .ok (.iload 5, 2) := by decide +kernel
theorem rs_d_69_93 : decode (rs_cd 69) 93 = .ok (.ifCond .eq 23, 3) := by decide +kernel
theorem rs_d_69_96 : decode (rs_cd 69) 96 = .ok (.aload_n 0, 1) := by decide +kernel
theorem rs_d_69_97 : decode (rs_cd 69) 97 = .ok (.iload_n 2, 1) := by decide +kernel
theorem rs_d_69_98 : decode (rs_cd 69) 98 = .ok (.invokevirtual 96, 3) := by decide +kernel
theorem rs_d_69_101 : decode (rs_cd 69) 101 = .ok (.ifCond .eq 15, 3) := by decide +kernel
theorem rs_d_69_104 : decode (rs_cd 69) 104 = .ok (.aload_n 0, 1) := by decide +kernel
theorem rs_d_69_105 : decode (rs_cd 69) 105 = .ok (.iload_n 3, 1) := by decide +kernel
theorem rs_d_69_106 : decode (rs_cd 69) 106 = .ok (.invokevirtual 96, 3) := by decide +kernel
theorem rs_d_69_109 : decode (rs_cd 69) 109 = .ok (.ifCond .eq 7, 3) := by decide +kernel
theorem rs_d_69_112 : decode (rs_cd 69) 112 = .ok (.iconst 1, 1) := by decide +kernel
theorem rs_d_69_113 : decode (rs_cd 69) 113 = .ok (.goto 4, 3) := by decide +kernel
theorem rs_d_69_116 : decode (rs_cd 69) 116 = .ok (.iconst 0, 1) := by decide +kernel
theorem rs_d_69_117 : decode (rs_cd 69) 117 = .ok (.ireturn, 1) := by decide +kernel
