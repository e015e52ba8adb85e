theorem rs_d_101_0 : decode (rs_cd 101) 0 = .ok (.iload_n 2, 1) := by decide +kernel
theorem rs_d_101_1 : decode (rs_cd 101) 1 = .ok (.ifCond .lt 30, 3) := by decide +kernel
theorem rs_d_101_4 : decode (rs_cd 101) 4 = .ok (.aload_n 0, 1) := by decide +kernel
theorem rs_d_101_5 : decode (rs_cd 101) 5 = .ok (.getfield 50, 3) := by decide +kernel
theorem rs_f_101_50 : rs_fd 101 50 = some (8, 18, 2) := by decide +kernel
theorem rs_d_101_8 : decode (rs_cd 101) 8 = .ok (.bipush 10, 2) := by decide +kernel
theorem rs_d_101_10 : decode (rs_cd 101) 10 = .ok (.iload_n 1, 1) := by decide +kernel
theorem rs_d_101_11 : decode (rs_cd 101) 11 = .ok (.imul, 1) := by decide +kernel
theorem rs_d_101_12 : decode (rs_cd 101) 12 = .ok (.iload_n 2, 1) := by decide +kernel
theorem rs_d_101_13 : decode (rs_cd 101) 13 = .ok (.iadd, 1) := by decide +kernel
theorem rs_d_101_14 : decode (rs_cd 101) 14 = .ok (.iaload, 1) := by decide +kernel
theorem rs_d_101_15 : decode (rs_cd 101) 15 = .ok (.aload_n 0, 1) := by decide +kernel
theorem rs_d_101_16 : decode (rs_cd 101) 16 = .ok (.getfield 53, 3) := by decide +kernel
theorem rs_f_101_53 : rs_fd 101 53 = some (8, 19, 2) := by decide +kernel
theorem rs_d_101_19 : decode (rs_cd 101) 19 = .ok (.bipush 10, 2) := by decide +kernel
theorem rs_d_101_21 : decode (rs_cd 101) 21 = .ok (.iload_n 1, 1) := by decide +kernel
theorem rs_d_101_22 : decode (rs_cd 101) 22 = .ok (.imul, 1) := by decide +kernel
theorem rs_d_101_23 : decode (rs_cd 101) 23 = .ok (.iload_n 2, 1) := by decide +kernel
theorem rs_d_101_24 : decode (rs_cd 101) 24 = .ok (.iadd, 1) := by decide +kernel
theorem rs_d_101_25 : decode (rs_cd 101) 25 = .ok (.iaload, 1) := by decide +kernel
theorem rs_d_101_26 : decode (rs_cd 101) 26 = .ok (.if_icmp .ge 5, 3) := by decide +kernel
theorem rs_d_101_29 : decode (rs_cd 101) 29 = .ok (.iload_n 2, 1) := by decide +kernel
theorem rs_d_101_30 : decode (rs_cd 101) 30 = .ok (.ireturn, 1) := by decide +kernel
theorem rs_d_101_31 : decode (rs_cd 101) 31 = .ok (.iconst 0, 1) := by decide +kernel
theorem rs_d_101_32 : decode (rs_cd 101) 32 = .ok (.istore_n 3, 1) := by decide +kernel
theorem rs_d_101_33 : decode (rs_cd 101) 33 = .ok (.iload_n 3, 1) := by decide +kernel
theorem rs_d_101_34 : decode (rs_cd 101) 34 = .ok (.aload_n 0, 1) := by decide +kernel
theorem rs_d_101_35 : decode (rs_cd 101) 35 = .ok (.getfield 86, 3) := by decide +kernel
theorem rs_f_101_86 : rs_fd 101 86 = some (8, 1, 0) := by decide +kernel
theorem rs_d_101_38 : decode (rs_cd 101) 38 = .ok (.if_icmp .ge 36, 3) := by decide +kernel
theorem rs_d_101_41 : decode (rs_cd 101) 41 = .ok (.aload_n 0, 1) := by decide +kernel
theorem rs_d_101_42 : decode (rs_cd 101) 42 = .ok (.getfield 50, 3) := by decide +kernel
theorem rs_d_101_45 : decode (rs_cd 101) 45 = .ok (.bipush 10, 2) := by decide +kernel
theorem rs_d_101_47 : decode (rs_cd 101) 47 = .ok (.iload_n 1, 1) := by decide +kernel
theorem rs_d_101_48 : decode (rs_cd 101) 48 = .ok (.imul, 1) := by decide +kernel
theorem rs_d_101_49 : decode (rs_cd 101) 49 = .ok (.iload_n 3, 1) := by decide +kernel
theorem rs_d_101_50 : decode (rs_cd 101) 50 = .ok (.iadd, 1) := by decide +kernel
theorem rs_d_101_51 : decode (rs_cd 101) 51 = .ok (.iaload, 1) := by decide +kernel
theorem rs_d_101_52 : decode (rs_cd 101) 52 = .ok (.aload_n 0, 1) := by decide +kernel
theorem rs_d_101_53 : decode (rs_cd 101) 53 = .ok (.getfield 53, 3) := by decide +kernel
theorem rs_d_101_56 : decode (rs_cd 101) 56 = .ok (.bipush 10, 2) := by decide +kernel
theorem rs_d_101_58 : decode (rs_cd 101) 58 = .ok (.iload_n 1, 1) := by decide +kernel
theorem rs_d_101_59 : decode (rs_cd 101) 59 = .ok (.imul, 1) := by decide +kernel
theorem rs_d_101_60 : decode (rs_cd 101) 60 = .ok (.iload_n 3, 1) := by decide +kernel
theorem rs_d_101_61 : decode (rs_cd 101) 61 = .ok (.iadd, 1) := by decide +kernel
theorem rs_d_101_62 : decode (rs_cd 101) 62 = .ok (.iaload, 1) := by decide +kernel
theorem rs_d_101_63 : decode (rs_cd 101) 63 = .ok (.if_icmp .ge 5, 3) := by decide +kernel
theorem rs_d_101_66 : decode (rs_cd 101) 66 = .ok (.iload_n 3, 1) := by decide +kernel
theorem rs_d_101_67 : decode (rs_cd 101) 67 = .ok (.ireturn, 1) := by decide +kernel
theorem rs_d_101_68 : decode (rs_cd 101) 68 = .ok (.iinc 3 1, 3) := by decide +kernel
theorem rs_d_101_71 : decode (rs_cd 101) 71 = .ok (.goto (-38), 3) := by decide +kernel
theorem rs_d_101_74 : decode (rs_cd 101) 74 = .ok (.iconst (-1), 1) := by decide +kernel
theorem rs_d_101_75 : decode (rs_cd 101) 75 = .ok (.ireturn, 1) := by decide +kernel
theorem rs_d_102_0 : decode (rs_cd 102) 0 = .ok (.iconst 0, 1) := by decide +kernel
theorem rs_d_102_1 : decode (rs_cd 102) 1 = .ok (.istore_n 2, 1) := by decide +kernel
theorem rs_d_102_2 : decode (rs_cd 102) 2 = .ok (.iload_n 2, 1) := by decide +kernel
theorem rs_d_102_3 : decode (rs_cd 102) 3 = .ok (.aload_n 0, 1) := by decide +kernel
theorem rs_d_102_4 : decode (rs_cd 102) 4 = .ok (.getfield 86, 3) := by decide +kernel
theorem rs_f_102_86 : rs_fd 102 86 = some (8, 1, 0) := by decide +kernel
theorem rs_d_102_7 : decode (rs_cd 102) 7 = .ok (.if_icmp .ge 26, 3) := by decide +kernel
theorem rs_d_102_10 : decode (rs_cd 102) 10 = .ok (.aload_n 0, 1) := by decide +kernel
theorem rs_d_102_11 : decode (rs_cd 102) 11 = .ok (.getfield 65, 3) := by decide +kernel
theorem rs_f_102_65 : rs_fd 102 65 = some (8, 33, 2) := by decide +kernel
theorem rs_d_102_14 : decode (rs_cd 102) 14 = .ok (.iload_n 2, 1) := by decide +kernel
theorem rs_d_102_15 : decode (rs_cd 102) 15 = .ok (.aload_n 0, 1) := by decide +kernel
theorem rs_d_102_16 : decode (rs_cd 102) 16 = .ok (.getfield 50, 3) := by decide +kernel
theorem rs_f_102_50 : rs_fd 102 50 = some (8, 18, 2) := by decide +kernel
theorem rs_d_102_19 : decode (rs_cd 102) 19 = .ok (.bipush 10, 2) := by decide +kernel
theorem rs_d_102_21 : decode (rs_cd 102) 21 = .ok (.iload_n 1, 1) := by decide +kernel
theorem rs_d_102_22 : decode (rs_cd 102) 22 = .ok (.imul, 1) := by decide +kernel
theorem rs_d_102_23 : decode (rs_cd 102) 23 = .ok (.iload_n 2, 1) := by decide +kernel
theorem rs_d_102_24 : decode (rs_cd 102) 24 = .ok (.iadd, 1) := by decide +kernel
theorem rs_d_102_25 : decode (rs_cd 102) 25 = .ok (.iaload, 1) := by decide +kernel
theorem rs_d_102_26 : decode (rs_cd 102) 26 = .ok (.iastore, 1) := by decide +kernel
theorem rs_d_102_27 : decode (rs_cd 102) 27 = .ok (.iinc 2 1, 3) := by decide +kernel
theorem rs_d_102_30 : decode (rs_cd 102) 30 = .ok (.goto (-28), 3) := by decide +kernel
theorem rs_d_102_33 : decode (rs_cd 102) 33 = .ok (.aload_n 0, 1) := by decide +kernel
theorem rs_d_102_34 : decode (rs_cd 102) 34 = .ok (.aload_n 0, 1) := by decide +kernel
theorem rs_d_102_35 : decode (rs_cd 102) 35 = .ok (.getfield 86, 3) := by decide +kernel
theorem rs_d_102_38 : decode (rs_cd 102) 38 = .ok (.putfield 214, 3) := by decide +kernel
theorem rs_f_102_214 : rs_fd 102 214 = some (8, 32, 0) := by decide +kernel
theorem rs_d_102_41 : decode (rs_cd 102) 41 = .ok (.return_, 1) := by decide +kernel
theorem rs_d_103_0 : decode (rs_cd 103) 0 = .ok (.iconst 0, 1) := by decide +kernel
theorem rs_d_103_1 : decode (rs_cd 103) 1 = .ok (.istore_n 3, 1) := by decide +kernel
theorem rs_d_103_2 : decode (rs_cd 103) 2 = .ok (.iload_n 3, 1) := by decide +kernel
theorem rs_d_103_3 : decode (rs_cd 103) 3 = .ok (.aload_n 0, 1) := by decide +kernel
theorem rs_d_103_4 : decode (rs_cd 103) 4 = .ok (.getfield 86, 3) := by decide +kernel
theorem rs_f_103_86 : rs_fd 103 86 = some (8, 1, 0) := by decide +kernel
theorem rs_d_103_7 : decode (rs_cd 103) 7 = .ok (.if_icmp .ge 59, 3) := by decide +kernel
theorem rs_d_103_10 : decode (rs_cd 103) 10 = .ok (.aload_n 0, 1) := by decide +kernel
theorem rs_d_103_11 : decode (rs_cd 103) 11 = .ok (.getfield 50, 3) := by decide +kernel
theorem rs_f_103_50 : rs_fd 103 50 = some (8, 18, 2) := by decide +kernel
theorem rs_d_103_14 : decode (rs_cd 103) 14 = .ok (.bipush 10, 2) := by decide +kernel
theorem rs_d_103_16 : decode (rs_cd 103) 16 = .ok (.iload_n 1, 1) := by decide +kernel
theorem rs_d_103_17 : decode (rs_cd 103) 17 = .ok (.imul, 1) := by decide +kernel
theorem rs_d_103_18 : decode (rs_cd 103) 18 = .ok (.bipush 10, 2) := by decide +kernel
theorem rs_d_103_20 : decode (rs_cd 103) 20 = .ok (.iadd, 1) := by decide +kernel
theorem rs_d_103_21 : decode (rs_cd 103) 21 = .ok (.iload_n 3, 1) := by decide +kernel
theorem rs_d_103_22 : decode (rs_cd 103) 22 = .ok (.iadd, 1) := by decide +kernel
theorem rs_d_103_23 : decode (rs_cd 103) 23 = .ok (.aload_n 0, 1) := by decide +kernel
theorem rs_d_103_24 : decode (rs_cd 103) 24 = .ok (.getfield 50, 3) := by decide +kernel
theorem rs_d_103_27 : decode (rs_cd 103) 27 = .ok (.bipush 10, 2) := by decide +kernel
theorem rs_d_103_29 : decode (rs_cd 103) 29 = .ok (.iload_n 1, 1) := by decide +kernel
theorem rs_d_103_30 : decode (rs_cd 103) 30 = .ok (.imul, 1) := by decide +kernel
theorem rs_d_103_31 : decode (rs_cd 103) 31 = .ok (.iload_n 3, 1) := by decide +kernel
theorem rs_d_103_32 : decode (rs_cd 103) 32 = .ok (.iadd, 1) := by decide +kernel
theorem rs_d_103_33 : decode (rs_cd 103) 33 = .ok (.iaload, 1) := by decide +kernel
theorem rs_d_103_34 : decode (rs_cd 103) 34 = .ok (.iastore, 1) := by decide +kernel
theorem rs_d_103_35 : decode (rs_cd 103) 35 = .ok (.aload_n 0, 1) := by decide +kernel
theorem rs_d_103_36 : decode (rs_cd 103) 36 = .ok (.getfield 53, 3) := by decide +kernel
theorem rs_f_103_53 : rs_fd 103 53 = some (8, 19, 2) := by decide +kernel
theorem rs_d_103_39 : decode (rs_cd 103) 39 = .ok (.bipush 10, 2) := by decide +kernel
theorem rs_d_103_41 : decode (rs_cd 103) 41 = .ok (.iload_n 1, 1) := by decide +kernel
theorem rs_d_103_42 : decode (rs_cd 103) 42 = .ok (.imul, 1) := by decide +kernel
theorem rs_d_103_43 : decode (rs_cd 103) 43 = .ok (.bipush 10, 2) := by decide +kernel
theorem rs_d_103_45 : decode (rs_cd 103) 45 = .ok (.iadd, 1) := by decide +kernel
theorem rs_d_103_46 : decode (rs_cd 103) 46 = .ok (.iload_n 3, 1) := by decide +kernel
theorem rs_d_103_47 : decode (rs_cd 103) 47 = .ok (.iadd, 1) := by decide +kernel
theorem rs_d_103_48 : decode (rs_cd 103) 48 = .ok (.aload_n 0, 1) := by decide +kernel
theorem rs_d_103_49 : decode (rs_cd 103) 49 = .ok (.getfield 53, 3) := by decide +kernel
theorem rs_d_103_52 : decode (rs_cd 103) 52 = .ok (.bipush 10, 2) := by decide +kernel
theorem rs_d_103_54 : decode (rs_cd 103) 54 = .ok (.iload_n 1, 1) := by decide +kernel
theorem rs_d_103_55 : decode (rs_cd 103) 55 = .ok (.imul, 1) := by decide +kernel
theorem rs_d_103_56 : decode (rs_cd 103) 56 = .ok (.iload_n 3, 1) := by decide +kernel
theorem rs_d_103_57 : decode (rs_cd 103) 57 = .ok (.iadd, 1) := by decide +kernel
theorem rs_d_103_58 : decode (rs_cd 103) 58 = .ok (.iaload, 1) := by decide +kernel
theorem rs_d_103_59 : decode (rs_cd 103) 59 = .ok (.iastore, 1) := by decide +kernel
theorem rs_d_103_60 : decode (rs_cd 103) 60 = .ok (.iinc 3 1, 3) := by decide +kernel
theorem rs_d_103_63 : decode (rs_cd 103) 63 = .ok (.goto (-61), 3) := by decide +kernel
theorem rs_d_103_66 : decode (rs_cd 103) 66 = .ok (.aload_n 0, 1) := by decide +kernel
theorem rs_d_103_67 : decode (rs_cd 103) 67 = .ok (.getfield 50, 3) := by decide +kernel
theorem rs_d_103_70 : decode (rs_cd 103) 70 = .ok (.bipush 10, 2) := by decide +kernel
theorem rs_d_103_72 : decode (rs_cd 103) 72 = .ok (.iload_n 1, 1) := by decide +kernel
theorem rs_d_103_73 : decode (rs_cd 103) 73 = .ok (.imul, 1) := by decide +kernel
theorem rs_d_103_74 : decode (rs_cd 103) 74 = .ok (.bipush 10, 2) := by decide +kernel
theorem rs_d_103_76 : decode (rs_cd 103) 76 = .ok (.iadd, 1) := by decide +kernel
theorem rs_d_103_77 : decode (rs_cd 103) 77 = .ok (.aload_n 0, 1) := by decide +kernel
theorem rs_d_103_78 : decode (rs_cd 103) 78 = .ok (.getfield 68, 3) := by decide +kernel
theorem rs_f_103_68 : rs_fd 103 68 = some (8, 34, 2) := by decide +kernel
theorem rs_d_103_81 : decode (rs_cd 103) 81 = .ok (.iload_n 1, 1) := by decide +kernel
theorem rs_d_103_82 : decode (rs_cd 103) 82 = .ok (.iaload, 1) := by decide +kernel
theorem rs_d_103_83 : decode (rs_cd 103) 83 = .ok (.iadd, 1) := by decide +kernel
theorem rs_d_103_84 : decode (rs_cd 103) 84 = .ok (.iload_n 2, 1) := by decide +kernel
theorem rs_d_103_85 : decode (rs_cd 103) 85 = .ok (.iastore, 1) := by decide +kernel
theorem rs_d_103_86 : decode (rs_cd 103) 86 = .ok (.aload_n 0, 1) := by decide +kernel
theorem rs_d_103_87 : decode (rs_cd 103) 87 = .ok (.getfield 53, 3) := by decide +kernel
theorem rs_d_103_90 : decode (rs_cd 103) 90 = .ok (.bipush 10, 2) := by decide +kernel
theorem rs_d_103_92 : decode (rs_cd 103) 92 = .ok (.iload_n 1, 1) := by decide +kernel
theorem rs_d_103_93 : decode (rs_cd 103) 93 = .ok (.imul, 1) := by decide +kernel
theorem rs_d_103_94 : decode (rs_cd 103) 94 = .ok (.bipush 10, 2) := by decide +kernel
theorem rs_d_103_96 : decode (rs_cd 103) 96 = .ok (.iadd, 1) := by decide +kernel
theorem rs_d_103_97 : decode (rs_cd 103) 97 = .ok (.aload_n 0, 1) := by decide +kernel
theorem rs_d_103_98 : decode (rs_cd 103) 98 = .ok (.getfield 68, 3) := by decide +kernel
theorem rs_d_103_101 : decode (rs_cd 103) 101 = .ok (.iload_n 1, 1) := by decide +kernel
theorem rs_d_103_102 : decode (rs_cd 103) 102 = .ok (.iaload, 1) := by decide +kernel
theorem rs_d_103_103 : decode (rs_cd 103) 103 = .ok (.iadd, 1) := by decide +kernel
theorem rs_d_103_104 : decode (rs_cd 103) 104 = .ok (.iload_n 2, 1) := by decide +kernel
theorem rs_d_103_105 : decode (rs_cd 103) 105 = .ok (.iastore, 1) := by decide +kernel
theorem rs_d_103_106 : decode (rs_cd 103) 106 = .ok (.aload_n 0, 1) := by decide +kernel
theorem rs_d_103_107 : decode (rs_cd 103) 107 = .ok (.iload_n 1, 1) := by decide +kernel
theorem rs_d_103_108 : decode (rs_cd 103) 108 = .ok (.iconst 1, 1) := by decide +kernel
theorem rs_d_103_109 : decode (rs_cd 103) 109 = .ok (.iadd, 1) := by decide +kernel
theorem rs_d_103_110 : decode (rs_cd 103) 110 = .ok (.invokevirtual 205, 3) := by decide +kernel
theorem rs_t_103_205 : rs_tg 103 205 = some 94 := by decide +kernel
theorem rs_d_103_113 : decode (rs_cd 103) 113 = .ok (.ireturn, 1) := by decide +kernel
theorem rs_d_104_0 : decode (rs_cd 104) 0 = .ok (.aload_n 0, 1) := by decide +kernel
theorem rs_d_104_1 : decode (rs_cd 104) 1 = .ok (.iconst 0, 1) := by decide +kernel
theorem rs_d_104_2 : decode (rs_cd 104) 2 = .ok (.putfield 217, 3) := by decide +kernel
theorem rs_f_104_217 : rs_fd 104 217 = some (8, 31, 0) := by decide +kernel
theorem rs_d_104_5 : decode (rs_cd 104) 5 = .ok (.aload_n 0, 1) := by decide +kernel
theorem rs_d_104_6 : decode (rs_cd 104) 6 = .ok (.aload_n 0, 1) := by decide +kernel
theorem rs_d_104_7 : decode (rs_cd 104) 7 = .ok (.getfield 110, 3) := by decide +kernel
theorem rs_f_104_110 : rs_fd 104 110 = some (8, 17, 0) := by decide +kernel
theorem rs_d_104_10 : decode (rs_cd 104) 10 = .ok (.invokevirtual 208, 3) := by decide +kernel
theorem rs_t_104_208 : rs_tg 104 208 = some 95 := by decide +kernel
theorem rs_d_104_13 : decode (rs_cd 104) 13 = .ok (.ifCond .ne 5, 3) := by decide +kernel
theorem rs_d_104_16 : decode (rs_cd 104) 16 = .ok (.iconst 0, 1) := by decide +kernel
theorem rs_d_104_17 : decode (rs_cd 104) 17 = .ok (.ireturn, 1) := by decide +kernel
theorem rs_d_104_18 : decode (rs_cd 104) 18 = .ok (.iconst 0, 1) := by decide +kernel
theorem rs_d_104_19 : decode (rs_cd 104) 19 = .ok (.istore 4, 2) := by decide +kernel
theorem rs_d_104_21 : decode (rs_cd 104) 21 = .ok (.iconst 1, 1) := by decide +kernel
theorem rs_d_104_22 : decode (rs_cd 104) 22 = .ok (.istore 5, 2) := by decide +kernel
theorem rs_d_104_24 : decode (rs_cd 104) 24 = .ok (.iload 4, 2) := by decide +kernel
theorem rs_d_104_26 : decode (rs_cd 104) 26 = .ok (.ifCond .lt 209, 3) := by decide +kernel
theorem rs_d_104_29 : decode (rs_cd 104) 29 = .ok (.iload 5, 2) := by decide +kernel
theorem rs_d_104_31 : decode (rs_cd 104) 31 = .ok (.ifCond .eq 43, 3) := by decide +kernel
theorem rs_d_104_34 : decode (rs_cd 104) 34 = .ok (.aload_n 0, 1) := by decide +kernel
theorem rs_d_104_35 : decode (rs_cd 104) 35 = .ok (.getfield 68, 3) := by decide +kernel
theorem rs_f_104_68 : rs_fd 104 68 = some (8, 34, 2) := by decide +kernel
theorem rs_d_104_38 : decode (rs_cd 104) 38 = .ok (.iload 4, 2) := by decide +kernel
theorem rs_d_104_40 : decode (rs_cd 104) 40 = .ok (.aload_n 0, 1) := by decide +kernel
theorem rs_d_104_41 : decode (rs_cd 104) 41 = .ok (.iload 4, 2) := by decide +kernel
theorem rs_d_104_43 : decode (rs_cd 104) 43 = .ok (.iload_n 1, 1) := by decide +kernel
theorem rs_d_104_44 : decode (rs_cd 104) 44 = .ok (.invokevirtual 220, 3) := by decide +kernel
theorem rs_t_104_220 : rs_tg 104 220 = some 101 := by decide +kernel
theorem rs_d_104_47 : decode (rs_cd 104) 47 = .ok (.iastore, 1) := by decide +kernel
theorem rs_d_104_48 : decode (rs_cd 104) 48 = .ok (.aload_n 0, 1) := by decide +kernel
theorem rs_d_104_49 : decode (rs_cd 104) 49 = .ok (.getfield 71, 3) := by decide +kernel
theorem rs_f_104_71 : rs_fd 104 71 = some (8, 35, 2) := by decide +kernel
theorem rs_d_104_52 : decode (rs_cd 104) 52 = .ok (.iload 4, 2) := by decide +kernel
theorem rs_d_104_54 : decode (rs_cd 104) 54 = .ok (.iconst 0, 1) := by decide +kernel
theorem rs_d_104_55 : decode (rs_cd 104) 55 = .ok (.iastore, 1) := by decide +kernel
theorem rs_d_104_56 : decode (rs_cd 104) 56 = .ok (.aload_n 0, 1) := by decide +kernel
theorem rs_d_104_57 : decode (rs_cd 104) 57 = .ok (.getfield 68, 3) := by decide +kernel
theorem rs_d_104_60 : decode (rs_cd 104) 60 = .ok (.iload 4, 2) := by decide +kernel
theorem rs_d_104_62 : decode (rs_cd 104) 62 = .ok (.iaload, 1) := by decide +kernel
theorem rs_d_104_63 : decode (rs_cd 104) 63 = .ok (.ifCond .ge 11, 3) := by decide +kernel
theorem rs_d_104_66 : decode (rs_cd 104) 66 = .ok (.aload_n 0, 1) := by decide +kernel
theorem rs_d_104_67 : decode (rs_cd 104) 67 = .ok (.iload 4, 2) := by decide +kernel
theorem rs_d_104_69 : decode (rs_cd 104) 69 = .ok (.invokevirtual 223, 3) := by decide +kernel
theorem rs_t_104_223 : rs_tg 104 223 = some 102 := by decide +kernel
theorem rs_d_104_72 : decode (rs_cd 104) 72 = .ok (.iconst 1, 1) := by decide +kernel
theorem rs_d_104_73 : decode (rs_cd 104) 73 = .ok (.ireturn, 1) := by decide +kernel
theorem rs_d_104_74 : decode (rs_cd 104) 74 = .ok (.bipush 10, 2) := by decide +kernel
theorem rs_d_104_76 : decode (rs_cd 104) 76 = .ok (.iload 4, 2) := by decide +kernel
theorem rs_d_104_78 : decode (rs_cd 104) 78 = .ok (.imul, 1) := by decide +kernel
theorem rs_d_104_79 : decode (rs_cd 104) 79 = .ok (.aload_n 0, 1) := by decide +kernel
theorem rs_d_104_80 : decode (rs_cd 104) 80 = .ok (.getfield 68, 3) := by decide +kernel
theorem rs_d_104_83 : decode (rs_cd 104) 83 = .ok (.iload 4, 2) := by decide +kernel
theorem rs_d_104_85 : decode (rs_cd 104) 85 = .ok (.iaload, 1) := by decide +kernel
theorem rs_d_104_86 : decode (rs_cd 104) 86 = .ok (.iadd, 1) := by decide +kernel
theorem rs_d_104_87 : decode (rs_cd 104) 87 = .ok (.istore 6, 2) := by decide +kernel
theorem rs_d_104_89 : decode (rs_cd 104) 89 = .ok (.iconst 0, 1) := by decide +kernel
theorem rs_d_104_90 : decode (rs_cd 104) 90 = .ok (.istore 5, 2) := by decide +kernel
theorem rs_d_104_92 : decode (rs_cd 104) 92 = .ok (.aload_n 0, 1) := by decide +kernel
theorem rs_d_104_93 : decode (rs_cd 104) 93 = .ok (.getfield 50, 3) := by decide +kernel
theorem rs_f_104_50 : rs_fd 104 50 = some (8, 18, 2) := by decide +kernel
theorem rs_d_104_96 : decode (rs_cd 104) 96 = .ok (.iload 6, 2) := by decide +kernel
theorem rs_d_104_98 : decode (rs_cd 104) 98 = .ok (.iaload, 1) := by decide +kernel
theorem rs_d_104_99 : decode (rs_cd 104) 99 = .ok (.aload_n 0, 1) := by decide +kernel
theorem rs_d_104_100 : decode (rs_cd 104) 100 = .ok (.getfield 71, 3) := by decide +kernel
theorem rs_d_104_103 : decode (rs_cd 104) 103 = .ok (.iload 4, 2) := by decide +kernel
theorem rs_d_104_105 : decode (rs_cd 104) 105 = .ok (.iaload, 1) := by decide +kernel
theorem rs_d_104_106 : decode (rs_cd 104) 106 = .ok (.iadd, 1) := by decide +kernel
theorem rs_d_104_107 : decode (rs_cd 104) 107 = .ok (.aload_n 0, 1) := by decide +kernel
theorem rs_d_104_108 : decode (rs_cd 104) 108 = .ok (.getfield 53, 3) := by decide +kernel
theorem rs_f_104_53 : rs_fd 104 53 = some (8, 19, 2) := by decide +kernel
theorem rs_d_104_111 : decode (rs_cd 104) 111 = .ok (.iload 6, 2) := by decide +kernel
theorem rs_d_104_113 : decode (rs_cd 104) 113 = .ok (.iaload, 1) := by decide +kernel
theorem rs_d_104_114 : decode (rs_cd 104) 114 = .ok (.if_icmp .le 9, 3) := by decide +kernel
theorem rs_d_104_117 : decode (rs_cd 104) 117 = .ok (.iinc 4 (-1), 3) := by decide +kernel
theorem rs_d_104_120 : decode (rs_cd 104) 120 = .ok (.goto 112, 3) := by decide +kernel
theorem rs_d_104_123 : decode (rs_cd 104) 123 = .ok (.aload_n 0, 1) := by decide +kernel
theorem rs_d_104_124 : decode (rs_cd 104) 124 = .ok (.getfield 217, 3) := by decide +kernel
theorem rs_d_104_127 : decode (rs_cd 104) 127 = .ok (.iload_n 3, 1) := by decide +kernel
theorem rs_d_104_128 : decode (rs_cd 104) 128 = .ok (.if_icmp .ne 7, 3) := by decide +kernel
theorem rs_d_104_131 : decode (rs_cd 104) 131 = .ok (.sipush (-1000), 3) := by decide +kernel
theorem rs_d_104_134 : decode (rs_cd 104) 134 = .ok (.ireturn, 1) := by decide +kernel
theorem rs_d_104_135 : decode (rs_cd 104) 135 = .ok (.aload_n 0, 1) := by decide +kernel
theorem rs_d_104_136 : decode (rs_cd 104) 136 = .ok (.dup, 1) := by decide +kernel
theorem rs_d_104_137 : decode (rs_cd 104) 137 = .ok (.getfield 217, 3) := by decide +kernel
theorem rs_d_104_140 : decode (rs_cd 104) 140 = .ok (.iconst 1, 1) := by decide +kernel
theorem rs_d_104_141 : decode (rs_cd 104) 141 = .ok (.iadd, 1) := by decide +kernel
theorem rs_d_104_142 : decode (rs_cd 104) 142 = .ok (.putfield 217, 3) := by decide +kernel
theorem rs_d_104_145 : decode (rs_cd 104) 145 = .ok (.iload_n 2, 1) := by decide +kernel
theorem rs_d_104_146 : decode (rs_cd 104) 146 = .ok (.ifCond .eq 32, 3) := by decide +kernel
theorem rs_d_104_149 : decode (rs_cd 104) 149 = .ok (.aload_n 0, 1) := by decide +kernel
theorem rs_d_104_150 : decode (rs_cd 104) 150 = .ok (.getfield 68, 3) := by decide +kernel
theorem rs_d_104_153 : decode (rs_cd 104) 153 = .ok (.iload 4, 2) := by decide +kernel
theorem rs_d_104_155 : decode (rs_cd 104) 155 = .ok (.iaload, 1) := by decide +kernel
theorem rs_d_104_156 : decode (rs_cd 104) 156 = .ok (.iload_n 1, 1) := by decide +kernel
theorem rs_d_104_157 : decode (rs_cd 104) 157 = .ok (.if_icmp .ne 21, 3) := by decide +kernel
theorem rs_d_104_160 : decode (rs_cd 104) 160 = .ok (.aload_n 0, 1) := by decide +kernel
theorem rs_d_104_161 : decode (rs_cd 104) 161 = .ok (.getfield 53, 3) := by decide +kernel
theorem rs_d_104_164 : decode (rs_cd 104) 164 = .ok (.iload 6, 2) := by decide +kernel
theorem rs_d_104_166 : decode (rs_cd 104) 166 = .ok (.iaload, 1) := by decide +kernel
theorem rs_d_104_167 : decode (rs_cd 104) 167 = .ok (.aload_n 0, 1) := by decide +kernel
theorem rs_d_104_168 : decode (rs_cd 104) 168 = .ok (.getfield 71, 3) := by decide +kernel
theorem rs_d_104_171 : decode (rs_cd 104) 171 = .ok (.iload 4, 2) := by decide +kernel
theorem rs_d_104_173 : decode (rs_cd 104) 173 = .ok (.iaload, 1) := by decide +kernel
theorem rs_d_104_174 : decode (rs_cd 104) 174 = .ok (.isub, 1) := by decide +kernel
theorem rs_d_104_175 : decode (rs_cd 104) 175 = .ok (.goto 18, 3) := by decide +kernel
theorem rs_d_104_178 : decode (rs_cd 104) 178 = .ok (.aload_n 0, 1) := by decide +kernel
theorem rs_d_104_179 : decode (rs_cd 104) 179 = .ok (.getfield 50, 3) := by decide +kernel
theorem rs_d_104_182 : decode (rs_cd 104) 182 = .ok (.iload 6, 2) := by decide +kernel
theorem rs_d_104_184 : decode (rs_cd 104) 184 = .ok (.iaload, 1) := by decide +kernel
theorem rs_d_104_185 : decode (rs_cd 104) 185 = .ok (.aload_n 0, 1) := by decide +kernel
theorem rs_d_104_186 : decode (rs_cd 104) 186 = .ok (.getfield 71, 3) := by decide +kernel
theorem rs_d_104_189 : decode (rs_cd 104) 189 = .ok (.iload 4, 2) := by decide +kernel
theorem rs_d_104_191 : decode (rs_cd 104) 191 = .ok (.iaload, 1) := by decide +kernel
theorem rs_d_104_192 : decode (rs_cd 104) 192 = .ok (.iadd, 1) := by decide +kernel
theorem rs_d_104_193 : decode (rs_cd 104) 193 = .ok (.istore 7, 2) := by decide +kernel
theorem rs_d_104_195 : decode (rs_cd 104) 195 = .ok (.aload_n 0, 1) := by decide +kernel
theorem rs_d_104_196 : decode (rs_cd 104) 196 = .ok (.getfield 71, 3) := by decide +kernel
theorem rs_d_104_199 : decode (rs_cd 104) 199 = .ok (.iload 4, 2) := by decide +kernel
theorem rs_d_104_201 : decode (rs_cd 104) 201 = .ok (.dup2, 1) := by decide +kernel
theorem rs_d_104_202 : decode (rs_cd 104) 202 = .ok (.iaload, 1) := by decide +kernel
theorem rs_d_104_203 : decode (rs_cd 104) 203 = .ok (.iconst 1, 1) := by decide +kernel
theorem rs_d_104_204 : decode (rs_cd 104) 204 = .ok (.iadd, 1) := by decide +kernel
theorem rs_d_104_205 : decode (rs_cd 104) 205 = .ok (.iastore, 1) := by decide +kernel
theorem rs_d_104_206 : decode (rs_cd 104) 206 = .ok (.aload_n 0, 1) := by decide +kernel
theorem rs_d_104_207 : decode (rs_cd 104) 207 = .ok (.iload 4, 2) := by decide +kernel
theorem rs_d_104_209 : decode (rs_cd 104) 209 = .ok (.iload 7, 2) := by decide +kernel
theorem rs_d_104_211 : decode (rs_cd 104) 211 = .ok (.invokevirtual 227, 3) := by decide +kernel
theorem rs_t_104_227 : rs_tg 104 227 = some 103 := by decide +kernel
theorem rs_d_104_214 : decode (rs_cd 104) 214 = .ok (.istore 5, 2) := by decide +kernel
theorem rs_d_104_216 : decode (rs_cd 104) 216 = .ok (.iload 5, 2) := by decide +kernel
theorem rs_d_104_218 : decode (rs_cd 104) 218 = .ok (.ifCond .eq 10, 3) := by decide +kernel
theorem rs_d_104_221 : decode (rs_cd 104) 221 = .ok (.iload 4, 2) := by decide +kernel
theorem rs_d_104_223 : decode (rs_cd 104) 223 = .ok (.iconst 1, 1) := by decide +kernel
theorem rs_d_104_224 : decode (rs_cd 104) 224 = .ok (.iadd, 1) := by decide +kernel
theorem rs_d_104_225 : decode (rs_cd 104) 225 = .ok (.goto 5, 3) := by decide +kernel
theorem rs_d_104_228 : decode (rs_cd 104) 228 = .ok (.iload 4, 2) := by decide +kernel
theorem rs_d_104_230 : decode (rs_cd 104) 230 = .ok (.istore 4, 2) := by decide +kernel
theorem rs_d_104_232 : decode (rs_cd 104) 232 = .ok (.goto (-208), 3) := by decide +kernel
theorem rs_d_104_235 : decode (rs_cd 104) 235 = .ok (.iconst 0, 1) := by decide +kernel
theorem rs_d_104_236 : decode (rs_cd 104) 236 = .ok (.ireturn, 1) := by decide +kernel
theorem rs_d_105_0 : decode (rs_cd 105) 0 = .ok (.aload_n 0, 1) := by decide +kernel
theorem rs_d_105_1 : decode (rs_cd 105) 1 = .ok (.iconst 0, 1) := by decide +kernel
theorem rs_d_105_2 : decode (rs_cd 105) 2 = .ok (.putfield 74, 3) := by decide +kernel
theorem rs_f_105_74 : rs_fd 105 74 = some (8, 0, 0) := by decide +kernel
theorem rs_d_105_5 : decode (rs_cd 105) 5 = .ok (.iload_n 1, 1) := by decide +kernel
theorem rs_d_105_6 : decode (rs_cd 105) 6 = .ok (.iconst 0, 1) := by decide +kernel
theorem rs_d_105_7 : decode (rs_cd 105) 7 = .ok (.sipush 300, 3) := by decide +kernel
theorem rs_d_105_10 : decode (rs_cd 105) 10 = .ok (.invokestatic 89, 3) := by decide +kernel
theorem rs_t_105_89 : rs_tg 105 89 = some 62 := by decide +kernel
theorem rs_d_105_13 : decode (rs_cd 105) 13 = .ok (.ifCond .eq 13, 3) := by decide +kernel
theorem rs_d_105_16 : decode (rs_cd 105) 16 = .ok (.aload_n 0, 1) := by decide +kernel
theorem rs_d_105_17 : decode (rs_cd 105) 17 = .ok (.iconst (-1), 1) := by decide +kernel
theorem rs_d_105_18 : decode (rs_cd 105) 18 = .ok (.iconst 0, 1) := by decide +kernel
theorem rs_d_105_19 : decode (rs_cd 105) 19 = .ok (.iload_n 1, 1) := by decide +kernel
theorem rs_d_105_20 : decode (rs_cd 105) 20 = .ok (.invokevirtual 230, 3) := by decide +kernel
theorem rs_t_105_230 : rs_tg 105 230 = some 104 := by decide +kernel
theorem rs_d_105_23 : decode (rs_cd 105) 23 = .ok (.goto 8, 3) := by decide +kernel
theorem rs_d_105_26 : decode (rs_cd 105) 26 = .ok (.aload_n 0, 1) := by decide +kernel
theorem rs_d_105_27 : decode (rs_cd 105) 27 = .ok (.iconst 1, 1) := by decide +kernel
theorem rs_d_105_28 : decode (rs_cd 105) 28 = .ok (.invokevirtual 82, 3) := by decide +kernel
theorem rs_t_105_82 : rs_tg 105 82 = some 61 := by decide +kernel
theorem rs_d_105_31 : decode (rs_cd 105) 31 = .ok (.ireturn, 1) := by decide +kernel
theorem rs_d_106_0 : decode (rs_cd 106) 0 = .ok (.aload_n 0, 1) := by decide +kernel
theorem rs_d_106_1 : decode (rs_cd 106) 1 = .ok (.iconst 0, 1) := by decide +kernel
theorem rs_d_106_2 : decode (rs_cd 106) 2 = .ok (.putfield 74, 3) := by decide +kernel
theorem rs_f_106_74 : rs_fd 106 74 = some (8, 0, 0) := by decide +kernel
theorem rs_d_106_5 : decode (rs_cd 106) 5 = .ok (.aload_n 0, 1) := by decide +kernel
theorem rs_d_106_6 : decode (rs_cd 106) 6 = .ok (.iload_n 1, 1) := by decide +kernel
theorem rs_d_106_7 : decode (rs_cd 106) 7 = .ok (.invokevirtual 96, 3) := by decide +kernel
theorem rs_t_106_96 : rs_tg 106 96 = some 67 := by decide +kernel
theorem rs_d_106_10 : decode (rs_cd 106) 10 = .ok (.ifCond .eq 14, 3) := by decide +kernel
theorem rs_d_106_13 : decode (rs_cd 106) 13 = .ok (.iload_n 3, 1) := by decide +kernel
theorem rs_d_106_14 : decode (rs_cd 106) 14 = .ok (.iconst 0, 1) := by decide +kernel
theorem rs_d_106_15 : decode (rs_cd 106) 15 = .ok (.sipush 300, 3) := by decide +kernel
theorem rs_d_106_18 : decode (rs_cd 106) 18 = .ok (.invokestatic 89, 3) := by decide +kernel
theorem rs_t_106_89 : rs_tg 106 89 = some 62 := by decide +kernel
theorem rs_d_106_21 : decode (rs_cd 106) 21 = .ok (.ifCond .ne 9, 3) := by decide +kernel
theorem rs_d_106_24 : decode (rs_cd 106) 24 = .ok (.aload_n 0, 1) := by decide +kernel
theorem rs_d_106_25 : decode (rs_cd 106) 25 = .ok (.iconst 1, 1) := by decide +kernel
theorem rs_d_106_26 : decode (rs_cd 106) 26 = .ok (.invokevirtual 82, 3) := by decide +kernel
theorem rs_t_106_82 : rs_tg 106 82 = some 61 := by decide +kernel
theorem rs_d_106_29 : decode (rs_cd 106) 29 = .ok (.ireturn, 1) := by decide +kernel
theorem rs_d_106_30 : decode (rs_cd 106) 30 = .ok (.aload_n 0, 1) := by decide +kernel
theorem rs_d_106_31 : decode (rs_cd 106) 31 = .ok (.iload_n 1, 1) := by decide +kernel
theorem rs_d_106_32 : decode (rs_cd 106) 32 = .ok (.iload_n 2, 1) := by decide +kernel
theorem rs_d_106_33 : decode (rs_cd 106) 33 = .ok (.iload_n 3, 1) := by decide +kernel
theorem rs_d_106_34 : decode (rs_cd 106) 34 = .ok (.invokevirtual 230, 3) := by decide +kernel
theorem rs_t_106_230 : rs_tg 106 230 = some 104 := by decide +kernel
theorem rs_d_106_37 : decode (rs_cd 106) 37 = .ok (.iconst 1, 1) := by decide +kernel
theorem rs_d_106_38 : decode (rs_cd 106) 38 = .ok (.if_icmp .ne 12, 3) := by decide +kernel
theorem rs_d_106_41 : decode (rs_cd 106) 41 = .ok (.aload_n 0, 1) := by decide +kernel
theorem rs_d_106_42 : decode (rs_cd 106) 42 = .ok (.getfield 65, 3) := by decide +kernel
theorem rs_f_106_65 : rs_fd 106 65 = some (8, 33, 2) := by decide +kernel
theorem rs_d_106_45 : decode (rs_cd 106) 45 = .ok (.iload_n 1, 1) := by decide +kernel
theorem rs_d_106_46 : decode (rs_cd 106) 46 = .ok (.iaload, 1) := by decide +kernel
theorem rs_d_106_47 : decode (rs_cd 106) 47 = .ok (.goto 6, 3) := by decide +kernel
theorem rs_d_106_50 : decode (rs_cd 106) 50 = .ok (.sipush (-1000), 3) := by decide +kernel
theorem rs_d_106_53 : decode (rs_cd 106) 53 = .ok (.ireturn, 1) := by decide +kernel
theorem rs_d_107_0 : decode (rs_cd 107) 0 = .ok (.aload_n 0, 1) := by decide +kernel
theorem rs_d_107_1 : decode (rs_cd 107) 1 = .ok (.iload_n 1, 1) := by decide +kernel
theorem rs_d_107_2 : decode (rs_cd 107) 2 = .ok (.iconst 0, 1) := by decide +kernel
theorem rs_d_107_3 : decode (rs_cd 107) 3 = .ok (.iload_n 2, 1) := by decide +kernel
theorem rs_d_107_4 : decode (rs_cd 107) 4 = .ok (.invokevirtual 234, 3) := by decide +kernel
theorem rs_t_107_234 : rs_tg 107 234 = some 106 := by decide +kernel
theorem rs_d_107_7 : decode (rs_cd 107) 7 = .ok (.ireturn, 1) := by decide +kernel
theorem rs_d_108_0 : decode (rs_cd 108) 0 = .ok (.aload_n 0, 1) := by decide +kernel
theorem rs_d_108_1 : decode (rs_cd 108) 1 = .ok (.iload_n 1, 1) := by decide +kernel
theorem rs_d_108_2 : decode (rs_cd 108) 2 = .ok (.iconst 1, 1) := by decide +kernel
theorem rs_d_108_3 : decode (rs_cd 108) 3 = .ok (.iload_n 2, 1) := by decide +kernel
theorem rs_d_108_4 : decode (rs_cd 108) 4 = .ok (.invokevirtual 234, 3) := by decide +kernel
theorem rs_t_108_234 : rs_tg 108 234 = some 106 := by decide +kernel
theorem rs_d_108_7 : decode (rs_cd 108) 7 = .ok (.ireturn, 1) := by decide +kernel
theorem rs_d_109_0 : decode (rs_cd 109) 0 = .ok (.aload_n 0, 1) := by decide +kernel
theorem rs_d_109_1 : decode (rs_cd 109) 1 = .ok (.iconst 0, 1) := by decide +kernel
theorem rs_d_109_2 : decode (rs_cd 109) 2 = .ok (.putfield 74, 3) := by decide +kernel
theorem rs_f_109_74 : rs_fd 109 74 = some (8, 0, 0) := by decide +kernel
theorem rs_d_109_5 : decode (rs_cd 109) 5 = .ok (.aload_n 0, 1) := by decide +kernel
theorem rs_d_109_6 : decode (rs_cd 109) 6 = .ok (.getfield 217, 3) := by decide +kernel
theorem rs_f_109_217 : rs_fd 109 217 = some (8, 31, 0) := by decide +kernel
theorem rs_d_109_9 : decode (rs_cd 109) 9 = .ok (.ireturn, 1) := by decide +kernel
theorem rs_d_110_0 : decode (rs_cd 110) 0 = .ok (.aload_n 0, 1) := by decide +kernel
theorem rs_d_110_1 : decode (rs_cd 110) 1 = .ok (.iconst 0, 1) := by decide +kernel
theorem rs_d_110_2 : decode (rs_cd 110) 2 = .ok (.putfield 74, 3) := by decide +kernel
theorem rs_f_110_74 : rs_fd 110 74 = some (8, 0, 0) := by decide +kernel
theorem rs_d_110_5 : decode (rs_cd 110) 5 = .ok (.iload_n 1, 1) := by decide +kernel
theorem rs_d_110_6 : decode (rs_cd 110) 6 = .ok (.iconst 0, 1) := by decide +kernel
theorem rs_d_110_7 : decode (rs_cd 110) 7 = .ok (.aload_n 0, 1) := by decide +kernel
theorem rs_d_110_8 : decode (rs_cd 110) 8 = .ok (.getfield 214, 3) := by decide +kernel
theorem rs_f_110_214 : rs_fd 110 214 = some (8, 32, 0) := by decide +kernel
theorem rs_d_110_11 : decode (rs_cd 110) 11 = .ok (.iconst 1, 1) := by decide +kernel
theorem rs_d_110_12 : decode (rs_cd 110) 12 = .ok (.isub, 1) := by decide +kernel
theorem rs_d_110_13 : decode (rs_cd 110) 13 = .ok (.invokestatic 89, 3) := by decide +kernel
theorem rs_t_110_89 : rs_tg 110 89 = some 62 := by decide +kernel
theorem rs_d_110_16 : decode (rs_cd 110) 16 = .ok (.ifCond .eq 12, 3) := by decide +kernel
theorem rs_d_110_19 : decode (rs_cd 110) 19 = .ok (.aload_n 0, 1) := by decide +kernel
theorem rs_d_110_20 : decode (rs_cd 110) 20 = .ok (.getfield 65, 3) := by decide +kernel
theorem rs_f_110_65 : rs_fd 110 65 = some (8, 33, 2) := by decide +kernel
theorem rs_d_110_23 : decode (rs_cd 110) 23 = .ok (.iload_n 1, 1) := by decide +kernel
theorem rs_d_110_24 : decode (rs_cd 110) 24 = .ok (.iaload, 1) := by decide +kernel
theorem rs_d_110_25 : decode (rs_cd 110) 25 = .ok (.goto 6, 3) := by decide +kernel
theorem rs_d_110_28 : decode (rs_cd 110) 28 = .ok (.sipush (-1000), 3) := by decide +kernel
theorem rs_d_110_31 : decode (rs_cd 110) 31 = .ok (.ireturn, 1) := by decide +kernel
theorem rs_d_111_0 : decode (rs_cd 111) 0 = .ok (.iconst 0, 1) := by decide +kernel
theorem rs_d_111_1 : decode (rs_cd 111) 1 = .ok (.istore_n 2, 1) := by decide +kernel
theorem rs_d_111_2 : decode (rs_cd 111) 2 = .ok (.iload_n 2, 1) := by decide +kernel
theorem rs_d_111_3 : decode (rs_cd 111) 3 = .ok (.bipush 10, 2) := by decide +kernel
theorem rs_d_111_5 : decode (rs_cd 111) 5 = .ok (.if_icmp .ge 55, 3) := by decide +kernel
theorem rs_d_111_8 : decode (rs_cd 111) 8 = .ok (.iconst 0, 1) := by decide +kernel
theorem rs_d_111_9 : decode (rs_cd 111) 9 = .ok (.istore_n 3, 1) := by decide +kernel
theorem rs_d_111_10 : decode (rs_cd 111) 10 = .ok (.iload_n 3, 1) := by decide +kernel
theorem rs_d_111_11 : decode (rs_cd 111) 11 = .ok (.iload_n 2, 1) := by decide +kernel
theorem rs_d_111_12 : decode (rs_cd 111) 12 = .ok (.if_icmp .ge 42, 3) := by decide +kernel
theorem rs_d_111_15 : decode (rs_cd 111) 15 = .ok (.iload_n 1, 1) := by decide +kernel
theorem rs_d_111_16 : decode (rs_cd 111) 16 = .ok (.iload_n 2, 1) := by decide +kernel
theorem rs_d_111_17 : decode (rs_cd 111) 17 = .ok (.invokestatic 113, 3) := by decide +kernel
theorem rs_t_111_113 : rs_tg 111 113 = some 74 := by decide +kernel
theorem rs_d_111_20 : decode (rs_cd 111) 20 = .ok (.ifCond .eq 28, 3) := by decide +kernel
theorem rs_d_111_23 : decode (rs_cd 111) 23 = .ok (.iload_n 1, 1) := by decide +kernel
theorem rs_d_111_24 : decode (rs_cd 111) 24 = .ok (.iload_n 3, 1) := by decide +kernel
theorem rs_d_111_25 : decode (rs_cd 111) 25 = .ok (.invokestatic 113, 3) := by decide +kernel
theorem rs_d_111_28 : decode (rs_cd 111) 28 = .ok (.ifCond .eq 20, 3) := by decide +kernel
theorem rs_d_111_31 : decode (rs_cd 111) 31 = .ok (.aload_n 0, 1) := by decide +kernel
theorem rs_d_111_32 : decode (rs_cd 111) 32 = .ok (.getfield 65, 3) := by decide +kernel
theorem rs_f_111_65 : rs_fd 111 65 = some (8, 33, 2) := by decide +kernel
theorem rs_d_111_35 : decode (rs_cd 111) 35 = .ok (.iload_n 2, 1) := by decide +kernel
theorem rs_d_111_36 : decode (rs_cd 111) 36 = .ok (.iaload, 1) := by decide +kernel
theorem rs_d_111_37 : decode (rs_cd 111) 37 = .ok (.aload_n 0, 1) := by decide +kernel
theorem rs_d_111_38 : decode (rs_cd 111) 38 = .ok (.getfield 65, 3) := by decide +kernel
theorem rs_d_111_41 : decode (rs_cd 111) 41 = .ok (.iload_n 3, 1) := by decide +kernel
theorem rs_d_111_42 : decode (rs_cd 111) 42 = .ok (.iaload, 1) := by decide +kernel
theorem rs_d_111_43 : decode (rs_cd 111) 43 = .ok (.if_icmp .ne 5, 3) := by decide +kernel
theorem rs_d_111_46 : decode (rs_cd 111) 46 = .ok (.iconst 0, 1) := by decide +kernel
theorem rs_d_111_47 : decode (rs_cd 111) 47 = .ok (.ireturn, 1) := by decide +kernel
theorem rs_d_111_48 : decode (rs_cd 111) 48 = .ok (.iinc 3 1, 3) := by decide +kernel
theorem rs_d_111_51 : decode (rs_cd 111) 51 = .ok (.goto (-41), 3) := by decide +kernel
theorem rs_d_111_54 : decode (rs_cd 111) 54 = .ok (.iinc 2 1, 3) := by decide +kernel
theorem rs_d_111_57 : decode (rs_cd 111) 57 = .ok (.goto (-55), 3) := by decide +kernel
theorem rs_d_111_60 : decode (rs_cd 111) 60 = .ok (.iconst 1, 1) := by decide +kernel
theorem rs_d_111_61 : decode (rs_cd 111) 61 = .ok (.ireturn, 1) := by decide +kernel
theorem rs_d_112_0 : decode (rs_cd 112) 0 = .ok (.iconst 0, 1) := by decide +kernel
theorem rs_d_112_1 : decode (rs_cd 112) 1 = .ok (.istore 4, 2) := by decide +kernel
theorem rs_d_112_3 : decode (rs_cd 112) 3 = .ok (.bipush 10, 2) := by decide +kernel
theorem rs_d_112_5 : decode (rs_cd 112) 5 = .ok (.iload_n 1, 1) := by decide +kernel
theorem rs_d_112_6 : decode (rs_cd 112) 6 = .ok (.imul, 1) := by decide +kernel
theorem rs_d_112_7 : decode (rs_cd 112) 7 = .ok (.istore 5, 2) := by decide +kernel
theorem rs_d_112_9 : decode (rs_cd 112) 9 = .ok (.iload 5, 2) := by decide +kernel
theorem rs_d_112_11 : decode (rs_cd 112) 11 = .ok (.bipush 10, 2) := by decide +kernel
theorem rs_d_112_13 : decode (rs_cd 112) 13 = .ok (.iload_n 1, 1) := by decide +kernel
theorem rs_d_112_14 : decode (rs_cd 112) 14 = .ok (.imul, 1) := by decide +kernel
theorem rs_d_112_15 : decode (rs_cd 112) 15 = .ok (.aload_n 0, 1) := by decide +kernel
theorem rs_d_112_16 : decode (rs_cd 112) 16 = .ok (.getfield 32, 3) := by decide +kernel
theorem rs_f_112_32 : rs_fd 112 32 = some (8, 10, 2) := by decide +kernel
theorem rs_d_112_19 : decode (rs_cd 112) 19 = .ok (.iload_n 1, 1) := by decide +kernel
theorem rs_d_112_20 : decode (rs_cd 112) 20 = .ok (.iaload, 1) := by decide +kernel
theorem rs_d_112_21 : decode (rs_cd 112) 21 = .ok (.iadd, 1) := by decide +kernel
theorem rs_d_112_22 : decode (rs_cd 112) 22 = .ok (.if_icmp .ge 43, 3) := by decide +kernel
theorem rs_d_112_25 : decode (rs_cd 112) 25 = .ok (.iload 4, 2) := by decide +kernel
theorem rs_d_112_27 : decode (rs_cd 112) 27 = .ok (.ifCond .ne 25, 3) := by decide +kernel
theorem rs_d_112_30 : decode (rs_cd 112) 30 = .ok (.aload_n 0, 1) := by decide +kernel
theorem rs_d_112_31 : decode (rs_cd 112) 31 = .ok (.getfield 35, 3) := by decide +kernel
theorem rs_f_112_35 : rs_fd 112 35 = some (8, 11, 2) := by decide +kernel
theorem rs_d_112_34 : decode (rs_cd 112) 34 = .ok (.iload 5, 2) := by decide +kernel
theorem rs_d_112_36 : decode (rs_cd 112) 36 = .ok (.iaload, 1) := by decide +kernel
theorem rs_d_112_37 : decode (rs_cd 112) 37 = .ok (.iload_n 2, 1) := by decide +kernel
theorem rs_d_112_38 : decode (rs_cd 112) 38 = .ok (.if_icmp .ne 18, 3) := by decide +kernel
theorem rs_d_112_41 : decode (rs_cd 112) 41 = .ok (.aload_n 0, 1) := by decide +kernel
theorem rs_d_112_42 : decode (rs_cd 112) 42 = .ok (.getfield 38, 3) := by decide +kernel
theorem rs_f_112_38 : rs_fd 112 38 = some (8, 12, 2) := by decide +kernel
theorem rs_d_112_45 : decode (rs_cd 112) 45 = .ok (.iload 5, 2) := by decide +kernel
theorem rs_d_112_47 : decode (rs_cd 112) 47 = .ok (.iaload, 1) := by decide +kernel
theorem rs_d_112_48 : decode (rs_cd 112) 48 = .ok (.iload_n 3, 1) := by decide +kernel
theorem rs_d_112_49 : decode (rs_cd 112) 49 = .ok (.if_icmp .ne 7, 3) := by decide +kernel
theorem rs_d_112_52 : decode (rs_cd 112) 52 = .ok (.iconst 1, 1) := by decide +kernel
theorem rs_d_112_53 : decode (rs_cd 112) 53 = .ok (.goto 4, 3) := by decide +kernel
theorem rs_d_112_56 : decode (rs_cd 112) 56 = .ok (.iconst 0, 1) := by decide +kernel
theorem rs_d_112_57 : decode (rs_cd 112) 57 = .ok (.istore 4, 2) := by decide +kernel
theorem rs_d_112_59 : decode (rs_cd 112) 59 = .ok (.iinc 5 1, 3) := by decide +kernel
theorem rs_d_112_62 : decode (rs_cd 112) 62 = .ok (.goto (-53), 3) := by decide +kernel
theorem rs_d_112_65 : decode (rs_cd 112) 65 = .ok (.iload 4, 2) := by decide +kernel
theorem rs_d_112_67 : decode (rs_cd 112) 67 = .ok (.ireturn, 1) := by decide +kernel
theorem rs_d_113_0 : decode (rs_cd 113) 0 = .ok (.aload_n 0, 1) := by decide +kernel
theorem rs_d_113_1 : decode (rs_cd 113) 1 = .ok (.iconst 0, 1) := by decide +kernel
theorem rs_d_113_2 : decode (rs_cd 113) 2 = .ok (.putfield 74, 3) := by decide +kernel
theorem rs_f_113_74 : rs_fd 113 74 = some (8, 0, 0) := by decide +kernel
theorem rs_d_113_5 : decode (rs_cd 113) 5 = .ok (.iload_n 1, 1) := by decide +kernel
theorem rs_d_113_6 : decode (rs_cd 113) 6 = .ok (.iconst 0, 1) := by decide +kernel
theorem rs_d_113_7 : decode (rs_cd 113) 7 = .ok (.aload_n 0, 1) := by decide +kernel
theorem rs_d_113_8 : decode (rs_cd 113) 8 = .ok (.getfield 104, 3) := by decide +kernel
theorem rs_f_113_104 : rs_fd 113 104 = some (8, 4, 0) := by decide +kernel
theorem rs_d_113_11 : decode (rs_cd 113) 11 = .ok (.iconst 1, 1) := by decide +kernel
theorem rs_d_113_12 : decode (rs_cd 113) 12 = .ok (.isub, 1) := by decide +kernel
theorem rs_d_113_13 : decode (rs_cd 113) 13 = .ok (.invokestatic 89, 3) := by decide +kernel
theorem rs_t_113_89 : rs_tg 113 89 = some 62 := by decide +kernel
theorem rs_d_113_16 : decode (rs_cd 113) 16 = .ok (.ifCond .ne 5, 3) := by decide +kernel
theorem rs_d_113_19 : decode (rs_cd 113) 19 = .ok (.iconst 0, 1) := by decide +kernel
theorem rs_d_113_20 : decode (rs_cd 113) 20 = .ok (.ireturn, 1) := by decide +kernel
theorem rs_d_113_21 : decode (rs_cd 113) 21 = .ok (.aload_n 0, 1) := by decide +kernel
theorem rs_d_113_22 : decode (rs_cd 113) 22 = .ok (.getfield 16, 3) := by decide +kernel
theorem rs_f_113_16 : rs_fd 113 16 = some (8, 5, 2) := by decide +kernel
theorem rs_d_113_25 : decode (rs_cd 113) 25 = .ok (.iload_n 1, 1) := by decide +kernel
theorem rs_d_113_26 : decode (rs_cd 113) 26 = .ok (.iaload, 1) := by decide +kernel
theorem rs_d_113_27 : decode (rs_cd 113) 27 = .ok (.bipush 7, 2) := by decide +kernel
theorem rs_d_113_29 : decode (rs_cd 113) 29 = .ok (.if_icmp .ne 37, 3) := by decide +kernel
theorem rs_d_113_32 : decode (rs_cd 113) 32 = .ok (.aload_n 0, 1) := by decide +kernel
theorem rs_d_113_33 : decode (rs_cd 113) 33 = .ok (.getfield 19, 3) := by decide +kernel
theorem rs_f_113_19 : rs_fd 113 19 = some (8, 6, 2) := by decide +kernel
theorem rs_d_113_36 : decode (rs_cd 113) 36 = .ok (.iload_n 1, 1) := by decide +kernel
theorem rs_d_113_37 : decode (rs_cd 113) 37 = .ok (.iaload, 1) := by decide +kernel
theorem rs_d_113_38 : decode (rs_cd 113) 38 = .ok (.iconst 1, 1) := by decide +kernel
theorem rs_d_113_39 : decode (rs_cd 113) 39 = .ok (.aload_n 0, 1) := by decide +kernel
theorem rs_d_113_40 : decode (rs_cd 113) 40 = .ok (.getfield 214, 3) := by decide +kernel
theorem rs_f_113_214 : rs_fd 113 214 = some (8, 32, 0) := by decide +kernel
theorem rs_d_113_43 : decode (rs_cd 113) 43 = .ok (.ishl, 1) := by decide +kernel
theorem rs_d_113_44 : decode (rs_cd 113) 44 = .ok (.if_icmp .ge 20, 3) := by decide +kernel
theorem rs_d_113_47 : decode (rs_cd 113) 47 = .ok (.aload_n 0, 1) := by decide +kernel
theorem rs_d_113_48 : decode (rs_cd 113) 48 = .ok (.aload_n 0, 1) := by decide +kernel
theorem rs_d_113_49 : decode (rs_cd 113) 49 = .ok (.getfield 19, 3) := by decide +kernel
theorem rs_d_113_52 : decode (rs_cd 113) 52 = .ok (.iload_n 1, 1) := by decide +kernel
theorem rs_d_113_53 : decode (rs_cd 113) 53 = .ok (.iaload, 1) := by decide +kernel
theorem rs_d_113_54 : decode (rs_cd 113) 54 = .ok (.invokevirtual 237, 3) := by decide +kernel
theorem rs_t_113_237 : rs_tg 113 237 = some 111 := by decide +kernel
theorem rs_d_113_57 : decode (rs_cd 113) 57 = .ok (.ifCond .eq 7, 3) := by decide +kernel
theorem rs_d_113_60 : decode (rs_cd 113) 60 = .ok (.iconst 1, 1) := by decide +kernel
theorem rs_d_113_61 : decode (rs_cd 113) 61 = .ok (.goto 4, 3) := by decide +kernel
theorem rs_d_113_64 : decode (rs_cd 113) 64 = .ok (.iconst 0, 1) := by decide +kernel
theorem rs_d_113_65 : decode (rs_cd 113) 65 = .ok (.ireturn, 1) := by decide +kernel
theorem rs_d_113_66 : decode (rs_cd 113) 66 = .ok (.aload_n 0, 1) := by decide +kernel
theorem rs_d_113_67 : decode (rs_cd 113) 67 = .ok (.getfield 16, 3) := by decide +kernel
theorem rs_d_113_70 : decode (rs_cd 113) 70 = .ok (.iload_n 1, 1) := by decide +kernel
theorem rs_d_113_71 : decode (rs_cd 113) 71 = .ok (.iaload, 1) := by decide +kernel
theorem rs_d_113_72 : decode (rs_cd 113) 72 = .ok (.iconst 5, 1) := by decide +kernel
theorem rs_d_113_73 : decode (rs_cd 113) 73 = .ok (.if_icmp .eq 18, 3) := by decide +kernel
theorem rs_d_113_76 : decode (rs_cd 113) 76 = .ok (.aload_n 0, 1) := by decide +kernel
theorem rs_d_113_77 : decode (rs_cd 113) 77 = .ok (.getfield 16, 3) := by decide +kernel
theorem rs_d_113_80 : decode (rs_cd 113) 80 = .ok (.iload_n 1, 1) := by decide +kernel
theorem rs_d_113_81 : decode (rs_cd 113) 81 = .ok (.iaload, 1) := by decide +kernel
theorem rs_d_113_82 : decode (rs_cd 113) 82 = .ok (.bipush 7, 2) := by decide +kernel
theorem rs_d_113_84 : decode (rs_cd 113) 84 = .ok (.if_icmp .ge 7, 3) := by decide +kernel
theorem rs_d_113_87 : decode (rs_cd 113) 87 = .ok (.iconst 1, 1) := by decide +kernel
theorem rs_d_113_88 : decode (rs_cd 113) 88 = .ok (.goto 4, 3) := by decide +kernel
theorem rs_d_113_91 : decode (rs_cd 113) 91 = .ok (.iconst 0, 1) := by decide +kernel
theorem rs_d_113_92 : decode (rs_cd 113) 92 = .ok (.istore_n 2, 1) := by decide +kernel
theorem rs_d_113_93 : decode (rs_cd 113) 93 = .ok (.aload_n 0, 1) := by decide +kernel
theorem rs_d_113_94 : decode (rs_cd 113) 94 = .ok (.getfield 19, 3) := by decide +kernel
theorem rs_d_113_97 : decode (rs_cd 113) 97 = .ok (.iload_n 1, 1) := by decide +kernel
theorem rs_d_113_98 : decode (rs_cd 113) 98 = .ok (.iaload, 1) := by decide +kernel
theorem rs_d_113_99 : decode (rs_cd 113) 99 = .ok (.aload_n 0, 1) := by decide +kernel
theorem rs_d_113_100 : decode (rs_cd 113) 100 = .ok (.getfield 214, 3) := by decide +kernel
theorem rs_d_113_103 : decode (rs_cd 113) 103 = .ok (.if_icmp .ge 33, 3) := by decide +kernel
theorem rs_d_113_106 : decode (rs_cd 113) 106 = .ok (.aload_n 0, 1) := by decide +kernel
theorem rs_d_113_107 : decode (rs_cd 113) 107 = .ok (.getfield 22, 3) := by decide +kernel
theorem rs_f_113_22 : rs_fd 113 22 = some (8, 7, 2) := by decide +kernel
theorem rs_d_113_110 : decode (rs_cd 113) 110 = .ok (.iload_n 1, 1) := by decide +kernel
theorem rs_d_113_111 : decode (rs_cd 113) 111 = .ok (.iaload, 1) := by decide +kernel
theorem rs_d_113_112 : decode (rs_cd 113) 112 = .ok (.aload_n 0, 1) := by decide +kernel
theorem rs_d_113_113 : decode (rs_cd 113) 113 = .ok (.getfield 214, 3) := by decide +kernel
theorem rs_d_113_116 : decode (rs_cd 113) 116 = .ok (.if_icmp .ge 20, 3) := by decide +kernel
theorem rs_d_113_119 : decode (rs_cd 113) 119 = .ok (.iload_n 2, 1) := by decide +kernel
theorem rs_d_113_120 : decode (rs_cd 113) 120 = .ok (.ifCond .eq 18, 3) := by decide +kernel
theorem rs_d_113_123 : decode (rs_cd 113) 123 = .ok (.aload_n 0, 1) := by decide +kernel
theorem rs_d_113_124 : decode (rs_cd 113) 124 = .ok (.getfield 25, 3) := by decide +kernel
theorem rs_f_113_25 : rs_fd 113 25 = some (8, 8, 2) := by decide +kernel
theorem rs_d_113_127 : decode (rs_cd 113) 127 = .ok (.iload_n 1, 1) := by decide +kernel
theorem rs_d_113_128 : decode (rs_cd 113) 128 = .ok (.iaload, 1) := by decide +kernel
theorem rs_d_113_129 : decode (rs_cd 113) 129 = .ok (.aload_n 0, 1) := by decide +kernel
theorem rs_d_113_130 : decode (rs_cd 113) 130 = .ok (.getfield 214, 3) := by decide +kernel
theorem rs_d_113_133 : decode (rs_cd 113) 133 = .ok (.if_icmp .lt 5, 3) := by decide +kernel
theorem rs_d_113_136 : decode (rs_cd 113) 136 = .ok (.iconst 0, 1) := by decide +kernel
theorem rs_d_113_137 : decode (rs_cd 113) 137 = .ok (.ireturn, 1) := by decide +kernel
theorem rs_d_113_138 : decode (rs_cd 113) 138 = .ok (.aload_n 0, 1) := by decide +kernel
theorem rs_d_113_139 : decode (rs_cd 113) 139 = .ok (.getfield 65, 3) := by decide +kernel
theorem rs_f_113_65 : rs_fd 113 65 = some (8, 33, 2) := by decide +kernel
theorem rs_d_113_142 : decode (rs_cd 113) 142 = .ok (.aload_n 0, 1) := by decide +kernel
theorem rs_d_113_143 : decode (rs_cd 113) 143 = .ok (.getfield 19, 3) := by decide +kernel
theorem rs_d_113_146 : decode (rs_cd 113) 146 = .ok (.iload_n 1, 1) := by decide +kernel
theorem rs_d_113_147 : decode (rs_cd 113) 147 = .ok (.iaload, 1) := by decide +kernel
theorem rs_d_113_148 : decode (rs_cd 113) 148 = .ok (.iaload, 1) := by decide +kernel
theorem rs_d_113_149 : decode (rs_cd 113) 149 = .ok (.istore_n 3, 1) := by decide +kernel
theorem rs_d_113_150 : decode (rs_cd 113) 150 = .ok (.aload_n 0, 1) := by decide +kernel
theorem rs_d_113_151 : decode (rs_cd 113) 151 = .ok (.getfield 65, 3) := by decide +kernel
theorem rs_d_113_154 : decode (rs_cd 113) 154 = .ok (.aload_n 0, 1) := by decide +kernel
theorem rs_d_113_155 : decode (rs_cd 113) 155 = .ok (.getfield 22, 3) := by decide +kernel
theorem rs_d_113_158 : decode (rs_cd 113) 158 = .ok (.iload_n 1, 1) := by decide +kernel
theorem rs_d_113_159 : decode (rs_cd 113) 159 = .ok (.iaload, 1) := by decide +kernel
theorem rs_d_113_160 : decode (rs_cd 113) 160 = .ok (.iaload, 1) := by decide +kernel
theorem rs_d_113_161 : decode (rs_cd 113) 161 = .ok (.istore 4, 2) := by decide +kernel
theorem rs_d_113_163 : decode (rs_cd 113) 163 = .ok (.aload_n 0, 1) := by decide +kernel
theorem rs_d_113_164 : decode (rs_cd 113) 164 = .ok (.getfield 16, 3) := by decide +kernel
theorem rs_d_113_167 : decode (rs_cd 113) 167 = .ok (.iload_n 1, 1) := by decide +kernel
theorem rs_d_113_168 : decode (rs_cd 113) 168 = .ok (.iaload, 1) := by decide +kernel
theorem rs_d_113_169 : decode (rs_cd 113) 169 = .ok (.bipush 7, 2) := by decide +kernel
theorem rs_d_113_171 : decode (rs_cd 113) 171 = .ok (.if_icmp .le 17, 3) := by decide +kernel
theorem rs_d_113_174 : decode (rs_cd 113) 174 = .ok (.aload_n 0, 1) := by decide +kernel
theorem rs_d_113_175 : decode (rs_cd 113) 175 = .ok (.aload_n 0, 1) := by decide +kernel
theorem rs_d_113_176 : decode (rs_cd 113) 176 = .ok (.getfield 25, 3) := by decide +kernel
theorem rs_d_113_179 : decode (rs_cd 113) 179 = .ok (.iload_n 1, 1) := by decide +kernel
theorem rs_d_113_180 : decode (rs_cd 113) 180 = .ok (.iaload, 1) := by decide +kernel
theorem rs_d_113_181 : decode (rs_cd 113) 181 = .ok (.iload_n 3, 1) := by decide +kernel
theorem rs_d_113_182 : decode (rs_cd 113) 182 = .ok (.iload 4, 2) := by decide +kernel
theorem rs_d_113_184 : decode (rs_cd 113) 184 = .ok (.invokevirtual 240, 3) := by decide +kernel
theorem rs_t_113_240 : rs_tg 113 240 = some 112 := by decide +kernel
theorem rs_d_113_187 : decode (rs_cd 113) 187 = .ok (.ireturn, 1) := by decide +kernel
theorem rs_d_113_188 : decode (rs_cd 113) 188 = .ok (.aload_n 0, 1) := by decide +kernel
theorem rs_d_113_189 : decode (rs_cd 113) 189 = .ok (.getfield 16, 3) := by decide +kernel
theorem rs_d_113_192 : decode (rs_cd 113) 192 = .ok (.iload_n 1, 1) := by decide +kernel
theorem rs_d_113_193 : decode (rs_cd 113) 193 = .ok (.iaload, 1) := by decide +kernel
theorem rs_d_113_194 : decode (rs_cd 113) 194 = .ok (.iconst 5, 1) := by decide +kernel
theorem rs_d_113_195 : decode (rs_cd 113) 195 = .ok (.if_icmp .ne 22, 3) := by decide +kernel
theorem rs_d_113_198 : decode (rs_cd 113) 198 = .ok (.iload_n 3, 1) := by decide +kernel
theorem rs_d_113_199 : decode (rs_cd 113) 199 = .ok (.aload_n 0, 1) := by decide +kernel
theorem rs_d_113_200 : decode (rs_cd 113) 200 = .ok (.getfield 25, 3) := by decide +kernel
theorem rs_d_113_203 : decode (rs_cd 113) 203 = .ok (.iload_n 1, 1) := by decide +kernel
theorem rs_d_113_204 : decode (rs_cd 113) 204 = .ok (.iaload, 1) := by decide +kernel
theorem rs_d_113_205 : decode (rs_cd 113) 205 = .ok (.iadd, 1) := by decide +kernel
theorem rs_d_113_206 : decode (rs_cd 113) 206 = .ok (.iload 4, 2) := by decide +kernel
theorem rs_d_113_208 : decode (rs_cd 113) 208 = .ok (.if_icmp .gt 7, 3) := by decide +kernel
theorem rs_d_113_211 : decode (rs_cd 113) 211 = .ok (.iconst 1, 1) := by decide +kernel
theorem rs_d_113_212 : decode (rs_cd 113) 212 = .ok (.goto 4, 3) := by decide +kernel
theorem rs_d_113_215 : decode (rs_cd 113) 215 = .ok (.iconst 0, 1) := by decide +kernel
theorem rs_d_113_216 : decode (rs_cd 113) 216 = .ok (.ireturn, 1) := by decide +kernel
theorem rs_d_113_217 : decode (rs_cd 113) 217 = .ok (.aload_n 0, 1) := by decide +kernel
theorem rs_d_113_218 : decode (rs_cd 113) 218 = .ok (.getfield 65, 3) := by decide +kernel
theorem rs_d_113_221 : decode (rs_cd 113) 221 = .ok (.aload_n 0, 1) := by decide +kernel
theorem rs_d_113_222 : decode (rs_cd 113) 222 = .ok (.getfield 25, 3) := by decide +kernel
theorem rs_d_113_225 : decode (rs_cd 113) 225 = .ok (.iload_n 1, 1) := by decide +kernel
theorem rs_d_113_226 : decode (rs_cd 113) 226 = .ok (.iaload, 1) := by decide +kernel
theorem rs_d_113_227 : decode (rs_cd 113) 227 = .ok (.iaload, 1) := by decide +kernel
theorem rs_d_113_228 : decode (rs_cd 113) 228 = .ok (.istore 5, 2) := by decide +kernel
theorem rs_d_113_230 : decode (rs_cd 113) 230 = .ok (.aload_n 0, 1) := by decide +kernel
theorem rs_d_113_231 : decode (rs_cd 113) 231 = .ok (.getfield 16, 3) := by decide +kernel
theorem rs_d_113_234 : decode (rs_cd 113) 234 = .ok (.iload_n 1, 1) := by decide +kernel
theorem rs_d_113_235 : decode (rs_cd 113) 235 = .ok (.iaload, 1) := by decide +kernel
theorem rs_d_113_236 : decode (rs_cd 113) 236 = .ok (.bipush 6, 2) := by decide +kernel
theorem rs_d_113_238 : decode (rs_cd 113) 238 = .ok (.if_icmp .ne 23, 3) := by decide +kernel
theorem rs_d_113_241 : decode (rs_cd 113) 241 = .ok (.iload_n 3, 1) := by decide +kernel
theorem rs_d_113_242 : decode (rs_cd 113) 242 = .ok (.iconst 1, 1) := by decide +kernel
theorem rs_d_113_243 : decode (rs_cd 113) 243 = .ok (.if_icmp .lt 10, 3) := by decide +kernel
theorem rs_d_113_246 : decode (rs_cd 113) 246 = .ok (.iload 4, 2) := by decide +kernel
theorem rs_d_113_248 : decode (rs_cd 113) 248 = .ok (.iload 5, 2) := by decide +kernel
theorem rs_d_113_250 : decode (rs_cd 113) 250 = .ok (.if_icmp .gt 7, 3) := by decide +kernel
theorem rs_d_113_253 : decode (rs_cd 113) 253 = .ok (.iconst 1, 1) := by decide +kernel
theorem rs_d_113_254 : decode (rs_cd 113) 254 = .ok (.goto 29, 3) := by decide +kernel
theorem rs_d_113_257 : decode (rs_cd 113) 257 = .ok (.iconst 0, 1) := by decide +kernel
theorem rs_d_113_258 : decode (rs_cd 113) 258 = .ok (.goto 25, 3) := by decide +kernel
theorem rs_d_113_261 : decode (rs_cd 113) 261 = .ok (.aload_n 0, 1) := by decide +kernel
theorem rs_d_113_262 : decode (rs_cd 113) 262 = .ok (.getfield 16, 3) := by decide +kernel
theorem rs_d_113_265 : decode (rs_cd 113) 265 = .ok (.iload_n 1, 1) := by decide +kernel
theorem rs_d_113_266 : decode (rs_cd 113) 266 = .ok (.iaload, 1) := by decide +kernel
theorem rs_d_113_267 : decode (rs_cd 113) 267 = .ok (.iload_n 3, 1) := by decide +kernel
theorem rs_d_113_268 : decode (rs_cd 113) 268 = .ok (.iload 4, 2) := by decide +kernel
theorem rs_d_113_270 : decode (rs_cd 113) 270 = .ok (.invokestatic 152, 3) := by decide +kernel
theorem rs_t_113_152 : rs_tg 113 152 = some 80 := by decide +kernel
theorem rs_d_113_273 : decode (rs_cd 113) 273 = .ok (.iload 5, 2) := by decide +kernel
theorem rs_d_113_275 : decode (rs_cd 113) 275 = .ok (.if_icmp .ne 7, 3) := by decide +kernel
theorem rs_d_113_278 : decode (rs_cd 113) 278 = .ok (.iconst 1, 1) := by decide +kernel
theorem rs_d_113_279 : decode (rs_cd 113) 279 = .ok (.goto 4, 3) := by decide +kernel
theorem rs_d_113_282 : decode (rs_cd 113) 282 = .ok (.iconst 0, 1) := by decide +kernel
theorem rs_d_113_283 : decode (rs_cd 113) 283 = .ok (.ireturn, 1) := by decide +kernel
theorem rs_d_114_0 : decode (rs_cd 114) 0 = .ok (.iload_n 0, 1) := by decide +kernel
theorem rs_d_114_1 : decode (rs_cd 114) 1 = .ok (.iload_n 0, 1) := by decide +kernel
theorem rs_d_114_2 : decode (rs_cd 114) 2 = .ok (.iconst 1, 1) := by decide +kernel
theorem rs_d_114_3 : decode (rs_cd 114) 3 = .ok (.iushr, 1) := by decide +kernel
theorem rs_d_114_4 : decode (rs_cd 114) 4 = .ok (.ldc_w 265, 3) := by decide +kernel
theorem rs_c_114_265 : rs_cst 114 265 = some 1431655765 := by decide +kernel
theorem rs_d_114_7 : decode (rs_cd 114) 7 = .ok (.iand, 1) := by decide +kernel
theorem rs_d_114_8 : decode (rs_cd 114) 8 = .ok (.isub, 1) := by decide +kernel
theorem rs_d_114_9 : decode (rs_cd 114) 9 = .ok (.istore_n 0, 1) := by decide +kernel
theorem rs_d_114_10 : decode (rs_cd 114) 10 = .ok (.iload_n 0, 1) := by decide +kernel
theorem rs_d_114_11 : decode (rs_cd 114) 11 = .ok (.ldc_w 266, 3) := by decide +kernel
theorem rs_c_114_266 : rs_cst 114 266 = some 858993459 := by decide +kernel
theorem rs_d_114_14 : decode (rs_cd 114) 14 = .ok (.iand, 1) := by decide +kernel
theorem rs_d_114_15 : decode (rs_cd 114) 15 = .ok (.iload_n 0, 1) := by decide +kernel
theorem rs_d_114_16 : decode (rs_cd 114) 16 = .ok (.iconst 2, 1) := by decide +kernel
theorem rs_d_114_17 : decode (rs_cd 114) 17 = .ok (.iushr, 1) := by decide +kernel
theorem rs_d_114_18 : decode (rs_cd 114) 18 = .ok (.ldc_w 266, 3) := by decide +kernel
theorem rs_d_114_21 : decode (rs_cd 114) 21 = .ok (.iand, 1) := by decide +kernel
theorem rs_d_114_22 : decode (rs_cd 114) 22 = .ok (.iadd, 1) := by decide +kernel
theorem rs_d_114_23 : decode (rs_cd 114) 23 = .ok (.istore_n 0, 1) := by decide +kernel
theorem rs_d_114_24 : decode (rs_cd 114) 24 = .ok (.iload_n 0, 1) := by decide +kernel
theorem rs_d_114_25 : decode (rs_cd 114) 25 = .ok (.iload_n 0, 1) := by decide +kernel
theorem rs_d_114_26 : decode (rs_cd 114) 26 = .ok (.iconst 4, 1) := by decide +kernel
theorem rs_d_114_27 : decode (rs_cd 114) 27 = .ok (.iushr, 1) := by decide +kernel
theorem rs_d_114_28 : decode (rs_cd 114) 28 = .ok (.iadd, 1) := by decide +kernel
theorem rs_d_114_29 : decode (rs_cd 114) 29 = .ok (.ldc_w 267, 3) := by decide +kernel
theorem rs_c_114_267 : rs_cst 114 267 = some 252645135 := by decide +kernel
theorem rs_d_114_32 : decode (rs_cd 114) 32 = .ok (.iand, 1) := by decide +kernel
theorem rs_d_114_33 : decode (rs_cd 114) 33 = .ok (.istore_n 0, 1) := by decide +kernel
theorem rs_d_114_34 : decode (rs_cd 114) 34 = .ok (.iload_n 0, 1) := by decide +kernel
theorem rs_d_114_35 : decode (rs_cd 114) 35 = .ok (.iload_n 0, 1) := by decide +kernel
theorem rs_d_114_36 : decode (rs_cd 114) 36 = .ok (.bipush 8, 2) := by decide +kernel
theorem rs_d_114_38 : decode (rs_cd 114) 38 = .ok (.iushr, 1) := by decide +kernel
theorem rs_d_114_39 : decode (rs_cd 114) 39 = .ok (.iadd, 1) := by decide +kernel
theorem rs_d_114_40 : decode (rs_cd 114) 40 = .ok (.istore_n 0, 1) := by decide +kernel
theorem rs_d_114_41 : decode (rs_cd 114) 41 = .ok (.iload_n 0, 1) := by decide +kernel
theorem rs_d_114_42 : decode (rs_cd 114) 42 = .ok (.iload_n 0, 1) := by decide +kernel
theorem rs_d_114_43 : decode (rs_cd 114) 43 = .ok (.bipush 16, 2) := by decide +kernel
theorem rs_d_114_45 : decode (rs_cd 114) 45 = .ok (.iushr, 1) := by decide +kernel
theorem rs_d_114_46 : decode (rs_cd 114) 46 = .ok (.iadd, 1) := by decide +kernel
theorem rs_d_114_47 : decode (rs_cd 114) 47 = .ok (.istore_n 0, 1) := by decide +kernel
theorem rs_d_114_48 : decode (rs_cd 114) 48 = .ok (.iload_n 0, 1) := by decide +kernel
theorem rs_d_114_49 : decode (rs_cd 114) 49 = .ok (.bipush 63, 2) := by decide +kernel
theorem rs_d_114_51 : decode (rs_cd 114) 51 = .ok (.iand, 1) := by decide +kernel
theorem rs_d_114_52 : decode (rs_cd 114) 52 = .ok (.ireturn, 1) := by decide +kernel
theorem rs_d_115_0 : decode (rs_cd 115) 0 = .ok (.iload_n 0, 1) := by decide +kernel
theorem rs_d_115_1 : decode (rs_cd 115) 1 = .ok (.iload_n 1, 1) := by decide +kernel
theorem rs_d_115_2 : decode (rs_cd 115) 2 = .ok (.idiv, 1) := by decide +kernel
theorem rs_d_115_3 : decode (rs_cd 115) 3 = .ok (.istore_n 2, 1) := by decide +kernel
theorem rs_d_115_4 : decode (rs_cd 115) 4 = .ok (.iload_n 0, 1) := by decide +kernel
theorem rs_d_115_5 : decode (rs_cd 115) 5 = .ok (.iload_n 1, 1) := by decide +kernel
theorem rs_d_115_6 : decode (rs_cd 115) 6 = .ok (.ixor, 1) := by decide +kernel
theorem rs_d_115_7 : decode (rs_cd 115) 7 = .ok (.ifCond .ge 14, 3) := by decide +kernel
theorem rs_d_115_10 : decode (rs_cd 115) 10 = .ok (.iload_n 2, 1) := by decide +kernel
theorem rs_d_115_11 : decode (rs_cd 115) 11 = .ok (.iload_n 1, 1) := by decide +kernel
theorem rs_d_115_12 : decode (rs_cd 115) 12 = .ok (.imul, 1) := by decide +kernel
theorem rs_d_115_13 : decode (rs_cd 115) 13 = .ok (.iload_n 0, 1) := by decide +kernel
theorem rs_d_115_14 : decode (rs_cd 115) 14 = .ok (.if_icmp .eq 7, 3) := by decide +kernel
theorem rs_d_115_17 : decode (rs_cd 115) 17 = .ok (.iload_n 2, 1) := by decide +kernel
theorem rs_d_115_18 : decode (rs_cd 115) 18 = .ok (.iconst 1, 1) := by decide +kernel
theorem rs_d_115_19 : decode (rs_cd 115) 19 = .ok (.isub, 1) := by decide +kernel
theorem rs_d_115_20 : decode (rs_cd 115) 20 = .ok (.ireturn, 1) := by decide +kernel
theorem rs_d_115_21 : decode (rs_cd 115) 21 = .ok (.iload_n 2, 1) := by decide +kernel
theorem rs_d_115_22 : decode (rs_cd 115) 22 = .ok (.ireturn, 1) := by decide +kernel
theorem rs_d_116_0 : decode (rs_cd 116) 0 = .ok (.new 8, 3) := by decide +kernel
theorem rs_d_116_3 : decode (rs_cd 116) 3 = .ok (.dup, 1) := by decide +kernel
theorem rs_d_116_4 : decode (rs_cd 116) 4 = .ok (.invokespecial 39, 3) := by decide +kernel
theorem rs_d_116_7 : decode (rs_cd 116) 7 = .ok (.astore_n 1, 1) := by decide +kernel
theorem rs_d_116_8 : decode (rs_cd 116) 8 = .ok (.new 40, 3) := by decide +kernel
theorem rs_d_116_11 : decode (rs_cd 116) 11 = .ok (.dup, 1) := by decide +kernel
theorem rs_d_116_12 : decode (rs_cd 116) 12 = .ok (.invokespecial 42, 3) := by decide +kernel
theorem rs_d_116_15 : decode (rs_cd 116) 15 = .ok (.astore_n 2, 1) := by decide +kernel
theorem rs_d_116_16 : decode (rs_cd 116) 16 = .ok (.iconst 1, 1) := by decide +kernel
theorem rs_d_116_17 : decode (rs_cd 116) 17 = .ok (.newarray .long, 2) := by decide +kernel
theorem rs_d_116_19 : decode (rs_cd 116) 19 = .ok (.astore_n 3, 1) := by decide +kernel
theorem rs_d_116_20 : decode (rs_cd 116) 20 = .ok (.iconst 0, 1) := by decide +kernel
theorem rs_d_116_21 : decode (rs_cd 116) 21 = .ok (.istore 4, 2) := by decide +kernel
theorem rs_d_116_23 : decode (rs_cd 116) 23 = .ok (.iload 4, 2) := by decide +kernel
theorem rs_d_116_25 : decode (rs_cd 116) 25 = .ok (.aload_n 0, 1) := by decide +kernel
theorem rs_d_116_26 : decode (rs_cd 116) 26 = .ok (.arraylength, 1) := by decide +kernel
theorem rs_d_116_27 : decode (rs_cd 116) 27 = .ok (.iconst 5, 1) := by decide +kernel
theorem rs_d_116_28 : decode (rs_cd 116) 28 = .ok (.isub, 1) := by decide +kernel
theorem rs_d_116_29 : decode (rs_cd 116) 29 = .ok (.if_icmp .gt 907, 3) := by decide +kernel
theorem rs_d_116_32 : decode (rs_cd 116) 32 = .ok (.aload_n 0, 1) := by decide +kernel
theorem rs_d_116_33 : decode (rs_cd 116) 33 = .ok (.iload 4, 2) := by decide +kernel
theorem rs_d_116_35 : decode (rs_cd 116) 35 = .ok (.iaload, 1) := by decide +kernel
theorem rs_d_116_36 : decode (rs_cd 116) 36 = .ok (.bipush 31, 2) := by decide +kernel
theorem rs_d_116_38 : decode (rs_cd 116) 38 = .ok (.iand, 1) := by decide +kernel
theorem rs_d_116_39 : decode (rs_cd 116) 39 = .ok (.tableswitch 891 0 16 #[81, 149, 241, 294, 343, 423, 476, 489, 514, 539, 552, 636, 692, 760, 828, 841, 866], 81) := by decide +kernel
theorem rs_d_116_120 : decode (rs_cd 116) 120 = .ok (.aload_n 1, 1) := by decide +kernel
theorem rs_d_116_121 : decode (rs_cd 116) 121 = .ok (.aload_n 0, 1) := by decide +kernel
theorem rs_d_116_122 : decode (rs_cd 116) 122 = .ok (.iload 4, 2) := by decide +kernel
theorem rs_d_116_124 : decode (rs_cd 116) 124 = .ok (.iconst 1, 1) := by decide +kernel
theorem rs_d_116_125 : decode (rs_cd 116) 125 = .ok (.iadd, 1) := by decide +kernel
theorem rs_d_116_126 : decode (rs_cd 116) 126 = .ok (.iaload, 1) := by decide +kernel
theorem rs_d_116_127 : decode (rs_cd 116) 127 = .ok (.aload_n 0, 1) := by decide +kernel
theorem rs_d_116_128 : decode (rs_cd 116) 128 = .ok (.iload 4, 2) := by decide +kernel
theorem rs_d_116_130 : decode (rs_cd 116) 130 = .ok (.iconst 2, 1) := by decide +kernel
theorem rs_d_116_131 : decode (rs_cd 116) 131 = .ok (.iadd, 1) := by decide +kernel
theorem rs_d_116_132 : decode (rs_cd 116) 132 = .ok (.iaload, 1) := by decide +kernel
theorem rs_d_116_133 : decode (rs_cd 116) 133 = .ok (.aload_n 3, 1) := by decide +kernel
theorem rs_d_116_134 : decode (rs_cd 116) 134 = .ok (.invokestatic 43, 3) := by decide +kernel
theorem rs_t_116_43 : rs_tg 116 43 = some 117 := by decide +kernel
theorem rs_d_116_137 : decode (rs_cd 116) 137 = .ok (.istore 5, 2) := by decide +kernel
theorem rs_d_116_139 : decode (rs_cd 116) 139 = .ok (.aload_n 2, 1) := by decide +kernel
theorem rs_d_116_140 : decode (rs_cd 116) 140 = .ok (.aload_n 0, 1) := by decide +kernel
theorem rs_d_116_141 : decode (rs_cd 116) 141 = .ok (.iload 4, 2) := by decide +kernel
theorem rs_d_116_143 : decode (rs_cd 116) 143 = .ok (.iconst 1, 1) := by decide +kernel
theorem rs_d_116_144 : decode (rs_cd 116) 144 = .ok (.iadd, 1) := by decide +kernel
theorem rs_d_116_145 : decode (rs_cd 116) 145 = .ok (.iaload, 1) := by decide +kernel
theorem rs_d_116_146 : decode (rs_cd 116) 146 = .ok (.aload_n 0, 1) := by decide +kernel
theorem rs_d_116_147 : decode (rs_cd 116) 147 = .ok (.iload 4, 2) := by decide +kernel
theorem rs_d_116_149 : decode (rs_cd 116) 149 = .ok (.iconst 2, 1) := by decide +kernel
theorem rs_d_116_150 : decode (rs_cd 116) 150 = .ok (.iadd, 1) := by decide +kernel
theorem rs_d_116_151 : decode (rs_cd 116) 151 = .ok (.iaload, 1) := by decide +kernel
theorem rs_d_116_152 : decode (rs_cd 116) 152 = .ok (.invokevirtual 48, 3) := by decide +kernel
theorem rs_t_116_48 : rs_tg 116 48 = some 66 := by decide +kernel
theorem rs_d_116_155 : decode (rs_cd 116) 155 = .ok (.istore 6, 2) := by decide +kernel
theorem rs_d_116_157 : decode (rs_cd 116) 157 = .ok (.aload_n 2, 1) := by decide +kernel
theorem rs_d_116_158 : decode (rs_cd 116) 158 = .ok (.invokevirtual 49, 3) := by decide +kernel
theorem rs_t_116_49 : rs_tg 116 49 = some 60 := by decide +kernel
theorem rs_d_116_161 : decode (rs_cd 116) 161 = .ok (.iload 5, 2) := by decide +kernel
theorem rs_d_116_163 : decode (rs_cd 116) 163 = .ok (.if_icmp .eq 5, 3) := by decide +kernel
theorem rs_d_116_166 : decode (rs_cd 116) 166 = .ok (.iconst 0, 1) := by decide +kernel
theorem rs_d_116_167 : decode (rs_cd 116) 167 = .ok (.ireturn, 1) := by decide +kernel
theorem rs_d_116_168 : decode (rs_cd 116) 168 = .ok (.iload 5, 2) := by decide +kernel
theorem rs_d_116_170 : decode (rs_cd 116) 170 = .ok (.ifCond .ne 15, 3) := by decide +kernel
theorem rs_d_116_173 : decode (rs_cd 116) 173 = .ok (.aload_n 3, 1) := by decide +kernel
theorem rs_d_116_174 : decode (rs_cd 116) 174 = .ok (.iconst 0, 1) := by decide +kernel
theorem rs_d_116_175 : decode (rs_cd 116) 175 = .ok (.laload, 1) := by decide +kernel
theorem rs_d_116_176 : decode (rs_cd 116) 176 = .ok (.iload 6, 2) := by decide +kernel
theorem rs_d_116_178 : decode (rs_cd 116) 178 = .ok (.i2l, 1) := by decide +kernel
theorem rs_d_116_179 : decode (rs_cd 116) 179 = .ok (.lcmp, 1) := by decide +kernel
theorem rs_d_116_180 : decode (rs_cd 116) 180 = .ok (.ifCond .eq 5, 3) := by decide +kernel
theorem rs_d_116_183 : decode (rs_cd 116) 183 = .ok (.iconst 0, 1) := by decide +kernel
theorem rs_d_116_184 : decode (rs_cd 116) 184 = .ok (.ireturn, 1) := by decide +kernel
theorem rs_d_116_185 : decode (rs_cd 116) 185 = .ok (.goto 745, 3) := by decide +kernel
theorem rs_d_116_188 : decode (rs_cd 116) 188 = .ok (.aload_n 1, 1) := by decide +kernel
theorem rs_d_116_189 : decode (rs_cd 116) 189 = .ok (.aload_n 0, 1) := by decide +kernel
theorem rs_d_116_190 : decode (rs_cd 116) 190 = .ok (.iload 4, 2) := by decide +kernel
theorem rs_d_116_192 : decode (rs_cd 116) 192 = .ok (.iconst 1, 1) := by decide +kernel
theorem rs_d_116_193 : decode (rs_cd 116) 193 = .ok (.iadd, 1) := by decide +kernel
theorem rs_d_116_194 : decode (rs_cd 116) 194 = .ok (.iaload, 1) := by decide +kernel
theorem rs_d_116_195 : decode (rs_cd 116) 195 = .ok (.aload_n 0, 1) := by decide +kernel
theorem rs_d_116_196 : decode (rs_cd 116) 196 = .ok (.iload 4, 2) := by decide +kernel
theorem rs_d_116_198 : decode (rs_cd 116) 198 = .ok (.iconst 2, 1) := by decide +kernel
theorem rs_d_116_199 : decode (rs_cd 116) 199 = .ok (.iadd, 1) := by decide +kernel
theorem rs_d_116_200 : decode (rs_cd 116) 200 = .ok (.iaload, 1) := by decide +kernel
theorem rs_d_116_201 : decode (rs_cd 116) 201 = .ok (.aload_n 0, 1) := by decide +kernel
theorem rs_d_116_202 : decode (rs_cd 116) 202 = .ok (.iload 4, 2) := by decide +kernel
theorem rs_d_116_204 : decode (rs_cd 116) 204 = .ok (.iconst 3, 1) := by decide +kernel
theorem rs_d_116_205 : decode (rs_cd 116) 205 = .ok (.iadd, 1) := by decide +kernel
theorem rs_d_116_206 : decode (rs_cd 116) 206 = .ok (.iaload, 1) := by decide +kernel
theorem rs_d_116_207 : decode (rs_cd 116) 207 = .ok (.aload_n 0, 1) := by decide +kernel
theorem rs_d_116_208 : decode (rs_cd 116) 208 = .ok (.iload 4, 2) := by decide +kernel
theorem rs_d_116_210 : decode (rs_cd 116) 210 = .ok (.iconst 4, 1) := by decide +kernel
theorem rs_d_116_211 : decode (rs_cd 116) 211 = .ok (.iadd, 1) := by decide +kernel
theorem rs_d_116_212 : decode (rs_cd 116) 212 = .ok (.iaload, 1) := by decide +kernel
theorem rs_d_116_213 : decode (rs_cd 116) 213 = .ok (.aload_n 3, 1) := by decide +kernel
theorem rs_d_116_214 : decode (rs_cd 116) 214 = .ok (.invokestatic 53, 3) := by decide +kernel
theorem rs_t_116_53 : rs_tg 116 53 = some 118 := by decide +kernel
theorem rs_d_116_217 : decode (rs_cd 116) 217 = .ok (.istore 5, 2) := by decide +kernel
theorem rs_d_116_219 : decode (rs_cd 116) 219 = .ok (.aload_n 2, 1) := by decide +kernel
theorem rs_d_116_220 : decode (rs_cd 116) 220 = .ok (.aload_n 0, 1) := by decide +kernel
theorem rs_d_116_221 : decode (rs_cd 116) 221 = .ok (.iload 4, 2) := by decide +kernel
theorem rs_d_116_223 : decode (rs_cd 116) 223 = .ok (.iconst 1, 1) := by decide +kernel
theorem rs_d_116_224 : decode (rs_cd 116) 224 = .ok (.iadd, 1) := by decide +kernel
theorem rs_d_116_225 : decode (rs_cd 116) 225 = .ok (.iaload, 1) := by decide +kernel
theorem rs_d_116_226 : decode (rs_cd 116) 226 = .ok (.aload_n 0, 1) := by decide +kernel
theorem rs_d_116_227 : decode (rs_cd 116) 227 = .ok (.iload 4, 2) := by decide +kernel
theorem rs_d_116_229 : decode (rs_cd 116) 229 = .ok (.iconst 2, 1) := by decide +kernel
theorem rs_d_116_230 : decode (rs_cd 116) 230 = .ok (.iadd, 1) := by decide +kernel
theorem rs_d_116_231 : decode (rs_cd 116) 231 = .ok (.iaload, 1) := by decide +kernel
theorem rs_d_116_232 : decode (rs_cd 116) 232 = .ok (.aload_n 0, 1) := by decide +kernel
theorem rs_d_116_233 : decode (rs_cd 116) 233 = .ok (.iload 4, 2) := by decide +kernel
theorem rs_d_116_235 : decode (rs_cd 116) 235 = .ok (.iconst 3, 1) := by decide +kernel
theorem rs_d_116_236 : decode (rs_cd 116) 236 = .ok (.iadd, 1) := by decide +kernel
theorem rs_d_116_237 : decode (rs_cd 116) 237 = .ok (.iaload, 1) := by decide +kernel
theorem rs_d_116_238 : decode (rs_cd 116) 238 = .ok (.aload_n 0, 1) := by decide +kernel
theorem rs_d_116_239 : decode (rs_cd 116) 239 = .ok (.iload 4, 2) := by decide +kernel
theorem rs_d_116_241 : decode (rs_cd 116) 241 = .ok (.iconst 4, 1) := by decide +kernel
theorem rs_d_116_242 : decode (rs_cd 116) 242 = .ok (.iadd, 1) := by decide +kernel
theorem rs_d_116_243 : decode (rs_cd 116) 243 = .ok (.iaload, 1) := by decide +kernel
theorem rs_d_116_244 : decode (rs_cd 116) 244 = .ok (.invokevirtual 56, 3) := by decide +kernel
theorem rs_t_116_56 : rs_tg 116 56 = some 70 := by decide +kernel
theorem rs_d_116_247 : decode (rs_cd 116) 247 = .ok (.istore 6, 2) := by decide +kernel
theorem rs_d_116_249 : decode (rs_cd 116) 249 = .ok (.aload_n 2, 1) := by decide +kernel
theorem rs_d_116_250 : decode (rs_cd 116) 250 = .ok (.invokevirtual 49, 3) := by decide +kernel
theorem rs_d_116_253 : decode (rs_cd 116) 253 = .ok (.iload 5, 2) := by decide +kernel
theorem rs_d_116_255 : decode (rs_cd 116) 255 = .ok (.if_icmp .eq 5, 3) := by decide +kernel
theorem rs_d_116_258 : decode (rs_cd 116) 258 = .ok (.iconst 0, 1) := by decide +kernel
theorem rs_d_116_259 : decode (rs_cd 116) 259 = .ok (.ireturn, 1) := by decide +kernel
theorem rs_d_116_260 : decode (rs_cd 116) 260 = .ok (.iload 5, 2) := by decide +kernel
theorem rs_d_116_262 : decode (rs_cd 116) 262 = .ok (.ifCond .ne 15, 3) := by decide +kernel
theorem rs_d_116_265 : decode (rs_cd 116) 265 = .ok (.aload_n 3, 1) := by decide +kernel
theorem rs_d_116_266 : decode (rs_cd 116) 266 = .ok (.iconst 0, 1) := by decide +kernel
theorem rs_d_116_267 : decode (rs_cd 116) 267 = .ok (.laload, 1) := by decide +kernel
theorem rs_d_116_268 : decode (rs_cd 116) 268 = .ok (.iload 6, 2) := by decide +kernel
theorem rs_d_116_270 : decode (rs_cd 116) 270 = .ok (.i2l, 1) := by decide +kernel
theorem rs_d_116_271 : decode (rs_cd 116) 271 = .ok (.lcmp, 1) := by decide +kernel
theorem rs_d_116_272 : decode (rs_cd 116) 272 = .ok (.ifCond .eq 5, 3) := by decide +kernel
theorem rs_d_116_275 : decode (rs_cd 116) 275 = .ok (.iconst 0, 1) := by decide +kernel
theorem rs_d_116_276 : decode (rs_cd 116) 276 = .ok (.ireturn, 1) := by decide +kernel
theorem rs_d_116_277 : decode (rs_cd 116) 277 = .ok (.goto 653, 3) := by decide +kernel
theorem rs_d_116_280 : decode (rs_cd 116) 280 = .ok (.aload_n 1, 1) := by decide +kernel
theorem rs_d_116_281 : decode (rs_cd 116) 281 = .ok (.aload_n 0, 1) := by decide +kernel
theorem rs_d_116_282 : decode (rs_cd 116) 282 = .ok (.iload 4, 2) := by decide +kernel
theorem rs_d_116_284 : decode (rs_cd 116) 284 = .ok (.iconst 1, 1) := by decide +kernel
theorem rs_d_116_285 : decode (rs_cd 116) 285 = .ok (.iadd, 1) := by decide +kernel
theorem rs_d_116_286 : decode (rs_cd 116) 286 = .ok (.iaload, 1) := by decide +kernel
theorem rs_d_116_287 : decode (rs_cd 116) 287 = .ok (.aload_n 0, 1) := by decide +kernel
theorem rs_d_116_288 : decode (rs_cd 116) 288 = .ok (.iload 4, 2) := by decide +kernel
theorem rs_d_116_290 : decode (rs_cd 116) 290 = .ok (.iconst 2, 1) := by decide +kernel
theorem rs_d_116_291 : decode (rs_cd 116) 291 = .ok (.iadd, 1) := by decide +kernel
theorem rs_d_116_292 : decode (rs_cd 116) 292 = .ok (.iaload, 1) := by decide +kernel
theorem rs_d_116_293 : decode (rs_cd 116) 293 = .ok (.ifCond .eq 7, 3) := by decide +kernel
theorem rs_d_116_296 : decode (rs_cd 116) 296 = .ok (.iconst 1, 1) := by decide +kernel
theorem rs_d_116_297 : decode (rs_cd 116) 297 = .ok (.goto 4, 3) := by decide +kernel
theorem rs_d_116_300 : decode (rs_cd 116) 300 = .ok (.iconst 0, 1) := by decide +kernel
theorem rs_d_116_301 : decode (rs_cd 116) 301 = .ok (.invokevirtual 57, 3) := by decide +kernel
theorem rs_t_116_57 : rs_tg 116 57 = some 36 := by decide +kernel
theorem rs_d_116_304 : decode (rs_cd 116) 304 = .ok (.aload_n 2, 1) := by decide +kernel
theorem rs_d_116_305 : decode (rs_cd 116) 305 = .ok (.aload_n 0, 1) := by decide +kernel
theorem rs_d_116_306 : decode (rs_cd 116) 306 = .ok (.iload 4, 2) := by decide +kernel
theorem rs_d_116_308 : decode (rs_cd 116) 308 = .ok (.iconst 1, 1) := by decide +kernel
theorem rs_d_116_309 : decode (rs_cd 116) 309 = .ok (.iadd, 1) := by decide +kernel
theorem rs_d_116_310 : decode (rs_cd 116) 310 = .ok (.iaload, 1) := by decide +kernel
theorem rs_d_116_311 : decode (rs_cd 116) 311 = .ok (.aload_n 0, 1) := by decide +kernel
theorem rs_d_116_312 : decode (rs_cd 116) 312 = .ok (.iload 4, 2) := by decide +kernel
theorem rs_d_116_314 : decode (rs_cd 116) 314 = .ok (.iconst 2, 1) := by decide +kernel
theorem rs_d_116_315 : decode (rs_cd 116) 315 = .ok (.iadd, 1) := by decide +kernel
theorem rs_d_116_316 : decode (rs_cd 116) 316 = .ok (.iaload, 1) := by decide +kernel
theorem rs_d_116_317 : decode (rs_cd 116) 317 = .ok (.ifCond .eq 7, 3) := by decide +kernel
theorem rs_d_116_320 : decode (rs_cd 116) 320 = .ok (.iconst 1, 1) := by decide +kernel
theorem rs_d_116_321 : decode (rs_cd 116) 321 = .ok (.goto 4, 3) := by decide +kernel
theorem rs_d_116_324 : decode (rs_cd 116) 324 = .ok (.iconst 0, 1) := by decide +kernel
theorem rs_d_116_325 : decode (rs_cd 116) 325 = .ok (.invokevirtual 61, 3) := by decide +kernel
theorem rs_t_116_61 : rs_tg 116 61 = some 71 := by decide +kernel
theorem rs_d_116_328 : decode (rs_cd 116) 328 = .ok (.if_icmp .eq 602, 3) := by decide +kernel
theorem rs_d_116_331 : decode (rs_cd 116) 331 = .ok (.iconst 0, 1) := by decide +kernel
theorem rs_d_116_332 : decode (rs_cd 116) 332 = .ok (.ireturn, 1) := by decide +kernel
theorem rs_d_116_333 : decode (rs_cd 116) 333 = .ok (.aload_n 1, 1) := by decide +kernel
theorem rs_d_116_334 : decode (rs_cd 116) 334 = .ok (.aload_n 0, 1) := by decide +kernel
theorem rs_d_116_335 : decode (rs_cd 116) 335 = .ok (.iload 4, 2) := by decide +kernel
theorem rs_d_116_337 : decode (rs_cd 116) 337 = .ok (.iconst 1, 1) := by decide +kernel
theorem rs_d_116_338 : decode (rs_cd 116) 338 = .ok (.iadd, 1) := by decide +kernel
theorem rs_d_116_339 : decode (rs_cd 116) 339 = .ok (.iaload, 1) := by decide +kernel
theorem rs_d_116_340 : decode (rs_cd 116) 340 = .ok (.aload_n 0, 1) := by decide +kernel
theorem rs_d_116_341 : decode (rs_cd 116) 341 = .ok (.iload 4, 2) := by decide +kernel
theorem rs_d_116_343 : decode (rs_cd 116) 343 = .ok (.iconst 2, 1) := by decide +kernel
theorem rs_d_116_344 : decode (rs_cd 116) 344 = .ok (.iadd, 1) := by decide +kernel
theorem rs_d_116_345 : decode (rs_cd 116) 345 = .ok (.iaload, 1) := by decide +kernel
theorem rs_d_116_346 : decode (rs_cd 116) 346 = .ok (.aload_n 0, 1) := by decide +kernel
theorem rs_d_116_347 : decode (rs_cd 116) 347 = .ok (.iload 4, 2) := by decide +kernel
theorem rs_d_116_349 : decode (rs_cd 116) 349 = .ok (.iconst 3, 1) := by decide +kernel
theorem rs_d_116_350 : decode (rs_cd 116) 350 = .ok (.iadd, 1) := by decide +kernel
theorem rs_d_116_351 : decode (rs_cd 116) 351 = .ok (.iaload, 1) := by decide +kernel
theorem rs_d_116_352 : decode (rs_cd 116) 352 = .ok (.invokevirtual 62, 3) := by decide +kernel
theorem rs_t_116_62 : rs_tg 116 62 = some 37 := by decide +kernel
theorem rs_d_116_355 : decode (rs_cd 116) 355 = .ok (.aload_n 2, 1) := by decide +kernel
theorem rs_d_116_356 : decode (rs_cd 116) 356 = .ok (.aload_n 0, 1) := by decide +kernel
theorem rs_d_116_357 : decode (rs_cd 116) 357 = .ok (.iload 4, 2) := by decide +kernel
theorem rs_d_116_359 : decode (rs_cd 116) 359 = .ok (.iconst 1, 1) := by decide +kernel
theorem rs_d_116_360 : decode (rs_cd 116) 360 = .ok (.iadd, 1) := by decide +kernel
theorem rs_d_116_361 : decode (rs_cd 116) 361 = .ok (.iaload, 1) := by decide +kernel
theorem rs_d_116_362 : decode (rs_cd 116) 362 = .ok (.aload_n 0, 1) := by decide +kernel
theorem rs_d_116_363 : decode (rs_cd 116) 363 = .ok (.iload 4, 2) := by decide +kernel
theorem rs_d_116_365 : decode (rs_cd 116) 365 = .ok (.iconst 2, 1) := by decide +kernel
theorem rs_d_116_366 : decode (rs_cd 116) 366 = .ok (.iadd, 1) := by decide +kernel
theorem rs_d_116_367 : decode (rs_cd 116) 367 = .ok (.iaload, 1) := by decide +kernel
theorem rs_d_116_368 : decode (rs_cd 116) 368 = .ok (.aload_n 0, 1) := by decide +kernel
theorem rs_d_116_369 : decode (rs_cd 116) 369 = .ok (.iload 4, 2) := by decide +kernel
theorem rs_d_116_371 : decode (rs_cd 116) 371 = .ok (.iconst 3, 1) := by decide +kernel
theorem rs_d_116_372 : decode (rs_cd 116) 372 = .ok (.iadd, 1) := by decide +kernel
theorem rs_d_116_373 : decode (rs_cd 116) 373 = .ok (.iaload, 1) := by decide +kernel
theorem rs_d_116_374 : decode (rs_cd 116) 374 = .ok (.invokevirtual 65, 3) := by decide +kernel
theorem rs_t_116_65 : rs_tg 116 65 = some 72 := by decide +kernel
theorem rs_d_116_377 : decode (rs_cd 116) 377 = .ok (.if_icmp .eq 553, 3) := by decide +kernel
theorem rs_d_116_380 : decode (rs_cd 116) 380 = .ok (.iconst 0, 1) := by decide +kernel
theorem rs_d_116_381 : decode (rs_cd 116) 381 = .ok (.ireturn, 1) := by decide +kernel
theorem rs_d_116_382 : decode (rs_cd 116) 382 = .ok (.aload_n 1, 1) := by decide +kernel
theorem rs_d_116_383 : decode (rs_cd 116) 383 = .ok (.aload_n 0, 1) := by decide +kernel
theorem rs_d_116_384 : decode (rs_cd 116) 384 = .ok (.iload 4, 2) := by decide +kernel
theorem rs_d_116_386 : decode (rs_cd 116) 386 = .ok (.iconst 1, 1) := by decide +kernel
theorem rs_d_116_387 : decode (rs_cd 116) 387 = .ok (.iadd, 1) := by decide +kernel
theorem rs_d_116_388 : decode (rs_cd 116) 388 = .ok (.iaload, 1) := by decide +kernel
theorem rs_d_116_389 : decode (rs_cd 116) 389 = .ok (.aload_n 0, 1) := by decide +kernel
theorem rs_d_116_390 : decode (rs_cd 116) 390 = .ok (.iload 4, 2) := by decide +kernel
theorem rs_d_116_392 : decode (rs_cd 116) 392 = .ok (.iconst 2, 1) := by decide +kernel
theorem rs_d_116_393 : decode (rs_cd 116) 393 = .ok (.iadd, 1) := by decide +kernel
theorem rs_d_116_394 : decode (rs_cd 116) 394 = .ok (.iaload, 1) := by decide +kernel
theorem rs_d_116_395 : decode (rs_cd 116) 395 = .ok (.aload_n 0, 1) := by decide +kernel
theorem rs_d_116_396 : decode (rs_cd 116) 396 = .ok (.iload 4, 2) := by decide +kernel
theorem rs_d_116_398 : decode (rs_cd 116) 398 = .ok (.iconst 3, 1) := by decide +kernel
theorem rs_d_116_399 : decode (rs_cd 116) 399 = .ok (.iadd, 1) := by decide +kernel
theorem rs_d_116_400 : decode (rs_cd 116) 400 = .ok (.iaload, 1) := by decide +kernel
theorem rs_d_116_401 : decode (rs_cd 116) 401 = .ok (.aload_n 3, 1) := by decide +kernel
theorem rs_d_116_402 : decode (rs_cd 116) 402 = .ok (.invokestatic 66, 3) := by decide +kernel
theorem rs_t_116_66 : rs_tg 116 66 = some 119 := by decide +kernel
theorem rs_d_116_405 : decode (rs_cd 116) 405 = .ok (.istore 5, 2) := by decide +kernel
theorem rs_d_116_407 : decode (rs_cd 116) 407 = .ok (.aload_n 2, 1) := by decide +kernel
theorem rs_d_116_408 : decode (rs_cd 116) 408 = .ok (.aload_n 0, 1) := by decide +kernel
theorem rs_d_116_409 : decode (rs_cd 116) 409 = .ok (.iload 4, 2) := by decide +kernel
theorem rs_d_116_411 : decode (rs_cd 116) 411 = .ok (.iconst 1, 1) := by decide +kernel
theorem rs_d_116_412 : decode (rs_cd 116) 412 = .ok (.iadd, 1) := by decide +kernel
theorem rs_d_116_413 : decode (rs_cd 116) 413 = .ok (.iaload, 1) := by decide +kernel
theorem rs_d_116_414 : decode (rs_cd 116) 414 = .ok (.aload_n 0, 1) := by decide +kernel
theorem rs_d_116_415 : decode (rs_cd 116) 415 = .ok (.iload 4, 2) := by decide +kernel
theorem rs_d_116_417 : decode (rs_cd 116) 417 = .ok (.iconst 2, 1) := by decide +kernel
theorem rs_d_116_418 : decode (rs_cd 116) 418 = .ok (.iadd, 1) := by decide +kernel
theorem rs_d_116_419 : decode (rs_cd 116) 419 = .ok (.iaload, 1) := by decide +kernel
theorem rs_d_116_420 : decode (rs_cd 116) 420 = .ok (.aload_n 0, 1) := by decide +kernel
theorem rs_d_116_421 : decode (rs_cd 116) 421 = .ok (.iload 4, 2) := by decide +kernel
theorem rs_d_116_423 : decode (rs_cd 116) 423 = .ok (.iconst 3, 1) := by decide +kernel
theorem rs_d_116_424 : decode (rs_cd 116) 424 = .ok (.iadd, 1) := by decide +kernel
theorem rs_d_116_425 : decode (rs_cd 116) 425 = .ok (.iaload, 1) := by decide +kernel
theorem rs_d_116_426 : decode (rs_cd 116) 426 = .ok (.invokevirtual 69, 3) := by decide +kernel
theorem rs_t_116_69 : rs_tg 116 69 = some 73 := by decide +kernel
theorem rs_d_116_429 : decode (rs_cd 116) 429 = .ok (.istore 6, 2) := by decide +kernel
theorem rs_d_116_431 : decode (rs_cd 116) 431 = .ok (.aload_n 2, 1) := by decide +kernel
theorem rs_d_116_432 : decode (rs_cd 116) 432 = .ok (.invokevirtual 49, 3) := by decide +kernel
theorem rs_d_116_435 : decode (rs_cd 116) 435 = .ok (.iload 5, 2) := by decide +kernel
theorem rs_d_116_437 : decode (rs_cd 116) 437 = .ok (.if_icmp .eq 5, 3) := by decide +kernel
theorem rs_d_116_440 : decode (rs_cd 116) 440 = .ok (.iconst 0, 1) := by decide +kernel
theorem rs_d_116_441 : decode (rs_cd 116) 441 = .ok (.ireturn, 1) := by decide +kernel
theorem rs_d_116_442 : decode (rs_cd 116) 442 = .ok (.iload 5, 2) := by decide +kernel
theorem rs_d_116_444 : decode (rs_cd 116) 444 = .ok (.ifCond .ne 15, 3) := by decide +kernel
theorem rs_d_116_447 : decode (rs_cd 116) 447 = .ok (.aload_n 3, 1) := by decide +kernel
theorem rs_d_116_448 : decode (rs_cd 116) 448 = .ok (.iconst 0, 1) := by decide +kernel
theorem rs_d_116_449 : decode (rs_cd 116) 449 = .ok (.laload, 1) := by decide +kernel
theorem rs_d_116_450 : decode (rs_cd 116) 450 = .ok (.iload 6, 2) := by decide +kernel
theorem rs_d_116_452 : decode (rs_cd 116) 452 = .ok (.i2l, 1) := by decide +kernel
theorem rs_d_116_453 : decode (rs_cd 116) 453 = .ok (.lcmp, 1) := by decide +kernel
theorem rs_d_116_454 : decode (rs_cd 116) 454 = .ok (.ifCond .eq 5, 3) := by decide +kernel
theorem rs_d_116_457 : decode (rs_cd 116) 457 = .ok (.iconst 0, 1) := by decide +kernel
theorem rs_d_116_458 : decode (rs_cd 116) 458 = .ok (.ireturn, 1) := by decide +kernel
theorem rs_d_116_459 : decode (rs_cd 116) 459 = .ok (.goto 471, 3) := by decide +kernel
theorem rs_d_116_462 : decode (rs_cd 116) 462 = .ok (.aload_n 1, 1) := by decide +kernel
theorem rs_d_116_463 : decode (rs_cd 116) 463 = .ok (.aload_n 0, 1) := by decide +kernel
theorem rs_d_116_464 : decode (rs_cd 116) 464 = .ok (.iload 4, 2) := by decide +kernel
theorem rs_d_116_466 : decode (rs_cd 116) 466 = .ok (.iconst 1, 1) := by decide +kernel
theorem rs_d_116_467 : decode (rs_cd 116) 467 = .ok (.iadd, 1) := by decide +kernel
theorem rs_d_116_468 : decode (rs_cd 116) 468 = .ok (.iaload, 1) := by decide +kernel
theorem rs_d_116_469 : decode (rs_cd 116) 469 = .ok (.aload_n 0, 1) := by decide +kernel
theorem rs_d_116_470 : decode (rs_cd 116) 470 = .ok (.iload 4, 2) := by decide +kernel
theorem rs_d_116_472 : decode (rs_cd 116) 472 = .ok (.iconst 2, 1) := by decide +kernel
theorem rs_d_116_473 : decode (rs_cd 116) 473 = .ok (.iadd, 1) := by decide +kernel
theorem rs_d_116_474 : decode (rs_cd 116) 474 = .ok (.iaload, 1) := by decide +kernel
theorem rs_d_116_475 : decode (rs_cd 116) 475 = .ok (.ifCond .eq 7, 3) := by decide +kernel
theorem rs_d_116_478 : decode (rs_cd 116) 478 = .ok (.iconst 1, 1) := by decide +kernel
theorem rs_d_116_479 : decode (rs_cd 116) 479 = .ok (.goto 4, 3) := by decide +kernel
theorem rs_d_116_482 : decode (rs_cd 116) 482 = .ok (.iconst 0, 1) := by decide +kernel
theorem rs_d_116_483 : decode (rs_cd 116) 483 = .ok (.invokevirtual 70, 3) := by decide +kernel
theorem rs_t_116_70 : rs_tg 116 70 = some 39 := by decide +kernel
theorem rs_d_116_486 : decode (rs_cd 116) 486 = .ok (.aload_n 2, 1) := by decide +kernel
theorem rs_d_116_487 : decode (rs_cd 116) 487 = .ok (.aload_n 0, 1) := by decide +kernel
theorem rs_d_116_488 : decode (rs_cd 116) 488 = .ok (.iload 4, 2) := by decide +kernel
theorem rs_d_116_490 : decode (rs_cd 116) 490 = .ok (.iconst 1, 1) := by decide +kernel
theorem rs_d_116_491 : decode (rs_cd 116) 491 = .ok (.iadd, 1) := by decide +kernel
theorem rs_d_116_492 : decode (rs_cd 116) 492 = .ok (.iaload, 1) := by decide +kernel
theorem rs_d_116_493 : decode (rs_cd 116) 493 = .ok (.aload_n 0, 1) := by decide +kernel
theorem rs_d_116_494 : decode (rs_cd 116) 494 = .ok (.iload 4, 2) := by decide +kernel
theorem rs_d_116_496 : decode (rs_cd 116) 496 = .ok (.iconst 2, 1) := by decide +kernel
theorem rs_d_116_497 : decode (rs_cd 116) 497 = .ok (.iadd, 1) := by decide +kernel
theorem rs_d_116_498 : decode (rs_cd 116) 498 = .ok (.iaload, 1) := by decide +kernel
theorem rs_d_116_499 : decode (rs_cd 116) 499 = .ok (.ifCond .eq 7, 3) := by decide +kernel
theorem rs_d_116_502 : decode (rs_cd 116) 502 = .ok (.iconst 1, 1) := by decide +kernel
theorem rs_d_116_503 : decode (rs_cd 116) 503 = .ok (.goto 4, 3) := by decide +kernel
theorem rs_d_116_506 : decode (rs_cd 116) 506 = .ok (.iconst 0, 1) := by decide +kernel
theorem rs_d_116_507 : decode (rs_cd 116) 507 = .ok (.invokevirtual 73, 3) := by decide +kernel
theorem rs_t_116_73 : rs_tg 116 73 = some 75 := by decide +kernel
theorem rs_d_116_510 : decode (rs_cd 116) 510 = .ok (.if_icmp .eq 420, 3) := by decide +kernel
theorem rs_d_116_513 : decode (rs_cd 116) 513 = .ok (.iconst 0, 1) := by decide +kernel
theorem rs_d_116_514 : decode (rs_cd 116) 514 = .ok (.ireturn, 1) := by decide +kernel
theorem rs_d_116_515 : decode (rs_cd 116) 515 = .ok (.aload_n 1, 1) := by decide +kernel
theorem rs_d_116_516 : decode (rs_cd 116) 516 = .ok (.invokevirtual 74, 3) := by decide +kernel
theorem rs_t_116_74 : rs_tg 116 74 = some 40 := by decide +kernel
theorem rs_d_116_519 : decode (rs_cd 116) 519 = .ok (.aload_n 2, 1) := by decide +kernel
theorem rs_d_116_520 : decode (rs_cd 116) 520 = .ok (.invokevirtual 78, 3) := by decide +kernel
theorem rs_t_116_78 : rs_tg 116 78 = some 96 := by decide +kernel
theorem rs_d_116_523 : decode (rs_cd 116) 523 = .ok (.if_icmp .eq 407, 3) := by decide +kernel
theorem rs_d_116_526 : decode (rs_cd 116) 526 = .ok (.iconst 0, 1) := by decide +kernel
theorem rs_d_116_527 : decode (rs_cd 116) 527 = .ok (.ireturn, 1) := by decide +kernel
theorem rs_d_116_528 : decode (rs_cd 116) 528 = .ok (.aload_n 1, 1) := by decide +kernel
theorem rs_d_116_529 : decode (rs_cd 116) 529 = .ok (.aload_n 0, 1) := by decide +kernel
theorem rs_d_116_530 : decode (rs_cd 116) 530 = .ok (.iload 4, 2) := by decide +kernel
theorem rs_d_116_532 : decode (rs_cd 116) 532 = .ok (.iconst 1, 1) := by decide +kernel
theorem rs_d_116_533 : decode (rs_cd 116) 533 = .ok (.iadd, 1) := by decide +kernel
theorem rs_d_116_534 : decode (rs_cd 116) 534 = .ok (.iaload, 1) := by decide +kernel
theorem rs_d_116_535 : decode (rs_cd 116) 535 = .ok (.invokevirtual 79, 3) := by decide +kernel
theorem rs_t_116_79 : rs_tg 116 79 = some 41 := by decide +kernel
theorem rs_d_116_538 : decode (rs_cd 116) 538 = .ok (.aload_n 2, 1) := by decide +kernel
theorem rs_d_116_539 : decode (rs_cd 116) 539 = .ok (.aload_n 0, 1) := by decide +kernel
theorem rs_d_116_540 : decode (rs_cd 116) 540 = .ok (.iload 4, 2) := by decide +kernel
theorem rs_d_116_542 : decode (rs_cd 116) 542 = .ok (.iconst 1, 1) := by decide +kernel
theorem rs_d_116_543 : decode (rs_cd 116) 543 = .ok (.iadd, 1) := by decide +kernel
theorem rs_d_116_544 : decode (rs_cd 116) 544 = .ok (.iaload, 1) := by decide +kernel
theorem rs_d_116_545 : decode (rs_cd 116) 545 = .ok (.invokevirtual 82, 3) := by decide +kernel
theorem rs_t_116_82 : rs_tg 116 82 = some 97 := by decide +kernel
theorem rs_d_116_548 : decode (rs_cd 116) 548 = .ok (.if_icmp .eq 382, 3) := by decide +kernel
theorem rs_d_116_551 : decode (rs_cd 116) 551 = .ok (.iconst 0, 1) := by decide +kernel
theorem rs_d_116_552 : decode (rs_cd 116) 552 = .ok (.ireturn, 1) := by decide +kernel
theorem rs_d_116_553 : decode (rs_cd 116) 553 = .ok (.aload_n 1, 1) := by decide +kernel
theorem rs_d_116_554 : decode (rs_cd 116) 554 = .ok (.aload_n 0, 1) := by decide +kernel
theorem rs_d_116_555 : decode (rs_cd 116) 555 = .ok (.iload 4, 2) := by decide +kernel
theorem rs_d_116_557 : decode (rs_cd 116) 557 = .ok (.iconst 1, 1) := by decide +kernel
theorem rs_d_116_558 : decode (rs_cd 116) 558 = .ok (.iadd, 1) := by decide +kernel
theorem rs_d_116_559 : decode (rs_cd 116) 559 = .ok (.iaload, 1) := by decide +kernel
theorem rs_d_116_560 : decode (rs_cd 116) 560 = .ok (.invokevirtual 83, 3) := by decide +kernel
theorem rs_t_116_83 : rs_tg 116 83 = some 42 := by decide +kernel
theorem rs_d_116_563 : decode (rs_cd 116) 563 = .ok (.aload_n 2, 1) := by decide +kernel
theorem rs_d_116_564 : decode (rs_cd 116) 564 = .ok (.aload_n 0, 1) := by decide +kernel
theorem rs_d_116_565 : decode (rs_cd 116) 565 = .ok (.iload 4, 2) := by decide +kernel
theorem rs_d_116_567 : decode (rs_cd 116) 567 = .ok (.iconst 1, 1) := by decide +kernel
theorem rs_d_116_568 : decode (rs_cd 116) 568 = .ok (.iadd, 1) := by decide +kernel
theorem rs_d_116_569 : decode (rs_cd 116) 569 = .ok (.iaload, 1) := by decide +kernel
theorem rs_d_116_570 : decode (rs_cd 116) 570 = .ok (.invokevirtual 86, 3) := by decide +kernel
theorem rs_t_116_86 : rs_tg 116 86 = some 98 := by decide +kernel
theorem rs_d_116_573 : decode (rs_cd 116) 573 = .ok (.if_icmp .eq 357, 3) := by decide +kernel
theorem rs_d_116_576 : decode (rs_cd 116) 576 = .ok (.iconst 0, 1) := by decide +kernel
theorem rs_d_116_577 : decode (rs_cd 116) 577 = .ok (.ireturn, 1) := by decide +kernel
theorem rs_d_116_578 : decode (rs_cd 116) 578 = .ok (.aload_n 1, 1) := by decide +kernel
theorem rs_d_116_579 : decode (rs_cd 116) 579 = .ok (.invokevirtual 87, 3) := by decide +kernel
theorem rs_t_116_87 : rs_tg 116 87 = some 43 := by decide +kernel
theorem rs_d_116_582 : decode (rs_cd 116) 582 = .ok (.aload_n 2, 1) := by decide +kernel
theorem rs_d_116_583 : decode (rs_cd 116) 583 = .ok (.invokevirtual 90, 3) := by decide +kernel
theorem rs_t_116_90 : rs_tg 116 90 = some 99 := by decide +kernel
theorem rs_d_116_586 : decode (rs_cd 116) 586 = .ok (.if_icmp .eq 344, 3) := by decide +kernel
theorem rs_d_116_589 : decode (rs_cd 116) 589 = .ok (.iconst 0, 1) := by decide +kernel
theorem rs_d_116_590 : decode (rs_cd 116) 590 = .ok (.ireturn, 1) := by decide +kernel
theorem rs_d_116_591 : decode (rs_cd 116) 591 = .ok (.aload_n 1, 1) := by decide +kernel
theorem rs_d_116_592 : decode (rs_cd 116) 592 = .ok (.aload_n 0, 1) := by decide +kernel
theorem rs_d_116_593 : decode (rs_cd 116) 593 = .ok (.iload 4, 2) := by decide +kernel
theorem rs_d_116_595 : decode (rs_cd 116) 595 = .ok (.iconst 1, 1) := by decide +kernel
theorem rs_d_116_596 : decode (rs_cd 116) 596 = .ok (.iadd, 1) := by decide +kernel
theorem rs_d_116_597 : decode (rs_cd 116) 597 = .ok (.iaload, 1) := by decide +kernel
theorem rs_d_116_598 : decode (rs_cd 116) 598 = .ok (.aload_n 0, 1) := by decide +kernel
theorem rs_d_116_599 : decode (rs_cd 116) 599 = .ok (.iload 4, 2) := by decide +kernel
theorem rs_d_116_601 : decode (rs_cd 116) 601 = .ok (.iconst 2, 1) := by decide +kernel
theorem rs_d_116_602 : decode (rs_cd 116) 602 = .ok (.iadd, 1) := by decide +kernel
theorem rs_d_116_603 : decode (rs_cd 116) 603 = .ok (.iaload, 1) := by decide +kernel
theorem rs_d_116_604 : decode (rs_cd 116) 604 = .ok (.ifCond .eq 7, 3) := by decide +kernel
theorem rs_d_116_607 : decode (rs_cd 116) 607 = .ok (.iconst 1, 1) := by decide +kernel
theorem rs_d_116_608 : decode (rs_cd 116) 608 = .ok (.goto 4, 3) := by decide +kernel
theorem rs_d_116_611 : decode (rs_cd 116) 611 = .ok (.iconst 0, 1) := by decide +kernel
theorem rs_d_116_612 : decode (rs_cd 116) 612 = .ok (.aload_n 3, 1) := by decide +kernel
theorem rs_d_116_613 : decode (rs_cd 116) 613 = .ok (.invokestatic 91, 3) := by decide +kernel
theorem rs_t_116_91 : rs_tg 116 91 = some 120 := by decide +kernel
theorem rs_d_116_616 : decode (rs_cd 116) 616 = .ok (.istore 5, 2) := by decide +kernel
theorem rs_d_116_618 : decode (rs_cd 116) 618 = .ok (.aload_n 2, 1) := by decide +kernel
theorem rs_d_116_619 : decode (rs_cd 116) 619 = .ok (.aload_n 0, 1) := by decide +kernel
theorem rs_d_116_620 : decode (rs_cd 116) 620 = .ok (.iload 4, 2) := by decide +kernel
theorem rs_d_116_622 : decode (rs_cd 116) 622 = .ok (.iconst 1, 1) := by decide +kernel
theorem rs_d_116_623 : decode (rs_cd 116) 623 = .ok (.iadd, 1) := by decide +kernel
theorem rs_d_116_624 : decode (rs_cd 116) 624 = .ok (.iaload, 1) := by decide +kernel
theorem rs_d_116_625 : decode (rs_cd 116) 625 = .ok (.aload_n 0, 1) := by decide +kernel
theorem rs_d_116_626 : decode (rs_cd 116) 626 = .ok (.iload 4, 2) := by decide +kernel
theorem rs_d_116_628 : decode (rs_cd 116) 628 = .ok (.iconst 2, 1) := by decide +kernel
theorem rs_d_116_629 : decode (rs_cd 116) 629 = .ok (.iadd, 1) := by decide +kernel
theorem rs_d_116_630 : decode (rs_cd 116) 630 = .ok (.iaload, 1) := by decide +kernel
theorem rs_d_116_631 : decode (rs_cd 116) 631 = .ok (.ifCond .eq 7, 3) := by decide +kernel
theorem rs_d_116_634 : decode (rs_cd 116) 634 = .ok (.iconst 1, 1) := by decide +kernel
theorem rs_d_116_635 : decode (rs_cd 116) 635 = .ok (.goto 4, 3) := by decide +kernel
theorem rs_d_116_638 : decode (rs_cd 116) 638 = .ok (.iconst 0, 1) := by decide +kernel
theorem rs_d_116_639 : decode (rs_cd 116) 639 = .ok (.invokevirtual 94, 3) := by decide +kernel
theorem rs_t_116_94 : rs_tg 116 94 = some 100 := by decide +kernel
theorem rs_d_116_642 : decode (rs_cd 116) 642 = .ok (.istore 6, 2) := by decide +kernel
theorem rs_d_116_644 : decode (rs_cd 116) 644 = .ok (.aload_n 2, 1) := by decide +kernel
theorem rs_d_116_645 : decode (rs_cd 116) 645 = .ok (.invokevirtual 49, 3) := by decide +kernel
theorem rs_d_116_648 : decode (rs_cd 116) 648 = .ok (.iload 5, 2) := by decide +kernel
theorem rs_d_116_650 : decode (rs_cd 116) 650 = .ok (.if_icmp .eq 5, 3) := by decide +kernel
theorem rs_d_116_653 : decode (rs_cd 116) 653 = .ok (.iconst 0, 1) := by decide +kernel
theorem rs_d_116_654 : decode (rs_cd 116) 654 = .ok (.ireturn, 1) := by decide +kernel
theorem rs_d_116_655 : decode (rs_cd 116) 655 = .ok (.iload 5, 2) := by decide +kernel
theorem rs_d_116_657 : decode (rs_cd 116) 657 = .ok (.ifCond .ne 15, 3) := by decide +kernel
theorem rs_d_116_660 : decode (rs_cd 116) 660 = .ok (.aload_n 3, 1) := by decide +kernel
theorem rs_d_116_661 : decode (rs_cd 116) 661 = .ok (.iconst 0, 1) := by decide +kernel
theorem rs_d_116_662 : decode (rs_cd 116) 662 = .ok (.laload, 1) := by decide +kernel
theorem rs_d_116_663 : decode (rs_cd 116) 663 = .ok (.iload 6, 2) := by decide +kernel
theorem rs_d_116_665 : decode (rs_cd 116) 665 = .ok (.i2l, 1) := by decide +kernel
theorem rs_d_116_666 : decode (rs_cd 116) 666 = .ok (.lcmp, 1) := by decide +kernel
theorem rs_d_116_667 : decode (rs_cd 116) 667 = .ok (.ifCond .eq 5, 3) := by decide +kernel
theorem rs_d_116_670 : decode (rs_cd 116) 670 = .ok (.iconst 0, 1) := by decide +kernel
theorem rs_d_116_671 : decode (rs_cd 116) 671 = .ok (.ireturn, 1) := by decide +kernel
theorem rs_d_116_672 : decode (rs_cd 116) 672 = .ok (.goto 258, 3) := by decide +kernel
theorem rs_d_116_675 : decode (rs_cd 116) 675 = .ok (.aload_n 1, 1) := by decide +kernel
theorem rs_d_116_676 : decode (rs_cd 116) 676 = .ok (.aload_n 0, 1) := by decide +kernel
theorem rs_d_116_677 : decode (rs_cd 116) 677 = .ok (.iload 4, 2) := by decide +kernel
theorem rs_d_116_679 : decode (rs_cd 116) 679 = .ok (.iconst 1, 1) := by decide +kernel
theorem rs_d_116_680 : decode (rs_cd 116) 680 = .ok (.iadd, 1) := by decide +kernel
theorem rs_d_116_681 : decode (rs_cd 116) 681 = .ok (.iaload, 1) := by decide +kernel
theorem rs_d_116_682 : decode (rs_cd 116) 682 = .ok (.aload_n 3, 1) := by decide +kernel
theorem rs_d_116_683 : decode (rs_cd 116) 683 = .ok (.invokestatic 95, 3) := by decide +kernel
theorem rs_t_116_95 : rs_tg 116 95 = some 121 := by decide +kernel
theorem rs_d_116_686 : decode (rs_cd 116) 686 = .ok (.istore 5, 2) := by decide +kernel
theorem rs_d_116_688 : decode (rs_cd 116) 688 = .ok (.aload_n 2, 1) := by decide +kernel
theorem rs_d_116_689 : decode (rs_cd 116) 689 = .ok (.aload_n 0, 1) := by decide +kernel
theorem rs_d_116_690 : decode (rs_cd 116) 690 = .ok (.iload 4, 2) := by decide +kernel
theorem rs_d_116_692 : decode (rs_cd 116) 692 = .ok (.iconst 1, 1) := by decide +kernel
theorem rs_d_116_693 : decode (rs_cd 116) 693 = .ok (.iadd, 1) := by decide +kernel
theorem rs_d_116_694 : decode (rs_cd 116) 694 = .ok (.iaload, 1) := by decide +kernel
theorem rs_d_116_695 : decode (rs_cd 116) 695 = .ok (.invokevirtual 98, 3) := by decide +kernel
theorem rs_t_116_98 : rs_tg 116 98 = some 105 := by decide +kernel
theorem rs_d_116_698 : decode (rs_cd 116) 698 = .ok (.istore 6, 2) := by decide +kernel
theorem rs_d_116_700 : decode (rs_cd 116) 700 = .ok (.aload_n 2, 1) := by decide +kernel
theorem rs_d_116_701 : decode (rs_cd 116) 701 = .ok (.invokevirtual 49, 3) := by decide +kernel
theorem rs_d_116_704 : decode (rs_cd 116) 704 = .ok (.iload 5, 2) := by decide +kernel
theorem rs_d_116_706 : decode (rs_cd 116) 706 = .ok (.if_icmp .eq 5, 3) := by decide +kernel
theorem rs_d_116_709 : decode (rs_cd 116) 709 = .ok (.iconst 0, 1) := by decide +kernel
theorem rs_d_116_710 : decode (rs_cd 116) 710 = .ok (.ireturn, 1) := by decide +kernel
theorem rs_d_116_711 : decode (rs_cd 116) 711 = .ok (.iload 5, 2) := by decide +kernel
theorem rs_d_116_713 : decode (rs_cd 116) 713 = .ok (.ifCond .ne 15, 3) := by decide +kernel
theorem rs_d_116_716 : decode (rs_cd 116) 716 = .ok (.aload_n 3, 1) := by decide +kernel
theorem rs_d_116_717 : decode (rs_cd 116) 717 = .ok (.iconst 0, 1) := by decide +kernel
theorem rs_d_116_718 : decode (rs_cd 116) 718 = .ok (.laload, 1) := by decide +kernel
theorem rs_d_116_719 : decode (rs_cd 116) 719 = .ok (.iload 6, 2) := by decide +kernel
theorem rs_d_116_721 : decode (rs_cd 116) 721 = .ok (.i2l, 1) := by decide +kernel
theorem rs_d_116_722 : decode (rs_cd 116) 722 = .ok (.lcmp, 1) := by decide +kernel
theorem rs_d_116_723 : decode (rs_cd 116) 723 = .ok (.ifCond .eq 5, 3) := by decide +kernel
theorem rs_d_116_726 : decode (rs_cd 116) 726 = .ok (.iconst 0, 1) := by decide +kernel
theorem rs_d_116_727 : decode (rs_cd 116) 727 = .ok (.ireturn, 1) := by decide +kernel
theorem rs_d_116_728 : decode (rs_cd 116) 728 = .ok (.goto 202, 3) := by decide +kernel
theorem rs_d_116_731 : decode (rs_cd 116) 731 = .ok (.aload_n 1, 1) := by decide +kernel
theorem rs_d_116_732 : decode (rs_cd 116) 732 = .ok (.aload_n 0, 1) := by decide +kernel
theorem rs_d_116_733 : decode (rs_cd 116) 733 = .ok (.iload 4, 2) := by decide +kernel
theorem rs_d_116_735 : decode (rs_cd 116) 735 = .ok (.iconst 1, 1) := by decide +kernel
theorem rs_d_116_736 : decode (rs_cd 116) 736 = .ok (.iadd, 1) := by decide +kernel
theorem rs_d_116_737 : decode (rs_cd 116) 737 = .ok (.iaload, 1) := by decide +kernel
theorem rs_d_116_738 : decode (rs_cd 116) 738 = .ok (.aload_n 0, 1) := by decide +kernel
theorem rs_d_116_739 : decode (rs_cd 116) 739 = .ok (.iload 4, 2) := by decide +kernel
theorem rs_d_116_741 : decode (rs_cd 116) 741 = .ok (.iconst 2, 1) := by decide +kernel
theorem rs_d_116_742 : decode (rs_cd 116) 742 = .ok (.iadd, 1) := by decide +kernel
theorem rs_d_116_743 : decode (rs_cd 116) 743 = .ok (.iaload, 1) := by decide +kernel
theorem rs_d_116_744 : decode (rs_cd 116) 744 = .ok (.aload_n 3, 1) := by decide +kernel
theorem rs_d_116_745 : decode (rs_cd 116) 745 = .ok (.invokestatic 99, 3) := by decide +kernel
theorem rs_t_116_99 : rs_tg 116 99 = some 122 := by decide +kernel
theorem rs_d_116_748 : decode (rs_cd 116) 748 = .ok (.istore 5, 2) := by decide +kernel
theorem rs_d_116_750 : decode (rs_cd 116) 750 = .ok (.aload_n 2, 1) := by decide +kernel
theorem rs_d_116_751 : decode (rs_cd 116) 751 = .ok (.aload_n 0, 1) := by decide +kernel
theorem rs_d_116_752 : decode (rs_cd 116) 752 = .ok (.iload 4, 2) := by decide +kernel
theorem rs_d_116_754 : decode (rs_cd 116) 754 = .ok (.iconst 1, 1) := by decide +kernel
theorem rs_d_116_755 : decode (rs_cd 116) 755 = .ok (.iadd, 1) := by decide +kernel
theorem rs_d_116_756 : decode (rs_cd 116) 756 = .ok (.iaload, 1) := by decide +kernel
theorem rs_d_116_757 : decode (rs_cd 116) 757 = .ok (.aload_n 0, 1) := by decide +kernel
theorem rs_d_116_758 : decode (rs_cd 116) 758 = .ok (.iload 4, 2) := by decide +kernel
theorem rs_d_116_760 : decode (rs_cd 116) 760 = .ok (.iconst 2, 1) := by decide +kernel
theorem rs_d_116_761 : decode (rs_cd 116) 761 = .ok (.iadd, 1) := by decide +kernel
theorem rs_d_116_762 : decode (rs_cd 116) 762 = .ok (.iaload, 1) := by decide +kernel
theorem rs_d_116_763 : decode (rs_cd 116) 763 = .ok (.invokevirtual 101, 3) := by decide +kernel
theorem rs_t_116_101 : rs_tg 116 101 = some 107 := by decide +kernel
theorem rs_d_116_766 : decode (rs_cd 116) 766 = .ok (.istore 6, 2) := by decide +kernel
theorem rs_d_116_768 : decode (rs_cd 116) 768 = .ok (.aload_n 2, 1) := by decide +kernel
theorem rs_d_116_769 : decode (rs_cd 116) 769 = .ok (.invokevirtual 49, 3) := by decide +kernel
theorem rs_d_116_772 : decode (rs_cd 116) 772 = .ok (.iload 5, 2) := by decide +kernel
theorem rs_d_116_774 : decode (rs_cd 116) 774 = .ok (.if_icmp .eq 5, 3) := by decide +kernel
theorem rs_d_116_777 : decode (rs_cd 116) 777 = .ok (.iconst 0, 1) := by decide +kernel
theorem rs_d_116_778 : decode (rs_cd 116) 778 = .ok (.ireturn, 1) := by decide +kernel
theorem rs_d_116_779 : decode (rs_cd 116) 779 = .ok (.iload 5, 2) := by decide +kernel
theorem rs_d_116_781 : decode (rs_cd 116) 781 = .ok (.ifCond .ne 15, 3) := by decide +kernel
theorem rs_d_116_784 : decode (rs_cd 116) 784 = .ok (.aload_n 3, 1) := by decide +kernel
theorem rs_d_116_785 : decode (rs_cd 116) 785 = .ok (.iconst 0, 1) := by decide +kernel
theorem rs_d_116_786 : decode (rs_cd 116) 786 = .ok (.laload, 1) := by decide +kernel
theorem rs_d_116_787 : decode (rs_cd 116) 787 = .ok (.iload 6, 2) := by decide +kernel
theorem rs_d_116_789 : decode (rs_cd 116) 789 = .ok (.i2l, 1) := by decide +kernel
theorem rs_d_116_790 : decode (rs_cd 116) 790 = .ok (.lcmp, 1) := by decide +kernel
theorem rs_d_116_791 : decode (rs_cd 116) 791 = .ok (.ifCond .eq 5, 3) := by decide +kernel
theorem rs_d_116_794 : decode (rs_cd 116) 794 = .ok (.iconst 0, 1) := by decide +kernel
theorem rs_d_116_795 : decode (rs_cd 116) 795 = .ok (.ireturn, 1) := by decide +kernel
theorem rs_d_116_796 : decode (rs_cd 116) 796 = .ok (.goto 134, 3) := by decide +kernel
theorem rs_d_116_799 : decode (rs_cd 116) 799 = .ok (.aload_n 1, 1) := by decide +kernel
theorem rs_d_116_800 : decode (rs_cd 116) 800 = .ok (.aload_n 0, 1) := by decide +kernel
theorem rs_d_116_801 : decode (rs_cd 116) 801 = .ok (.iload 4, 2) := by decide +kernel
theorem rs_d_116_803 : decode (rs_cd 116) 803 = .ok (.iconst 1, 1) := by decide +kernel
theorem rs_d_116_804 : decode (rs_cd 116) 804 = .ok (.iadd, 1) := by decide +kernel
theorem rs_d_116_805 : decode (rs_cd 116) 805 = .ok (.iaload, 1) := by decide +kernel
theorem rs_d_116_806 : decode (rs_cd 116) 806 = .ok (.aload_n 0, 1) := by decide +kernel
theorem rs_d_116_807 : decode (rs_cd 116) 807 = .ok (.iload 4, 2) := by decide +kernel
theorem rs_d_116_809 : decode (rs_cd 116) 809 = .ok (.iconst 2, 1) := by decide +kernel
theorem rs_d_116_810 : decode (rs_cd 116) 810 = .ok (.iadd, 1) := by decide +kernel
theorem rs_d_116_811 : decode (rs_cd 116) 811 = .ok (.iaload, 1) := by decide +kernel
theorem rs_d_116_812 : decode (rs_cd 116) 812 = .ok (.aload_n 3, 1) := by decide +kernel
theorem rs_d_116_813 : decode (rs_cd 116) 813 = .ok (.invokestatic 102, 3) := by decide +kernel
theorem rs_t_116_102 : rs_tg 116 102 = some 123 := by decide +kernel
theorem rs_d_116_816 : decode (rs_cd 116) 816 = .ok (.istore 5, 2) := by decide +kernel
theorem rs_d_116_818 : decode (rs_cd 116) 818 = .ok (.aload_n 2, 1) := by decide +kernel
theorem rs_d_116_819 : decode (rs_cd 116) 819 = .ok (.aload_n 0, 1) := by decide +kernel
theorem rs_d_116_820 : decode (rs_cd 116) 820 = .ok (.iload 4, 2) := by decide +kernel
theorem rs_d_116_822 : decode (rs_cd 116) 822 = .ok (.iconst 1, 1) := by decide +kernel
theorem rs_d_116_823 : decode (rs_cd 116) 823 = .ok (.iadd, 1) := by decide +kernel
theorem rs_d_116_824 : decode (rs_cd 116) 824 = .ok (.iaload, 1) := by decide +kernel
theorem rs_d_116_825 : decode (rs_cd 116) 825 = .ok (.aload_n 0, 1) := by decide +kernel
theorem rs_d_116_826 : decode (rs_cd 116) 826 = .ok (.iload 4, 2) := by decide +kernel
theorem rs_d_116_828 : decode (rs_cd 116) 828 = .ok (.iconst 2, 1) := by decide +kernel
theorem rs_d_116_829 : decode (rs_cd 116) 829 = .ok (.iadd, 1) := by decide +kernel
theorem rs_d_116_830 : decode (rs_cd 116) 830 = .ok (.iaload, 1) := by decide +kernel
theorem rs_d_116_831 : decode (rs_cd 116) 831 = .ok (.invokevirtual 104, 3) := by decide +kernel
theorem rs_t_116_104 : rs_tg 116 104 = some 108 := by decide +kernel
theorem rs_d_116_834 : decode (rs_cd 116) 834 = .ok (.istore 6, 2) := by decide +kernel
theorem rs_d_116_836 : decode (rs_cd 116) 836 = .ok (.aload_n 2, 1) := by decide +kernel
theorem rs_d_116_837 : decode (rs_cd 116) 837 = .ok (.invokevirtual 49, 3) := by decide +kernel
theorem rs_d_116_840 : decode (rs_cd 116) 840 = .ok (.iload 5, 2) := by decide +kernel
theorem rs_d_116_842 : decode (rs_cd 116) 842 = .ok (.if_icmp .eq 5, 3) := by decide +kernel
theorem rs_d_116_845 : decode (rs_cd 116) 845 = .ok (.iconst 0, 1) := by decide +kernel
theorem rs_d_116_846 : decode (rs_cd 116) 846 = .ok (.ireturn, 1) := by decide +kernel
theorem rs_d_116_847 : decode (rs_cd 116) 847 = .ok (.iload 5, 2) := by decide +kernel
theorem rs_d_116_849 : decode (rs_cd 116) 849 = .ok (.ifCond .ne 15, 3) := by decide +kernel
theorem rs_d_116_852 : decode (rs_cd 116) 852 = .ok (.aload_n 3, 1) := by decide +kernel
theorem rs_d_116_853 : decode (rs_cd 116) 853 = .ok (.iconst 0, 1) := by decide +kernel
theorem rs_d_116_854 : decode (rs_cd 116) 854 = .ok (.laload, 1) := by decide +kernel
theorem rs_d_116_855 : decode (rs_cd 116) 855 = .ok (.iload 6, 2) := by decide +kernel
theorem rs_d_116_857 : decode (rs_cd 116) 857 = .ok (.i2l, 1) := by decide +kernel
theorem rs_d_116_858 : decode (rs_cd 116) 858 = .ok (.lcmp, 1) := by decide +kernel
theorem rs_d_116_859 : decode (rs_cd 116) 859 = .ok (.ifCond .eq 5, 3) := by decide +kernel
theorem rs_d_116_862 : decode (rs_cd 116) 862 = .ok (.iconst 0, 1) := by decide +kernel
theorem rs_d_116_863 : decode (rs_cd 116) 863 = .ok (.ireturn, 1) := by decide +kernel
theorem rs_d_116_864 : decode (rs_cd 116) 864 = .ok (.goto 66, 3) := by decide +kernel
theorem rs_d_116_867 : decode (rs_cd 116) 867 = .ok (.aload_n 1, 1) := by decide +kernel
theorem rs_d_116_868 : decode (rs_cd 116) 868 = .ok (.invokevirtual 105, 3) := by decide +kernel
theorem rs_t_116_105 : rs_tg 116 105 = some 48 := by decide +kernel
theorem rs_d_116_871 : decode (rs_cd 116) 871 = .ok (.aload_n 2, 1) := by decide +kernel
theorem rs_d_116_872 : decode (rs_cd 116) 872 = .ok (.invokevirtual 108, 3) := by decide +kernel
theorem rs_t_116_108 : rs_tg 116 108 = some 109 := by decide +kernel
theorem rs_d_116_875 : decode (rs_cd 116) 875 = .ok (.if_icmp .eq 55, 3) := by decide +kernel
theorem rs_d_116_878 : decode (rs_cd 116) 878 = .ok (.iconst 0, 1) := by decide +kernel
theorem rs_d_116_879 : decode (rs_cd 116) 879 = .ok (.ireturn, 1) := by decide +kernel
theorem rs_d_116_880 : decode (rs_cd 116) 880 = .ok (.aload_n 1, 1) := by decide +kernel
theorem rs_d_116_881 : decode (rs_cd 116) 881 = .ok (.aload_n 0, 1) := by decide +kernel
theorem rs_d_116_882 : decode (rs_cd 116) 882 = .ok (.iload 4, 2) := by decide +kernel
theorem rs_d_116_884 : decode (rs_cd 116) 884 = .ok (.iconst 1, 1) := by decide +kernel
theorem rs_d_116_885 : decode (rs_cd 116) 885 = .ok (.iadd, 1) := by decide +kernel
theorem rs_d_116_886 : decode (rs_cd 116) 886 = .ok (.iaload, 1) := by decide +kernel
theorem rs_d_116_887 : decode (rs_cd 116) 887 = .ok (.invokevirtual 109, 3) := by decide +kernel
theorem rs_t_116_109 : rs_tg 116 109 = some 49 := by decide +kernel
theorem rs_d_116_890 : decode (rs_cd 116) 890 = .ok (.aload_n 2, 1) := by decide +kernel
theorem rs_d_116_891 : decode (rs_cd 116) 891 = .ok (.aload_n 0, 1) := by decide +kernel
theorem rs_d_116_892 : decode (rs_cd 116) 892 = .ok (.iload 4, 2) := by decide +kernel
theorem rs_d_116_894 : decode (rs_cd 116) 894 = .ok (.iconst 1, 1) := by decide +kernel
theorem rs_d_116_895 : decode (rs_cd 116) 895 = .ok (.iadd, 1) := by decide +kernel
theorem rs_d_116_896 : decode (rs_cd 116) 896 = .ok (.iaload, 1) := by decide +kernel
theorem rs_d_116_897 : decode (rs_cd 116) 897 = .ok (.invokevirtual 112, 3) := by decide +kernel
theorem rs_t_116_112 : rs_tg 116 112 = some 110 := by decide +kernel
theorem rs_d_116_900 : decode (rs_cd 116) 900 = .ok (.if_icmp .eq 30, 3) := by decide +kernel
theorem rs_d_116_903 : decode (rs_cd 116) 903 = .ok (.iconst 0, 1) := by decide +kernel
theorem rs_d_116_904 : decode (rs_cd 116) 904 = .ok (.ireturn, 1) := by decide +kernel
theorem rs_d_116_905 : decode (rs_cd 116) 905 = .ok (.aload_n 1, 1) := by decide +kernel
theorem rs_d_116_906 : decode (rs_cd 116) 906 = .ok (.aload_n 0, 1) := by decide +kernel
theorem rs_d_116_907 : decode (rs_cd 116) 907 = .ok (.iload 4, 2) := by decide +kernel
theorem rs_d_116_909 : decode (rs_cd 116) 909 = .ok (.iconst 1, 1) := by decide +kernel
theorem rs_d_116_910 : decode (rs_cd 116) 910 = .ok (.iadd, 1) := by decide +kernel
theorem rs_d_116_911 : decode (rs_cd 116) 911 = .ok (.iaload, 1) := by decide +kernel
theorem rs_d_116_912 : decode (rs_cd 116) 912 = .ok (.invokevirtual 113, 3) := by decide +kernel
theorem rs_t_116_113 : rs_tg 116 113 = some 50 := by decide +kernel
theorem rs_d_116_915 : decode (rs_cd 116) 915 = .ok (.aload_n 2, 1) := by decide +kernel
theorem rs_d_116_916 : decode (rs_cd 116) 916 = .ok (.aload_n 0, 1) := by decide +kernel
theorem rs_d_116_917 : decode (rs_cd 116) 917 = .ok (.iload 4, 2) := by decide +kernel
theorem rs_d_116_919 : decode (rs_cd 116) 919 = .ok (.iconst 1, 1) := by decide +kernel
theorem rs_d_116_920 : decode (rs_cd 116) 920 = .ok (.iadd, 1) := by decide +kernel
theorem rs_d_116_921 : decode (rs_cd 116) 921 = .ok (.iaload, 1) := by decide +kernel
theorem rs_d_116_922 : decode (rs_cd 116) 922 = .ok (.invokevirtual 117, 3) := by decide +kernel
theorem rs_t_116_117 : rs_tg 116 117 = some 113 := by decide +kernel
theorem rs_d_116_925 : decode (rs_cd 116) 925 = .ok (.if_icmp .eq 5, 3) := by decide +kernel
theorem rs_d_116_928 : decode (rs_cd 116) 928 = .ok (.iconst 0, 1) := by decide +kernel
theorem rs_d_116_929 : decode (rs_cd 116) 929 = .ok (.ireturn, 1) := by decide +kernel
theorem rs_d_116_930 : decode (rs_cd 116) 930 = .ok (.iinc 4 5, 3) := by decide +kernel
theorem rs_d_116_933 : decode (rs_cd 116) 933 = .ok (.goto (-910), 3) := by decide +kernel
theorem rs_d_116_936 : decode (rs_cd 116) 936 = .ok (.iconst 1, 1) := by decide +kernel
theorem rs_d_116_937 : decode (rs_cd 116) 937 = .ok (.ireturn, 1) := by decide +kernel
