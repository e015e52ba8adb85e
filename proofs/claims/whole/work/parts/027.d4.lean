theorem rs_d_70_0 : decode (rs_cd 70) 0 = .ok (.aload_n 0, 1) := by decide +kernel
theorem rs_d_70_1 : decode (rs_cd 70) 1 = .ok (.iconst 0, 1) := by decide +kernel
theorem rs_d_70_2 : decode (rs_cd 70) 2 = .ok (.putfield 74, 3) := by decide +kernel
theorem rs_f_70_74 : rs_fd 70 74 = some (8, 0, 0) := by decide +kernel
theorem rs_d_70_5 : decode (rs_cd 70) 5 = .ok (.aload_n 0, 1) := by decide +kernel
theorem rs_d_70_6 : decode (rs_cd 70) 6 = .ok (.iload_n 1, 1) := by decide +kernel
theorem rs_d_70_7 : decode (rs_cd 70) 7 = .ok (.iload_n 2, 1) := by decide +kernel
theorem rs_d_70_8 : decode (rs_cd 70) 8 = .ok (.iload_n 3, 1) := by decide +kernel
theorem rs_d_70_9 : decode (rs_cd 70) 9 = .ok (.iload 4, 2) := by decide +kernel
theorem rs_d_70_11 : decode (rs_cd 70) 11 = .ok (.invokevirtual 100, 3) := by decide +kernel
theorem rs_t_70_100 : rs_tg 70 100 = some 69 := by decide +kernel
theorem rs_d_70_14 : decode (rs_cd 70) 14 = .ok (.ifCond .ne 9, 3) := by decide +kernel
theorem rs_d_70_17 : decode (rs_cd 70) 17 = .ok (.aload_n 0, 1) := by decide +kernel
theorem rs_d_70_18 : decode (rs_cd 70) 18 = .ok (.iconst 1, 1) := by decide +kernel
theorem rs_d_70_19 : decode (rs_cd 70) 19 = .ok (.invokevirtual 82, 3) := by decide +kernel
theorem rs_t_70_82 : rs_tg 70 82 = some 61 := by decide +kernel
theorem rs_d_70_22 : decode (rs_cd 70) 22 = .ok (.ireturn, 1) := by decide +kernel
theorem rs_d_70_23 : decode (rs_cd 70) 23 = .ok (.aload_n 0, 1) := by decide +kernel
theorem rs_d_70_24 : decode (rs_cd 70) 24 = .ok (.getfield 104, 3) := by decide +kernel
theorem rs_f_70_104 : rs_fd 70 104 = some (8, 4, 0) := by decide +kernel
theorem rs_d_70_27 : decode (rs_cd 70) 27 = .ok (.bipush 12, 2) := by decide +kernel
theorem rs_d_70_29 : decode (rs_cd 70) 29 = .ok (.if_icmp .ne 9, 3) := by decide +kernel
theorem rs_d_70_32 : decode (rs_cd 70) 32 = .ok (.aload_n 0, 1) := by decide +kernel
theorem rs_d_70_33 : decode (rs_cd 70) 33 = .ok (.iconst 2, 1) := by decide +kernel
theorem rs_d_70_34 : decode (rs_cd 70) 34 = .ok (.invokevirtual 82, 3) := by decide +kernel
theorem rs_d_70_37 : decode (rs_cd 70) 37 = .ok (.ireturn, 1) := by decide +kernel
theorem rs_d_70_38 : decode (rs_cd 70) 38 = .ok (.aload_n 0, 1) := by decide +kernel
theorem rs_d_70_39 : decode (rs_cd 70) 39 = .ok (.getfield 16, 3) := by decide +kernel
theorem rs_f_70_16 : rs_fd 70 16 = some (8, 5, 2) := by decide +kernel
theorem rs_d_70_42 : decode (rs_cd 70) 42 = .ok (.aload_n 0, 1) := by decide +kernel
theorem rs_d_70_43 : decode (rs_cd 70) 43 = .ok (.getfield 104, 3) := by decide +kernel
theorem rs_d_70_46 : decode (rs_cd 70) 46 = .ok (.iload_n 1, 1) := by decide +kernel
theorem rs_d_70_47 : decode (rs_cd 70) 47 = .ok (.iastore, 1) := by decide +kernel
theorem rs_d_70_48 : decode (rs_cd 70) 48 = .ok (.aload_n 0, 1) := by decide +kernel
theorem rs_d_70_49 : decode (rs_cd 70) 49 = .ok (.getfield 19, 3) := by decide +kernel
theorem rs_f_70_19 : rs_fd 70 19 = some (8, 6, 2) := by decide +kernel
theorem rs_d_70_52 : decode (rs_cd 70) 52 = .ok (.aload_n 0, 1) := by decide +kernel
theorem rs_d_70_53 : decode (rs_cd 70) 53 = .ok (.getfield 104, 3) := by decide +kernel
theorem rs_d_70_56 : decode (rs_cd 70) 56 = .ok (.iload_n 2, 1) := by decide +kernel
theorem rs_d_70_57 : decode (rs_cd 70) 57 = .ok (.iastore, 1) := by decide +kernel
theorem rs_d_70_58 : decode (rs_cd 70) 58 = .ok (.aload_n 0, 1) := by decide +kernel
theorem rs_d_70_59 : decode (rs_cd 70) 59 = .ok (.getfield 22, 3) := by decide +kernel
theorem rs_f_70_22 : rs_fd 70 22 = some (8, 7, 2) := by decide +kernel
theorem rs_d_70_62 : decode (rs_cd 70) 62 = .ok (.aload_n 0, 1) := by decide +kernel
theorem rs_d_70_63 : decode (rs_cd 70) 63 = .ok (.getfield 104, 3) := by decide +kernel
theorem rs_d_70_66 : decode (rs_cd 70) 66 = .ok (.iload_n 3, 1) := by decide +kernel
theorem rs_d_70_67 : decode (rs_cd 70) 67 = .ok (.iastore, 1) := by decide +kernel
theorem rs_d_70_68 : decode (rs_cd 70) 68 = .ok (.aload_n 0, 1) := by decide +kernel
theorem rs_d_70_69 : decode (rs_cd 70) 69 = .ok (.getfield 25, 3) := by decide +kernel
theorem rs_f_70_25 : rs_fd 70 25 = some (8, 8, 2) := by decide +kernel
theorem rs_d_70_72 : decode (rs_cd 70) 72 = .ok (.aload_n 0, 1) := by decide +kernel
theorem rs_d_70_73 : decode (rs_cd 70) 73 = .ok (.getfield 104, 3) := by decide +kernel
theorem rs_d_70_76 : decode (rs_cd 70) 76 = .ok (.iload 4, 2) := by decide +kernel
theorem rs_d_70_78 : decode (rs_cd 70) 78 = .ok (.iastore, 1) := by decide +kernel
theorem rs_d_70_79 : decode (rs_cd 70) 79 = .ok (.aload_n 0, 1) := by decide +kernel
theorem rs_d_70_80 : decode (rs_cd 70) 80 = .ok (.getfield 28, 3) := by decide +kernel
theorem rs_f_70_28 : rs_fd 70 28 = some (8, 9, 2) := by decide +kernel
theorem rs_d_70_83 : decode (rs_cd 70) 83 = .ok (.aload_n 0, 1) := by decide +kernel
theorem rs_d_70_84 : decode (rs_cd 70) 84 = .ok (.getfield 104, 3) := by decide +kernel
theorem rs_d_70_87 : decode (rs_cd 70) 87 = .ok (.iconst 1, 1) := by decide +kernel
theorem rs_d_70_88 : decode (rs_cd 70) 88 = .ok (.bastore, 1) := by decide +kernel
theorem rs_d_70_89 : decode (rs_cd 70) 89 = .ok (.aload_n 0, 1) := by decide +kernel
theorem rs_d_70_90 : decode (rs_cd 70) 90 = .ok (.dup, 1) := by decide +kernel
theorem rs_d_70_91 : decode (rs_cd 70) 91 = .ok (.getfield 104, 3) := by decide +kernel
theorem rs_d_70_94 : decode (rs_cd 70) 94 = .ok (.iconst 1, 1) := by decide +kernel
theorem rs_d_70_95 : decode (rs_cd 70) 95 = .ok (.iadd, 1) := by decide +kernel
theorem rs_d_70_96 : decode (rs_cd 70) 96 = .ok (.putfield 104, 3) := by decide +kernel
theorem rs_d_70_99 : decode (rs_cd 70) 99 = .ok (.aload_n 0, 1) := by decide +kernel
theorem rs_d_70_100 : decode (rs_cd 70) 100 = .ok (.getfield 104, 3) := by decide +kernel
theorem rs_d_70_103 : decode (rs_cd 70) 103 = .ok (.iconst 1, 1) := by decide +kernel
theorem rs_d_70_104 : decode (rs_cd 70) 104 = .ok (.isub, 1) := by decide +kernel
theorem rs_d_70_105 : decode (rs_cd 70) 105 = .ok (.ireturn, 1) := by decide +kernel
theorem rs_d_71_0 : decode (rs_cd 71) 0 = .ok (.aload_n 0, 1) := by decide +kernel
theorem rs_d_71_1 : decode (rs_cd 71) 1 = .ok (.iconst 0, 1) := by decide +kernel
theorem rs_d_71_2 : decode (rs_cd 71) 2 = .ok (.putfield 74, 3) := by decide +kernel
theorem rs_f_71_74 : rs_fd 71 74 = some (8, 0, 0) := by decide +kernel
theorem rs_d_71_5 : decode (rs_cd 71) 5 = .ok (.iload_n 1, 1) := by decide +kernel
theorem rs_d_71_6 : decode (rs_cd 71) 6 = .ok (.iconst 0, 1) := by decide +kernel
theorem rs_d_71_7 : decode (rs_cd 71) 7 = .ok (.aload_n 0, 1) := by decide +kernel
theorem rs_d_71_8 : decode (rs_cd 71) 8 = .ok (.getfield 104, 3) := by decide +kernel
theorem rs_f_71_104 : rs_fd 71 104 = some (8, 4, 0) := by decide +kernel
theorem rs_d_71_11 : decode (rs_cd 71) 11 = .ok (.iconst 1, 1) := by decide +kernel
theorem rs_d_71_12 : decode (rs_cd 71) 12 = .ok (.isub, 1) := by decide +kernel
theorem rs_d_71_13 : decode (rs_cd 71) 13 = .ok (.invokestatic 89, 3) := by decide +kernel
theorem rs_t_71_89 : rs_tg 71 89 = some 62 := by decide +kernel
theorem rs_d_71_16 : decode (rs_cd 71) 16 = .ok (.ifCond .eq 13, 3) := by decide +kernel
theorem rs_d_71_19 : decode (rs_cd 71) 19 = .ok (.aload_n 0, 1) := by decide +kernel
theorem rs_d_71_20 : decode (rs_cd 71) 20 = .ok (.getfield 28, 3) := by decide +kernel
theorem rs_f_71_28 : rs_fd 71 28 = some (8, 9, 2) := by decide +kernel
theorem rs_d_71_23 : decode (rs_cd 71) 23 = .ok (.iload_n 1, 1) := by decide +kernel
theorem rs_d_71_24 : decode (rs_cd 71) 24 = .ok (.baload, 1) := by decide +kernel
theorem rs_d_71_25 : decode (rs_cd 71) 25 = .ok (.iload_n 2, 1) := by decide +kernel
theorem rs_d_71_26 : decode (rs_cd 71) 26 = .ok (.if_icmp .ne 5, 3) := by decide +kernel
theorem rs_d_71_29 : decode (rs_cd 71) 29 = .ok (.iconst 0, 1) := by decide +kernel
theorem rs_d_71_30 : decode (rs_cd 71) 30 = .ok (.ireturn, 1) := by decide +kernel
theorem rs_d_71_31 : decode (rs_cd 71) 31 = .ok (.aload_n 0, 1) := by decide +kernel
theorem rs_d_71_32 : decode (rs_cd 71) 32 = .ok (.getfield 28, 3) := by decide +kernel
theorem rs_d_71_35 : decode (rs_cd 71) 35 = .ok (.iload_n 1, 1) := by decide +kernel
theorem rs_d_71_36 : decode (rs_cd 71) 36 = .ok (.iload_n 2, 1) := by decide +kernel
theorem rs_d_71_37 : decode (rs_cd 71) 37 = .ok (.bastore, 1) := by decide +kernel
theorem rs_d_71_38 : decode (rs_cd 71) 38 = .ok (.iconst 1, 1) := by decide +kernel
theorem rs_d_71_39 : decode (rs_cd 71) 39 = .ok (.ireturn, 1) := by decide +kernel
theorem rs_d_72_0 : decode (rs_cd 72) 0 = .ok (.aload_n 0, 1) := by decide +kernel
theorem rs_d_72_1 : decode (rs_cd 72) 1 = .ok (.iconst 0, 1) := by decide +kernel
theorem rs_d_72_2 : decode (rs_cd 72) 2 = .ok (.putfield 74, 3) := by decide +kernel
theorem rs_f_72_74 : rs_fd 72 74 = some (8, 0, 0) := by decide +kernel
theorem rs_d_72_5 : decode (rs_cd 72) 5 = .ok (.iload_n 1, 1) := by decide +kernel
theorem rs_d_72_6 : decode (rs_cd 72) 6 = .ok (.iconst 0, 1) := by decide +kernel
theorem rs_d_72_7 : decode (rs_cd 72) 7 = .ok (.iconst 2, 1) := by decide +kernel
theorem rs_d_72_8 : decode (rs_cd 72) 8 = .ok (.invokestatic 89, 3) := by decide +kernel
theorem rs_t_72_89 : rs_tg 72 89 = some 62 := by decide +kernel
theorem rs_d_72_11 : decode (rs_cd 72) 11 = .ok (.ifCond .eq 36, 3) := by decide +kernel
theorem rs_d_72_14 : decode (rs_cd 72) 14 = .ok (.iload_n 2, 1) := by decide +kernel
theorem rs_d_72_15 : decode (rs_cd 72) 15 = .ok (.bipush (-100), 2) := by decide +kernel
theorem rs_d_72_17 : decode (rs_cd 72) 17 = .ok (.bipush 100, 2) := by decide +kernel
theorem rs_d_72_19 : decode (rs_cd 72) 19 = .ok (.invokestatic 89, 3) := by decide +kernel
theorem rs_d_72_22 : decode (rs_cd 72) 22 = .ok (.ifCond .eq 25, 3) := by decide +kernel
theorem rs_d_72_25 : decode (rs_cd 72) 25 = .ok (.iload_n 3, 1) := by decide +kernel
theorem rs_d_72_26 : decode (rs_cd 72) 26 = .ok (.bipush (-100), 2) := by decide +kernel
theorem rs_d_72_28 : decode (rs_cd 72) 28 = .ok (.bipush 100, 2) := by decide +kernel
theorem rs_d_72_30 : decode (rs_cd 72) 30 = .ok (.invokestatic 89, 3) := by decide +kernel
theorem rs_d_72_33 : decode (rs_cd 72) 33 = .ok (.ifCond .eq 14, 3) := by decide +kernel
theorem rs_d_72_36 : decode (rs_cd 72) 36 = .ok (.aload_n 0, 1) := by decide +kernel
theorem rs_d_72_37 : decode (rs_cd 72) 37 = .ok (.getfield 32, 3) := by decide +kernel
theorem rs_f_72_32 : rs_fd 72 32 = some (8, 10, 2) := by decide +kernel
theorem rs_d_72_40 : decode (rs_cd 72) 40 = .ok (.iload_n 1, 1) := by decide +kernel
theorem rs_d_72_41 : decode (rs_cd 72) 41 = .ok (.iaload, 1) := by decide +kernel
theorem rs_d_72_42 : decode (rs_cd 72) 42 = .ok (.bipush 10, 2) := by decide +kernel
theorem rs_d_72_44 : decode (rs_cd 72) 44 = .ok (.if_icmp .ne 5, 3) := by decide +kernel
theorem rs_d_72_47 : decode (rs_cd 72) 47 = .ok (.iconst 0, 1) := by decide +kernel
theorem rs_d_72_48 : decode (rs_cd 72) 48 = .ok (.ireturn, 1) := by decide +kernel
theorem rs_d_72_49 : decode (rs_cd 72) 49 = .ok (.aload_n 0, 1) := by decide +kernel
theorem rs_d_72_50 : decode (rs_cd 72) 50 = .ok (.getfield 35, 3) := by decide +kernel
theorem rs_f_72_35 : rs_fd 72 35 = some (8, 11, 2) := by decide +kernel
theorem rs_d_72_53 : decode (rs_cd 72) 53 = .ok (.bipush 10, 2) := by decide +kernel
theorem rs_d_72_55 : decode (rs_cd 72) 55 = .ok (.iload_n 1, 1) := by decide +kernel
theorem rs_d_72_56 : decode (rs_cd 72) 56 = .ok (.imul, 1) := by decide +kernel
theorem rs_d_72_57 : decode (rs_cd 72) 57 = .ok (.aload_n 0, 1) := by decide +kernel
theorem rs_d_72_58 : decode (rs_cd 72) 58 = .ok (.getfield 32, 3) := by decide +kernel
theorem rs_d_72_61 : decode (rs_cd 72) 61 = .ok (.iload_n 1, 1) := by decide +kernel
theorem rs_d_72_62 : decode (rs_cd 72) 62 = .ok (.iaload, 1) := by decide +kernel
theorem rs_d_72_63 : decode (rs_cd 72) 63 = .ok (.iadd, 1) := by decide +kernel
theorem rs_d_72_64 : decode (rs_cd 72) 64 = .ok (.iload_n 2, 1) := by decide +kernel
theorem rs_d_72_65 : decode (rs_cd 72) 65 = .ok (.iastore, 1) := by decide +kernel
theorem rs_d_72_66 : decode (rs_cd 72) 66 = .ok (.aload_n 0, 1) := by decide +kernel
theorem rs_d_72_67 : decode (rs_cd 72) 67 = .ok (.getfield 38, 3) := by decide +kernel
theorem rs_f_72_38 : rs_fd 72 38 = some (8, 12, 2) := by decide +kernel
theorem rs_d_72_70 : decode (rs_cd 72) 70 = .ok (.bipush 10, 2) := by decide +kernel
theorem rs_d_72_72 : decode (rs_cd 72) 72 = .ok (.iload_n 1, 1) := by decide +kernel
theorem rs_d_72_73 : decode (rs_cd 72) 73 = .ok (.imul, 1) := by decide +kernel
theorem rs_d_72_74 : decode (rs_cd 72) 74 = .ok (.aload_n 0, 1) := by decide +kernel
theorem rs_d_72_75 : decode (rs_cd 72) 75 = .ok (.getfield 32, 3) := by decide +kernel
theorem rs_d_72_78 : decode (rs_cd 72) 78 = .ok (.iload_n 1, 1) := by decide +kernel
theorem rs_d_72_79 : decode (rs_cd 72) 79 = .ok (.iaload, 1) := by decide +kernel
theorem rs_d_72_80 : decode (rs_cd 72) 80 = .ok (.iadd, 1) := by decide +kernel
theorem rs_d_72_81 : decode (rs_cd 72) 81 = .ok (.iload_n 3, 1) := by decide +kernel
theorem rs_d_72_82 : decode (rs_cd 72) 82 = .ok (.iastore, 1) := by decide +kernel
theorem rs_d_72_83 : decode (rs_cd 72) 83 = .ok (.aload_n 0, 1) := by decide +kernel
theorem rs_d_72_84 : decode (rs_cd 72) 84 = .ok (.getfield 32, 3) := by decide +kernel
theorem rs_d_72_87 : decode (rs_cd 72) 87 = .ok (.iload_n 1, 1) := by decide +kernel
theorem rs_d_72_88 : decode (rs_cd 72) 88 = .ok (.dup2, 1) := by decide +kernel
theorem rs_d_72_89 : decode (rs_cd 72) 89 = .ok (.iaload, 1) := by decide +kernel
theorem rs_d_72_90 : decode (rs_cd 72) 90 = .ok (.iconst 1, 1) := by decide +kernel
theorem rs_d_72_91 : decode (rs_cd 72) 91 = .ok (.iadd, 1) := by decide +kernel
theorem rs_d_72_92 : decode (rs_cd 72) 92 = .ok (.iastore, 1) := by decide +kernel
theorem rs_d_72_93 : decode (rs_cd 72) 93 = .ok (.aload_n 0, 1) := by decide +kernel
theorem rs_d_72_94 : decode (rs_cd 72) 94 = .ok (.getfield 32, 3) := by decide +kernel
theorem rs_d_72_97 : decode (rs_cd 72) 97 = .ok (.iload_n 1, 1) := by decide +kernel
theorem rs_d_72_98 : decode (rs_cd 72) 98 = .ok (.iaload, 1) := by decide +kernel
theorem rs_d_72_99 : decode (rs_cd 72) 99 = .ok (.ireturn, 1) := by decide +kernel
theorem rs_d_73_0 : decode (rs_cd 73) 0 = .ok (.aload_n 0, 1) := by decide +kernel
theorem rs_d_73_1 : decode (rs_cd 73) 1 = .ok (.iconst 0, 1) := by decide +kernel
theorem rs_d_73_2 : decode (rs_cd 73) 2 = .ok (.putfield 74, 3) := by decide +kernel
theorem rs_f_73_74 : rs_fd 73 74 = some (8, 0, 0) := by decide +kernel
theorem rs_d_73_5 : decode (rs_cd 73) 5 = .ok (.aload_n 0, 1) := by decide +kernel
theorem rs_d_73_6 : decode (rs_cd 73) 6 = .ok (.iload_n 1, 1) := by decide +kernel
theorem rs_d_73_7 : decode (rs_cd 73) 7 = .ok (.invokevirtual 96, 3) := by decide +kernel
theorem rs_t_73_96 : rs_tg 73 96 = some 67 := by decide +kernel
theorem rs_d_73_10 : decode (rs_cd 73) 10 = .ok (.ifCond .eq 11, 3) := by decide +kernel
theorem rs_d_73_13 : decode (rs_cd 73) 13 = .ok (.iload_n 2, 1) := by decide +kernel
theorem rs_d_73_14 : decode (rs_cd 73) 14 = .ok (.iload_n 3, 1) := by decide +kernel
theorem rs_d_73_15 : decode (rs_cd 73) 15 = .ok (.invokestatic 78, 3) := by decide +kernel
theorem rs_t_73_78 : rs_tg 73 78 = some 65 := by decide +kernel
theorem rs_d_73_18 : decode (rs_cd 73) 18 = .ok (.ifCond .ne 9, 3) := by decide +kernel
theorem rs_d_73_21 : decode (rs_cd 73) 21 = .ok (.aload_n 0, 1) := by decide +kernel
theorem rs_d_73_22 : decode (rs_cd 73) 22 = .ok (.iconst 1, 1) := by decide +kernel
theorem rs_d_73_23 : decode (rs_cd 73) 23 = .ok (.invokevirtual 82, 3) := by decide +kernel
theorem rs_t_73_82 : rs_tg 73 82 = some 61 := by decide +kernel
theorem rs_d_73_26 : decode (rs_cd 73) 26 = .ok (.ireturn, 1) := by decide +kernel
theorem rs_d_73_27 : decode (rs_cd 73) 27 = .ok (.aload_n 0, 1) := by decide +kernel
theorem rs_d_73_28 : decode (rs_cd 73) 28 = .ok (.getfield 107, 3) := by decide +kernel
theorem rs_f_73_107 : rs_fd 73 107 = some (8, 13, 0) := by decide +kernel
theorem rs_d_73_31 : decode (rs_cd 73) 31 = .ok (.bipush 12, 2) := by decide +kernel
theorem rs_d_73_33 : decode (rs_cd 73) 33 = .ok (.if_icmp .ne 9, 3) := by decide +kernel
theorem rs_d_73_36 : decode (rs_cd 73) 36 = .ok (.aload_n 0, 1) := by decide +kernel
theorem rs_d_73_37 : decode (rs_cd 73) 37 = .ok (.iconst 2, 1) := by decide +kernel
theorem rs_d_73_38 : decode (rs_cd 73) 38 = .ok (.invokevirtual 82, 3) := by decide +kernel
theorem rs_d_73_41 : decode (rs_cd 73) 41 = .ok (.ireturn, 1) := by decide +kernel
theorem rs_d_73_42 : decode (rs_cd 73) 42 = .ok (.aload_n 0, 1) := by decide +kernel
theorem rs_d_73_43 : decode (rs_cd 73) 43 = .ok (.getfield 41, 3) := by decide +kernel
theorem rs_f_73_41 : rs_fd 73 41 = some (8, 14, 2) := by decide +kernel
theorem rs_d_73_46 : decode (rs_cd 73) 46 = .ok (.aload_n 0, 1) := by decide +kernel
theorem rs_d_73_47 : decode (rs_cd 73) 47 = .ok (.getfield 107, 3) := by decide +kernel
theorem rs_d_73_50 : decode (rs_cd 73) 50 = .ok (.iload_n 1, 1) := by decide +kernel
theorem rs_d_73_51 : decode (rs_cd 73) 51 = .ok (.iastore, 1) := by decide +kernel
theorem rs_d_73_52 : decode (rs_cd 73) 52 = .ok (.aload_n 0, 1) := by decide +kernel
theorem rs_d_73_53 : decode (rs_cd 73) 53 = .ok (.getfield 44, 3) := by decide +kernel
theorem rs_f_73_44 : rs_fd 73 44 = some (8, 15, 2) := by decide +kernel
theorem rs_d_73_56 : decode (rs_cd 73) 56 = .ok (.aload_n 0, 1) := by decide +kernel
theorem rs_d_73_57 : decode (rs_cd 73) 57 = .ok (.getfield 107, 3) := by decide +kernel
theorem rs_d_73_60 : decode (rs_cd 73) 60 = .ok (.iload_n 2, 1) := by decide +kernel
theorem rs_d_73_61 : decode (rs_cd 73) 61 = .ok (.iastore, 1) := by decide +kernel
theorem rs_d_73_62 : decode (rs_cd 73) 62 = .ok (.aload_n 0, 1) := by decide +kernel
theorem rs_d_73_63 : decode (rs_cd 73) 63 = .ok (.getfield 47, 3) := by decide +kernel
theorem rs_f_73_47 : rs_fd 73 47 = some (8, 16, 2) := by decide +kernel
theorem rs_d_73_66 : decode (rs_cd 73) 66 = .ok (.aload_n 0, 1) := by decide +kernel
theorem rs_d_73_67 : decode (rs_cd 73) 67 = .ok (.getfield 107, 3) := by decide +kernel
theorem rs_d_73_70 : decode (rs_cd 73) 70 = .ok (.iload_n 3, 1) := by decide +kernel
theorem rs_d_73_71 : decode (rs_cd 73) 71 = .ok (.iastore, 1) := by decide +kernel
theorem rs_d_73_72 : decode (rs_cd 73) 72 = .ok (.aload_n 0, 1) := by decide +kernel
theorem rs_d_73_73 : decode (rs_cd 73) 73 = .ok (.aload_n 0, 1) := by decide +kernel
theorem rs_d_73_74 : decode (rs_cd 73) 74 = .ok (.getfield 110, 3) := by decide +kernel
theorem rs_f_73_110 : rs_fd 73 110 = some (8, 17, 0) := by decide +kernel
theorem rs_d_73_77 : decode (rs_cd 73) 77 = .ok (.iconst 1, 1) := by decide +kernel
theorem rs_d_73_78 : decode (rs_cd 73) 78 = .ok (.aload_n 0, 1) := by decide +kernel
theorem rs_d_73_79 : decode (rs_cd 73) 79 = .ok (.getfield 107, 3) := by decide +kernel
theorem rs_d_73_82 : decode (rs_cd 73) 82 = .ok (.ishl, 1) := by decide +kernel
theorem rs_d_73_83 : decode (rs_cd 73) 83 = .ok (.ior, 1) := by decide +kernel
theorem rs_d_73_84 : decode (rs_cd 73) 84 = .ok (.putfield 110, 3) := by decide +kernel
theorem rs_d_73_87 : decode (rs_cd 73) 87 = .ok (.aload_n 0, 1) := by decide +kernel
theorem rs_d_73_88 : decode (rs_cd 73) 88 = .ok (.dup, 1) := by decide +kernel
theorem rs_d_73_89 : decode (rs_cd 73) 89 = .ok (.getfield 107, 3) := by decide +kernel
theorem rs_d_73_92 : decode (rs_cd 73) 92 = .ok (.iconst 1, 1) := by decide +kernel
theorem rs_d_73_93 : decode (rs_cd 73) 93 = .ok (.iadd, 1) := by decide +kernel
theorem rs_d_73_94 : decode (rs_cd 73) 94 = .ok (.putfield 107, 3) := by decide +kernel
theorem rs_d_73_97 : decode (rs_cd 73) 97 = .ok (.aload_n 0, 1) := by decide +kernel
theorem rs_d_73_98 : decode (rs_cd 73) 98 = .ok (.getfield 107, 3) := by decide +kernel
theorem rs_d_73_101 : decode (rs_cd 73) 101 = .ok (.iconst 1, 1) := by decide +kernel
theorem rs_d_73_102 : decode (rs_cd 73) 102 = .ok (.isub, 1) := by decide +kernel
theorem rs_d_73_103 : decode (rs_cd 73) 103 = .ok (.ireturn, 1) := by decide +kernel
theorem rs_d_74_0 : decode (rs_cd 74) 0 = .ok (.iload_n 0, 1) := by decide +kernel
theorem rs_d_74_1 : decode (rs_cd 74) 1 = .ok (.iload_n 1, 1) := by decide +kernel
theorem rs_d_74_2 : decode (rs_cd 74) 2 = .ok (.ishr, 1) := by decide +kernel
theorem rs_d_74_3 : decode (rs_cd 74) 3 = .ok (.iconst 1, 1) := by decide +kernel
theorem rs_d_74_4 : decode (rs_cd 74) 4 = .ok (.iand, 1) := by decide +kernel
theorem rs_d_74_5 : decode (rs_cd 74) 5 = .ok (.iconst 1, 1) := by decide +kernel
theorem rs_d_74_6 : decode (rs_cd 74) 6 = .ok (.if_icmp .ne 7, 3) := by decide +kernel
theorem rs_d_74_9 : decode (rs_cd 74) 9 = .ok (.iconst 1, 1) := by decide +kernel
theorem rs_d_74_10 : decode (rs_cd 74) 10 = .ok (.goto 4, 3) := by decide +kernel
theorem rs_d_74_13 : decode (rs_cd 74) 13 = .ok (.iconst 0, 1) := by decide +kernel
theorem rs_d_74_14 : decode (rs_cd 74) 14 = .ok (.ireturn, 1) := by decide +kernel
theorem rs_d_75_0 : decode (rs_cd 75) 0 = .ok (.aload_n 0, 1) := by decide +kernel
theorem rs_d_75_1 : decode (rs_cd 75) 1 = .ok (.iconst 0, 1) := by decide +kernel
theorem rs_d_75_2 : decode (rs_cd 75) 2 = .ok (.putfield 74, 3) := by decide +kernel
theorem rs_f_75_74 : rs_fd 75 74 = some (8, 0, 0) := by decide +kernel
theorem rs_d_75_5 : decode (rs_cd 75) 5 = .ok (.iload_n 1, 1) := by decide +kernel
theorem rs_d_75_6 : decode (rs_cd 75) 6 = .ok (.iconst 0, 1) := by decide +kernel
theorem rs_d_75_7 : decode (rs_cd 75) 7 = .ok (.aload_n 0, 1) := by decide +kernel
theorem rs_d_75_8 : decode (rs_cd 75) 8 = .ok (.getfield 107, 3) := by decide +kernel
theorem rs_f_75_107 : rs_fd 75 107 = some (8, 13, 0) := by decide +kernel
theorem rs_d_75_11 : decode (rs_cd 75) 11 = .ok (.iconst 1, 1) := by decide +kernel
theorem rs_d_75_12 : decode (rs_cd 75) 12 = .ok (.isub, 1) := by decide +kernel
theorem rs_d_75_13 : decode (rs_cd 75) 13 = .ok (.invokestatic 89, 3) := by decide +kernel
theorem rs_t_75_89 : rs_tg 75 89 = some 62 := by decide +kernel
theorem rs_d_75_16 : decode (rs_cd 75) 16 = .ok (.ifCond .eq 15, 3) := by decide +kernel
theorem rs_d_75_19 : decode (rs_cd 75) 19 = .ok (.aload_n 0, 1) := by decide +kernel
theorem rs_d_75_20 : decode (rs_cd 75) 20 = .ok (.getfield 110, 3) := by decide +kernel
theorem rs_f_75_110 : rs_fd 75 110 = some (8, 17, 0) := by decide +kernel
theorem rs_d_75_23 : decode (rs_cd 75) 23 = .ok (.iload_n 1, 1) := by decide +kernel
theorem rs_d_75_24 : decode (rs_cd 75) 24 = .ok (.invokestatic 113, 3) := by decide +kernel
theorem rs_t_75_113 : rs_tg 75 113 = some 74 := by decide +kernel
theorem rs_d_75_27 : decode (rs_cd 75) 27 = .ok (.iload_n 2, 1) := by decide +kernel
theorem rs_d_75_28 : decode (rs_cd 75) 28 = .ok (.if_icmp .ne 5, 3) := by decide +kernel
theorem rs_d_75_31 : decode (rs_cd 75) 31 = .ok (.iconst 0, 1) := by decide +kernel
theorem rs_d_75_32 : decode (rs_cd 75) 32 = .ok (.ireturn, 1) := by decide +kernel
theorem rs_d_75_33 : decode (rs_cd 75) 33 = .ok (.aload_n 0, 1) := by decide +kernel
theorem rs_d_75_34 : decode (rs_cd 75) 34 = .ok (.aload_n 0, 1) := by decide +kernel
theorem rs_d_75_35 : decode (rs_cd 75) 35 = .ok (.getfield 110, 3) := by decide +kernel
theorem rs_d_75_38 : decode (rs_cd 75) 38 = .ok (.iconst 1, 1) := by decide +kernel
theorem rs_d_75_39 : decode (rs_cd 75) 39 = .ok (.iload_n 1, 1) := by decide +kernel
theorem rs_d_75_40 : decode (rs_cd 75) 40 = .ok (.ishl, 1) := by decide +kernel
theorem rs_d_75_41 : decode (rs_cd 75) 41 = .ok (.ixor, 1) := by decide +kernel
theorem rs_d_75_42 : decode (rs_cd 75) 42 = .ok (.putfield 110, 3) := by decide +kernel
theorem rs_d_75_45 : decode (rs_cd 75) 45 = .ok (.iconst 1, 1) := by decide +kernel
theorem rs_d_75_46 : decode (rs_cd 75) 46 = .ok (.ireturn, 1) := by decide +kernel
theorem rs_d_76_0 : decode (rs_cd 76) 0 = .ok (.bipush 10, 2) := by decide +kernel
theorem rs_d_76_2 : decode (rs_cd 76) 2 = .ok (.iload_n 1, 1) := by decide +kernel
theorem rs_d_76_3 : decode (rs_cd 76) 3 = .ok (.imul, 1) := by decide +kernel
theorem rs_d_76_4 : decode (rs_cd 76) 4 = .ok (.iload_n 2, 1) := by decide +kernel
theorem rs_d_76_5 : decode (rs_cd 76) 5 = .ok (.iadd, 1) := by decide +kernel
theorem rs_d_76_6 : decode (rs_cd 76) 6 = .ok (.istore 5, 2) := by decide +kernel
theorem rs_d_76_8 : decode (rs_cd 76) 8 = .ok (.aload_n 0, 1) := by decide +kernel
theorem rs_d_76_9 : decode (rs_cd 76) 9 = .ok (.aload_n 0, 1) := by decide +kernel
theorem rs_d_76_10 : decode (rs_cd 76) 10 = .ok (.getfield 116, 3) := by decide +kernel
theorem rs_f_76_116 : rs_fd 76 116 = some (8, 20, 1) := by decide +kernel
theorem rs_d_76_13 : decode (rs_cd 76) 13 = .ok (.ifCond .ne 26, 3) := by decide +kernel
theorem rs_d_76_16 : decode (rs_cd 76) 16 = .ok (.iload_n 3, 1) := by decide +kernel
theorem rs_d_76_17 : decode (rs_cd 76) 17 = .ok (.aload_n 0, 1) := by decide +kernel
theorem rs_d_76_18 : decode (rs_cd 76) 18 = .ok (.getfield 50, 3) := by decide +kernel
theorem rs_f_76_50 : rs_fd 76 50 = some (8, 18, 2) := by decide +kernel
theorem rs_d_76_21 : decode (rs_cd 76) 21 = .ok (.iload 5, 2) := by decide +kernel
theorem rs_d_76_23 : decode (rs_cd 76) 23 = .ok (.iaload, 1) := by decide +kernel
theorem rs_d_76_24 : decode (rs_cd 76) 24 = .ok (.if_icmp .gt 15, 3) := by decide +kernel
theorem rs_d_76_27 : decode (rs_cd 76) 27 = .ok (.iload 4, 2) := by decide +kernel
theorem rs_d_76_29 : decode (rs_cd 76) 29 = .ok (.aload_n 0, 1) := by decide +kernel
theorem rs_d_76_30 : decode (rs_cd 76) 30 = .ok (.getfield 53, 3) := by decide +kernel
theorem rs_f_76_53 : rs_fd 76 53 = some (8, 19, 2) := by decide +kernel
theorem rs_d_76_33 : decode (rs_cd 76) 33 = .ok (.iload 5, 2) := by decide +kernel
theorem rs_d_76_35 : decode (rs_cd 76) 35 = .ok (.iaload, 1) := by decide +kernel
theorem rs_d_76_36 : decode (rs_cd 76) 36 = .ok (.if_icmp .ge 7, 3) := by decide +kernel
theorem rs_d_76_39 : decode (rs_cd 76) 39 = .ok (.iconst 1, 1) := by decide +kernel
theorem rs_d_76_40 : decode (rs_cd 76) 40 = .ok (.goto 4, 3) := by decide +kernel
theorem rs_d_76_43 : decode (rs_cd 76) 43 = .ok (.iconst 0, 1) := by decide +kernel
theorem rs_d_76_44 : decode (rs_cd 76) 44 = .ok (.putfield 116, 3) := by decide +kernel
theorem rs_d_76_47 : decode (rs_cd 76) 47 = .ok (.aload_n 0, 1) := by decide +kernel
theorem rs_d_76_48 : decode (rs_cd 76) 48 = .ok (.getfield 50, 3) := by decide +kernel
theorem rs_d_76_51 : decode (rs_cd 76) 51 = .ok (.iload 5, 2) := by decide +kernel
theorem rs_d_76_53 : decode (rs_cd 76) 53 = .ok (.aload_n 0, 1) := by decide +kernel
theorem rs_d_76_54 : decode (rs_cd 76) 54 = .ok (.getfield 50, 3) := by decide +kernel
theorem rs_d_76_57 : decode (rs_cd 76) 57 = .ok (.iload 5, 2) := by decide +kernel
theorem rs_d_76_59 : decode (rs_cd 76) 59 = .ok (.iaload, 1) := by decide +kernel
theorem rs_d_76_60 : decode (rs_cd 76) 60 = .ok (.iload_n 3, 1) := by decide +kernel
theorem rs_d_76_61 : decode (rs_cd 76) 61 = .ok (.invokestatic 120, 3) := by decide +kernel
theorem rs_t_76_120 : rs_tg 76 120 = some 64 := by decide +kernel
theorem rs_d_76_64 : decode (rs_cd 76) 64 = .ok (.iastore, 1) := by decide +kernel
theorem rs_d_76_65 : decode (rs_cd 76) 65 = .ok (.aload_n 0, 1) := by decide +kernel
theorem rs_d_76_66 : decode (rs_cd 76) 66 = .ok (.getfield 53, 3) := by decide +kernel
theorem rs_d_76_69 : decode (rs_cd 76) 69 = .ok (.iload 5, 2) := by decide +kernel
theorem rs_d_76_71 : decode (rs_cd 76) 71 = .ok (.aload_n 0, 1) := by decide +kernel
theorem rs_d_76_72 : decode (rs_cd 76) 72 = .ok (.getfield 53, 3) := by decide +kernel
theorem rs_d_76_75 : decode (rs_cd 76) 75 = .ok (.iload 5, 2) := by decide +kernel
theorem rs_d_76_77 : decode (rs_cd 76) 77 = .ok (.iaload, 1) := by decide +kernel
theorem rs_d_76_78 : decode (rs_cd 76) 78 = .ok (.iload 4, 2) := by decide +kernel
theorem rs_d_76_80 : decode (rs_cd 76) 80 = .ok (.invokestatic 124, 3) := by decide +kernel
theorem rs_t_76_124 : rs_tg 76 124 = some 63 := by decide +kernel
theorem rs_d_76_83 : decode (rs_cd 76) 83 = .ok (.iastore, 1) := by decide +kernel
theorem rs_d_76_84 : decode (rs_cd 76) 84 = .ok (.aload_n 0, 1) := by decide +kernel
theorem rs_d_76_85 : decode (rs_cd 76) 85 = .ok (.getfield 50, 3) := by decide +kernel
theorem rs_d_76_88 : decode (rs_cd 76) 88 = .ok (.iload 5, 2) := by decide +kernel
theorem rs_d_76_90 : decode (rs_cd 76) 90 = .ok (.iaload, 1) := by decide +kernel
theorem rs_d_76_91 : decode (rs_cd 76) 91 = .ok (.aload_n 0, 1) := by decide +kernel
theorem rs_d_76_92 : decode (rs_cd 76) 92 = .ok (.getfield 53, 3) := by decide +kernel
theorem rs_d_76_95 : decode (rs_cd 76) 95 = .ok (.iload 5, 2) := by decide +kernel
theorem rs_d_76_97 : decode (rs_cd 76) 97 = .ok (.iaload, 1) := by decide +kernel
theorem rs_d_76_98 : decode (rs_cd 76) 98 = .ok (.if_icmp .gt 7, 3) := by decide +kernel
theorem rs_d_76_101 : decode (rs_cd 76) 101 = .ok (.iconst 1, 1) := by decide +kernel
theorem rs_d_76_102 : decode (rs_cd 76) 102 = .ok (.goto 4, 3) := by decide +kernel
theorem rs_d_76_105 : decode (rs_cd 76) 105 = .ok (.iconst 0, 1) := by decide +kernel
theorem rs_d_76_106 : decode (rs_cd 76) 106 = .ok (.ireturn, 1) := by decide +kernel
theorem rs_d_77_0 : decode (rs_cd 77) 0 = .ok (.iload_n 0, 1) := by decide +kernel
theorem rs_d_77_1 : decode (rs_cd 77) 1 = .ok (.iload_n 1, 1) := by decide +kernel
theorem rs_d_77_2 : decode (rs_cd 77) 2 = .ok (.idiv, 1) := by decide +kernel
theorem rs_d_77_3 : decode (rs_cd 77) 3 = .ok (.istore_n 2, 1) := by decide +kernel
theorem rs_d_77_4 : decode (rs_cd 77) 4 = .ok (.iload_n 0, 1) := by decide +kernel
theorem rs_d_77_5 : decode (rs_cd 77) 5 = .ok (.iload_n 1, 1) := by decide +kernel
theorem rs_d_77_6 : decode (rs_cd 77) 6 = .ok (.irem, 1) := by decide +kernel
theorem rs_d_77_7 : decode (rs_cd 77) 7 = .ok (.ifCond .eq 30, 3) := by decide +kernel
theorem rs_d_77_10 : decode (rs_cd 77) 10 = .ok (.iload_n 0, 1) := by decide +kernel
theorem rs_d_77_11 : decode (rs_cd 77) 11 = .ok (.ifCond .ge 7, 3) := by decide +kernel
theorem rs_d_77_14 : decode (rs_cd 77) 14 = .ok (.iconst 1, 1) := by decide +kernel
theorem rs_d_77_15 : decode (rs_cd 77) 15 = .ok (.goto 4, 3) := by decide +kernel
theorem rs_d_77_18 : decode (rs_cd 77) 18 = .ok (.iconst 0, 1) := by decide +kernel
theorem rs_d_77_19 : decode (rs_cd 77) 19 = .ok (.iload_n 1, 1) := by decide +kernel
theorem rs_d_77_20 : decode (rs_cd 77) 20 = .ok (.ifCond .ge 7, 3) := by decide +kernel
theorem rs_d_77_23 : decode (rs_cd 77) 23 = .ok (.iconst 1, 1) := by decide +kernel
theorem rs_d_77_24 : decode (rs_cd 77) 24 = .ok (.goto 4, 3) := by decide +kernel
theorem rs_d_77_27 : decode (rs_cd 77) 27 = .ok (.iconst 0, 1) := by decide +kernel
theorem rs_d_77_28 : decode (rs_cd 77) 28 = .ok (.if_icmp .eq 9, 3) := by decide +kernel
theorem rs_d_77_31 : decode (rs_cd 77) 31 = .ok (.iload_n 2, 1) := by decide +kernel
theorem rs_d_77_32 : decode (rs_cd 77) 32 = .ok (.iconst 1, 1) := by decide +kernel
theorem rs_d_77_33 : decode (rs_cd 77) 33 = .ok (.isub, 1) := by decide +kernel
theorem rs_d_77_34 : decode (rs_cd 77) 34 = .ok (.goto 4, 3) := by decide +kernel
theorem rs_d_77_37 : decode (rs_cd 77) 37 = .ok (.iload_n 2, 1) := by decide +kernel
theorem rs_d_77_38 : decode (rs_cd 77) 38 = .ok (.ireturn, 1) := by decide +kernel
theorem rs_d_78_0 : decode (rs_cd 78) 0 = .ok (.aload_n 0, 1) := by decide +kernel
theorem rs_d_78_1 : decode (rs_cd 78) 1 = .ok (.sipush 400, 3) := by decide +kernel
theorem rs_d_78_4 : decode (rs_cd 78) 4 = .ok (.putfield 127, 3) := by decide +kernel
theorem rs_f_78_127 : rs_fd 78 127 = some (8, 21, 0) := by decide +kernel
theorem rs_d_78_7 : decode (rs_cd 78) 7 = .ok (.aload_n 0, 1) := by decide +kernel
theorem rs_d_78_8 : decode (rs_cd 78) 8 = .ok (.sipush 400, 3) := by decide +kernel
theorem rs_d_78_11 : decode (rs_cd 78) 11 = .ok (.putfield 130, 3) := by decide +kernel
theorem rs_f_78_130 : rs_fd 78 130 = some (8, 23, 0) := by decide +kernel
theorem rs_d_78_14 : decode (rs_cd 78) 14 = .ok (.aload_n 0, 1) := by decide +kernel
theorem rs_d_78_15 : decode (rs_cd 78) 15 = .ok (.sipush 400, 3) := by decide +kernel
theorem rs_d_78_18 : decode (rs_cd 78) 18 = .ok (.putfield 133, 3) := by decide +kernel
theorem rs_f_78_133 : rs_fd 78 133 = some (8, 25, 0) := by decide +kernel
theorem rs_d_78_21 : decode (rs_cd 78) 21 = .ok (.aload_n 0, 1) := by decide +kernel
theorem rs_d_78_22 : decode (rs_cd 78) 22 = .ok (.sipush (-400), 3) := by decide +kernel
theorem rs_d_78_25 : decode (rs_cd 78) 25 = .ok (.putfield 136, 3) := by decide +kernel
theorem rs_f_78_136 : rs_fd 78 136 = some (8, 22, 0) := by decide +kernel
theorem rs_d_78_28 : decode (rs_cd 78) 28 = .ok (.aload_n 0, 1) := by decide +kernel
theorem rs_d_78_29 : decode (rs_cd 78) 29 = .ok (.sipush (-400), 3) := by decide +kernel
theorem rs_d_78_32 : decode (rs_cd 78) 32 = .ok (.putfield 139, 3) := by decide +kernel
theorem rs_f_78_139 : rs_fd 78 139 = some (8, 24, 0) := by decide +kernel
theorem rs_d_78_35 : decode (rs_cd 78) 35 = .ok (.aload_n 0, 1) := by decide +kernel
theorem rs_d_78_36 : decode (rs_cd 78) 36 = .ok (.sipush (-400), 3) := by decide +kernel
theorem rs_d_78_39 : decode (rs_cd 78) 39 = .ok (.putfield 142, 3) := by decide +kernel
theorem rs_f_78_142 : rs_fd 78 142 = some (8, 26, 0) := by decide +kernel
theorem rs_d_78_42 : decode (rs_cd 78) 42 = .ok (.return_, 1) := by decide +kernel
theorem rs_d_79_0 : decode (rs_cd 79) 0 = .ok (.iload_n 3, 1) := by decide +kernel
theorem rs_d_79_1 : decode (rs_cd 79) 1 = .ok (.iload 4, 2) := by decide +kernel
theorem rs_d_79_3 : decode (rs_cd 79) 3 = .ok (.if_icmp .gt 76, 3) := by decide +kernel
theorem rs_d_79_6 : decode (rs_cd 79) 6 = .ok (.aload_n 0, 1) := by decide +kernel
theorem rs_d_79_7 : decode (rs_cd 79) 7 = .ok (.aload_n 0, 1) := by decide +kernel
theorem rs_d_79_8 : decode (rs_cd 79) 8 = .ok (.getfield 127, 3) := by decide +kernel
theorem rs_f_79_127 : rs_fd 79 127 = some (8, 21, 0) := by decide +kernel
theorem rs_d_79_11 : decode (rs_cd 79) 11 = .ok (.iload_n 1, 1) := by decide +kernel
theorem rs_d_79_12 : decode (rs_cd 79) 12 = .ok (.invokestatic 124, 3) := by decide +kernel
theorem rs_t_79_124 : rs_tg 79 124 = some 63 := by decide +kernel
theorem rs_d_79_15 : decode (rs_cd 79) 15 = .ok (.putfield 127, 3) := by decide +kernel
theorem rs_d_79_18 : decode (rs_cd 79) 18 = .ok (.aload_n 0, 1) := by decide +kernel
theorem rs_d_79_19 : decode (rs_cd 79) 19 = .ok (.aload_n 0, 1) := by decide +kernel
theorem rs_d_79_20 : decode (rs_cd 79) 20 = .ok (.getfield 136, 3) := by decide +kernel
theorem rs_f_79_136 : rs_fd 79 136 = some (8, 22, 0) := by decide +kernel
theorem rs_d_79_23 : decode (rs_cd 79) 23 = .ok (.iload_n 1, 1) := by decide +kernel
theorem rs_d_79_24 : decode (rs_cd 79) 24 = .ok (.invokestatic 120, 3) := by decide +kernel
theorem rs_t_79_120 : rs_tg 79 120 = some 64 := by decide +kernel
theorem rs_d_79_27 : decode (rs_cd 79) 27 = .ok (.putfield 136, 3) := by decide +kernel
theorem rs_d_79_30 : decode (rs_cd 79) 30 = .ok (.aload_n 0, 1) := by decide +kernel
theorem rs_d_79_31 : decode (rs_cd 79) 31 = .ok (.aload_n 0, 1) := by decide +kernel
theorem rs_d_79_32 : decode (rs_cd 79) 32 = .ok (.getfield 130, 3) := by decide +kernel
theorem rs_f_79_130 : rs_fd 79 130 = some (8, 23, 0) := by decide +kernel
theorem rs_d_79_35 : decode (rs_cd 79) 35 = .ok (.iload_n 2, 1) := by decide +kernel
theorem rs_d_79_36 : decode (rs_cd 79) 36 = .ok (.invokestatic 124, 3) := by decide +kernel
theorem rs_d_79_39 : decode (rs_cd 79) 39 = .ok (.putfield 130, 3) := by decide +kernel
theorem rs_d_79_42 : decode (rs_cd 79) 42 = .ok (.aload_n 0, 1) := by decide +kernel
theorem rs_d_79_43 : decode (rs_cd 79) 43 = .ok (.aload_n 0, 1) := by decide +kernel
theorem rs_d_79_44 : decode (rs_cd 79) 44 = .ok (.getfield 139, 3) := by decide +kernel
theorem rs_f_79_139 : rs_fd 79 139 = some (8, 24, 0) := by decide +kernel
theorem rs_d_79_47 : decode (rs_cd 79) 47 = .ok (.iload_n 2, 1) := by decide +kernel
theorem rs_d_79_48 : decode (rs_cd 79) 48 = .ok (.invokestatic 120, 3) := by decide +kernel
theorem rs_d_79_51 : decode (rs_cd 79) 51 = .ok (.putfield 139, 3) := by decide +kernel
theorem rs_d_79_54 : decode (rs_cd 79) 54 = .ok (.aload_n 0, 1) := by decide +kernel
theorem rs_d_79_55 : decode (rs_cd 79) 55 = .ok (.aload_n 0, 1) := by decide +kernel
theorem rs_d_79_56 : decode (rs_cd 79) 56 = .ok (.getfield 133, 3) := by decide +kernel
theorem rs_f_79_133 : rs_fd 79 133 = some (8, 25, 0) := by decide +kernel
theorem rs_d_79_59 : decode (rs_cd 79) 59 = .ok (.iload_n 3, 1) := by decide +kernel
theorem rs_d_79_60 : decode (rs_cd 79) 60 = .ok (.invokestatic 124, 3) := by decide +kernel
theorem rs_d_79_63 : decode (rs_cd 79) 63 = .ok (.putfield 133, 3) := by decide +kernel
theorem rs_d_79_66 : decode (rs_cd 79) 66 = .ok (.aload_n 0, 1) := by decide +kernel
theorem rs_d_79_67 : decode (rs_cd 79) 67 = .ok (.aload_n 0, 1) := by decide +kernel
theorem rs_d_79_68 : decode (rs_cd 79) 68 = .ok (.getfield 142, 3) := by decide +kernel
theorem rs_f_79_142 : rs_fd 79 142 = some (8, 26, 0) := by decide +kernel
theorem rs_d_79_71 : decode (rs_cd 79) 71 = .ok (.iload 4, 2) := by decide +kernel
theorem rs_d_79_73 : decode (rs_cd 79) 73 = .ok (.invokestatic 120, 3) := by decide +kernel
theorem rs_d_79_76 : decode (rs_cd 79) 76 = .ok (.putfield 142, 3) := by decide +kernel
theorem rs_d_79_79 : decode (rs_cd 79) 79 = .ok (.return_, 1) := by decide +kernel
theorem rs_d_80_0 : decode (rs_cd 80) 0 = .ok (.iload_n 0, 1) := by decide +kernel
theorem rs_d_80_1 : decode (rs_cd 80) 1 = .ok (.tableswitch 70 0 4 #[35, 39, 43, 58, 64], 35) := by decide +kernel
theorem rs_d_80_36 : decode (rs_cd 80) 36 = .ok (.iload_n 1, 1) := by decide +kernel
theorem rs_d_80_37 : decode (rs_cd 80) 37 = .ok (.iload_n 2, 1) := by decide +kernel
theorem rs_d_80_38 : decode (rs_cd 80) 38 = .ok (.iadd, 1) := by decide +kernel
theorem rs_d_80_39 : decode (rs_cd 80) 39 = .ok (.ireturn, 1) := by decide +kernel
theorem rs_d_80_40 : decode (rs_cd 80) 40 = .ok (.iload_n 1, 1) := by decide +kernel
theorem rs_d_80_41 : decode (rs_cd 80) 41 = .ok (.iload_n 2, 1) := by decide +kernel
theorem rs_d_80_42 : decode (rs_cd 80) 42 = .ok (.imul, 1) := by decide +kernel
theorem rs_d_80_43 : decode (rs_cd 80) 43 = .ok (.ireturn, 1) := by decide +kernel
theorem rs_d_80_44 : decode (rs_cd 80) 44 = .ok (.iload_n 2, 1) := by decide +kernel
theorem rs_d_80_45 : decode (rs_cd 80) 45 = .ok (.ifCond .ne 8, 3) := by decide +kernel
theorem rs_d_80_48 : decode (rs_cd 80) 48 = .ok (.ldc 145, 2) := by decide +kernel
theorem rs_c_80_145 : rs_cst 80 145 = some 40000 := by decide +kernel
theorem rs_d_80_50 : decode (rs_cd 80) 50 = .ok (.goto 8, 3) := by decide +kernel
theorem rs_d_80_53 : decode (rs_cd 80) 53 = .ok (.iload_n 1, 1) := by decide +kernel
theorem rs_d_80_54 : decode (rs_cd 80) 54 = .ok (.iload_n 2, 1) := by decide +kernel
theorem rs_d_80_55 : decode (rs_cd 80) 55 = .ok (.invokestatic 146, 3) := by decide +kernel
theorem rs_t_80_146 : rs_tg 80 146 = some 77 := by decide +kernel
theorem rs_d_80_58 : decode (rs_cd 80) 58 = .ok (.ireturn, 1) := by decide +kernel
theorem rs_d_80_59 : decode (rs_cd 80) 59 = .ok (.iload_n 1, 1) := by decide +kernel
theorem rs_d_80_60 : decode (rs_cd 80) 60 = .ok (.iload_n 2, 1) := by decide +kernel
theorem rs_d_80_61 : decode (rs_cd 80) 61 = .ok (.invokestatic 124, 3) := by decide +kernel
theorem rs_t_80_124 : rs_tg 80 124 = some 63 := by decide +kernel
theorem rs_d_80_64 : decode (rs_cd 80) 64 = .ok (.ireturn, 1) := by decide +kernel
theorem rs_d_80_65 : decode (rs_cd 80) 65 = .ok (.iload_n 1, 1) := by decide +kernel
theorem rs_d_80_66 : decode (rs_cd 80) 66 = .ok (.iload_n 2, 1) := by decide +kernel
theorem rs_d_80_67 : decode (rs_cd 80) 67 = .ok (.invokestatic 120, 3) := by decide +kernel
theorem rs_t_80_120 : rs_tg 80 120 = some 64 := by decide +kernel
theorem rs_d_80_70 : decode (rs_cd 80) 70 = .ok (.ireturn, 1) := by decide +kernel
theorem rs_d_80_71 : decode (rs_cd 80) 71 = .ok (.iload_n 1, 1) := by decide +kernel
theorem rs_d_80_72 : decode (rs_cd 80) 72 = .ok (.iconst 1, 1) := by decide +kernel
theorem rs_d_80_73 : decode (rs_cd 80) 73 = .ok (.if_icmp .ge 9, 3) := by decide +kernel
theorem rs_d_80_76 : decode (rs_cd 80) 76 = .ok (.sipush (-400), 3) := by decide +kernel
theorem rs_d_80_79 : decode (rs_cd 80) 79 = .ok (.goto 4, 3) := by decide +kernel
theorem rs_d_80_82 : decode (rs_cd 80) 82 = .ok (.iload_n 2, 1) := by decide +kernel
theorem rs_d_80_83 : decode (rs_cd 80) 83 = .ok (.ireturn, 1) := by decide +kernel
theorem rs_d_81_0 : decode (rs_cd 81) 0 = .ok (.aload_n 0, 1) := by decide +kernel
theorem rs_d_81_1 : decode (rs_cd 81) 1 = .ok (.getfield 19, 3) := by decide +kernel
theorem rs_f_81_19 : rs_fd 81 19 = some (8, 6, 2) := by decide +kernel
theorem rs_d_81_4 : decode (rs_cd 81) 4 = .ok (.iload_n 1, 1) := by decide +kernel
theorem rs_d_81_5 : decode (rs_cd 81) 5 = .ok (.iaload, 1) := by decide +kernel
theorem rs_d_81_6 : decode (rs_cd 81) 6 = .ok (.istore_n 3, 1) := by decide +kernel
theorem rs_d_81_7 : decode (rs_cd 81) 7 = .ok (.aload_n 0, 1) := by decide +kernel
theorem rs_d_81_8 : decode (rs_cd 81) 8 = .ok (.getfield 22, 3) := by decide +kernel
theorem rs_f_81_22 : rs_fd 81 22 = some (8, 7, 2) := by decide +kernel
theorem rs_d_81_11 : decode (rs_cd 81) 11 = .ok (.iload_n 1, 1) := by decide +kernel
theorem rs_d_81_12 : decode (rs_cd 81) 12 = .ok (.iaload, 1) := by decide +kernel
theorem rs_d_81_13 : decode (rs_cd 81) 13 = .ok (.istore 4, 2) := by decide +kernel
theorem rs_d_81_15 : decode (rs_cd 81) 15 = .ok (.aload_n 0, 1) := by decide +kernel
theorem rs_d_81_16 : decode (rs_cd 81) 16 = .ok (.getfield 25, 3) := by decide +kernel
theorem rs_f_81_25 : rs_fd 81 25 = some (8, 8, 2) := by decide +kernel
theorem rs_d_81_19 : decode (rs_cd 81) 19 = .ok (.iload_n 1, 1) := by decide +kernel
theorem rs_d_81_20 : decode (rs_cd 81) 20 = .ok (.iaload, 1) := by decide +kernel
theorem rs_d_81_21 : decode (rs_cd 81) 21 = .ok (.istore 5, 2) := by decide +kernel
theorem rs_d_81_23 : decode (rs_cd 81) 23 = .ok (.aload_n 0, 1) := by decide +kernel
theorem rs_d_81_24 : decode (rs_cd 81) 24 = .ok (.invokevirtual 149, 3) := by decide +kernel
theorem rs_t_81_149 : rs_tg 81 149 = some 78 := by decide +kernel
theorem rs_d_81_27 : decode (rs_cd 81) 27 = .ok (.aload_n 0, 1) := by decide +kernel
theorem rs_d_81_28 : decode (rs_cd 81) 28 = .ok (.getfield 50, 3) := by decide +kernel
theorem rs_f_81_50 : rs_fd 81 50 = some (8, 18, 2) := by decide +kernel
theorem rs_d_81_31 : decode (rs_cd 81) 31 = .ok (.bipush 10, 2) := by decide +kernel
theorem rs_d_81_33 : decode (rs_cd 81) 33 = .ok (.iload_n 2, 1) := by decide +kernel
theorem rs_d_81_34 : decode (rs_cd 81) 34 = .ok (.imul, 1) := by decide +kernel
theorem rs_d_81_35 : decode (rs_cd 81) 35 = .ok (.iload_n 3, 1) := by decide +kernel
theorem rs_d_81_36 : decode (rs_cd 81) 36 = .ok (.iadd, 1) := by decide +kernel
theorem rs_d_81_37 : decode (rs_cd 81) 37 = .ok (.iaload, 1) := by decide +kernel
theorem rs_d_81_38 : decode (rs_cd 81) 38 = .ok (.istore 6, 2) := by decide +kernel
theorem rs_d_81_40 : decode (rs_cd 81) 40 = .ok (.iload 6, 2) := by decide +kernel
theorem rs_d_81_42 : decode (rs_cd 81) 42 = .ok (.aload_n 0, 1) := by decide +kernel
theorem rs_d_81_43 : decode (rs_cd 81) 43 = .ok (.getfield 53, 3) := by decide +kernel
theorem rs_f_81_53 : rs_fd 81 53 = some (8, 19, 2) := by decide +kernel
theorem rs_d_81_46 : decode (rs_cd 81) 46 = .ok (.bipush 10, 2) := by decide +kernel
theorem rs_d_81_48 : decode (rs_cd 81) 48 = .ok (.iload_n 2, 1) := by decide +kernel
theorem rs_d_81_49 : decode (rs_cd 81) 49 = .ok (.imul, 1) := by decide +kernel
theorem rs_d_81_50 : decode (rs_cd 81) 50 = .ok (.iload_n 3, 1) := by decide +kernel
theorem rs_d_81_51 : decode (rs_cd 81) 51 = .ok (.iadd, 1) := by decide +kernel
theorem rs_d_81_52 : decode (rs_cd 81) 52 = .ok (.iaload, 1) := by decide +kernel
theorem rs_d_81_53 : decode (rs_cd 81) 53 = .ok (.if_icmp .gt 208, 3) := by decide +kernel
theorem rs_d_81_56 : decode (rs_cd 81) 56 = .ok (.iload 4, 2) := by decide +kernel
theorem rs_d_81_58 : decode (rs_cd 81) 58 = .ok (.iload_n 3, 1) := by decide +kernel
theorem rs_d_81_59 : decode (rs_cd 81) 59 = .ok (.if_icmp .ne 8, 3) := by decide +kernel
theorem rs_d_81_62 : decode (rs_cd 81) 62 = .ok (.iload 6, 2) := by decide +kernel
theorem rs_d_81_64 : decode (rs_cd 81) 64 = .ok (.goto 15, 3) := by decide +kernel
theorem rs_d_81_67 : decode (rs_cd 81) 67 = .ok (.aload_n 0, 1) := by decide +kernel
theorem rs_d_81_68 : decode (rs_cd 81) 68 = .ok (.getfield 50, 3) := by decide +kernel
theorem rs_d_81_71 : decode (rs_cd 81) 71 = .ok (.bipush 10, 2) := by decide +kernel
theorem rs_d_81_73 : decode (rs_cd 81) 73 = .ok (.iload_n 2, 1) := by decide +kernel
theorem rs_d_81_74 : decode (rs_cd 81) 74 = .ok (.imul, 1) := by decide +kernel
theorem rs_d_81_75 : decode (rs_cd 81) 75 = .ok (.iload 4, 2) := by decide +kernel
theorem rs_d_81_77 : decode (rs_cd 81) 77 = .ok (.iadd, 1) := by decide +kernel
theorem rs_d_81_78 : decode (rs_cd 81) 78 = .ok (.iaload, 1) := by decide +kernel
theorem rs_d_81_79 : decode (rs_cd 81) 79 = .ok (.istore 7, 2) := by decide +kernel
theorem rs_d_81_81 : decode (rs_cd 81) 81 = .ok (.iload 4, 2) := by decide +kernel
theorem rs_d_81_83 : decode (rs_cd 81) 83 = .ok (.iload_n 3, 1) := by decide +kernel
theorem rs_d_81_84 : decode (rs_cd 81) 84 = .ok (.if_icmp .ne 8, 3) := by decide +kernel
theorem rs_d_81_87 : decode (rs_cd 81) 87 = .ok (.iload 6, 2) := by decide +kernel
theorem rs_d_81_89 : decode (rs_cd 81) 89 = .ok (.goto 15, 3) := by decide +kernel
theorem rs_d_81_92 : decode (rs_cd 81) 92 = .ok (.aload_n 0, 1) := by decide +kernel
theorem rs_d_81_93 : decode (rs_cd 81) 93 = .ok (.getfield 53, 3) := by decide +kernel
theorem rs_d_81_96 : decode (rs_cd 81) 96 = .ok (.bipush 10, 2) := by decide +kernel
theorem rs_d_81_98 : decode (rs_cd 81) 98 = .ok (.iload_n 2, 1) := by decide +kernel
theorem rs_d_81_99 : decode (rs_cd 81) 99 = .ok (.imul, 1) := by decide +kernel
theorem rs_d_81_100 : decode (rs_cd 81) 100 = .ok (.iload 4, 2) := by decide +kernel
theorem rs_d_81_102 : decode (rs_cd 81) 102 = .ok (.iadd, 1) := by decide +kernel
theorem rs_d_81_103 : decode (rs_cd 81) 103 = .ok (.iaload, 1) := by decide +kernel
theorem rs_d_81_104 : decode (rs_cd 81) 104 = .ok (.istore 8, 2) := by decide +kernel
theorem rs_d_81_106 : decode (rs_cd 81) 106 = .ok (.iload 7, 2) := by decide +kernel
theorem rs_d_81_108 : decode (rs_cd 81) 108 = .ok (.istore 9, 2) := by decide +kernel
theorem rs_d_81_110 : decode (rs_cd 81) 110 = .ok (.iload 9, 2) := by decide +kernel
theorem rs_d_81_112 : decode (rs_cd 81) 112 = .ok (.iload 8, 2) := by decide +kernel
theorem rs_d_81_114 : decode (rs_cd 81) 114 = .ok (.if_icmp .gt 141, 3) := by decide +kernel
theorem rs_d_81_117 : decode (rs_cd 81) 117 = .ok (.aload_n 0, 1) := by decide +kernel
theorem rs_d_81_118 : decode (rs_cd 81) 118 = .ok (.getfield 16, 3) := by decide +kernel
theorem rs_f_81_16 : rs_fd 81 16 = some (8, 5, 2) := by decide +kernel
theorem rs_d_81_121 : decode (rs_cd 81) 121 = .ok (.iload_n 1, 1) := by decide +kernel
theorem rs_d_81_122 : decode (rs_cd 81) 122 = .ok (.iaload, 1) := by decide +kernel
theorem rs_d_81_123 : decode (rs_cd 81) 123 = .ok (.iload 6, 2) := by decide +kernel
theorem rs_d_81_125 : decode (rs_cd 81) 125 = .ok (.iload 9, 2) := by decide +kernel
theorem rs_d_81_127 : decode (rs_cd 81) 127 = .ok (.invokestatic 152, 3) := by decide +kernel
theorem rs_t_81_152 : rs_tg 81 152 = some 80 := by decide +kernel
theorem rs_d_81_130 : decode (rs_cd 81) 130 = .ok (.istore 10, 2) := by decide +kernel
theorem rs_d_81_132 : decode (rs_cd 81) 132 = .ok (.aload_n 0, 1) := by decide +kernel
theorem rs_d_81_133 : decode (rs_cd 81) 133 = .ok (.getfield 16, 3) := by decide +kernel
theorem rs_d_81_136 : decode (rs_cd 81) 136 = .ok (.iload_n 1, 1) := by decide +kernel
theorem rs_d_81_137 : decode (rs_cd 81) 137 = .ok (.iaload, 1) := by decide +kernel
theorem rs_d_81_138 : decode (rs_cd 81) 138 = .ok (.bipush 6, 2) := by decide +kernel
theorem rs_d_81_140 : decode (rs_cd 81) 140 = .ok (.if_icmp .ne 9, 3) := by decide +kernel
theorem rs_d_81_143 : decode (rs_cd 81) 143 = .ok (.sipush 400, 3) := by decide +kernel
theorem rs_d_81_146 : decode (rs_cd 81) 146 = .ok (.goto 5, 3) := by decide +kernel
theorem rs_d_81_149 : decode (rs_cd 81) 149 = .ok (.iload 10, 2) := by decide +kernel
theorem rs_d_81_151 : decode (rs_cd 81) 151 = .ok (.istore 11, 2) := by decide +kernel
theorem rs_d_81_153 : decode (rs_cd 81) 153 = .ok (.iload 5, 2) := by decide +kernel
theorem rs_d_81_155 : decode (rs_cd 81) 155 = .ok (.iload_n 3, 1) := by decide +kernel
theorem rs_d_81_156 : decode (rs_cd 81) 156 = .ok (.if_icmp .ne 8, 3) := by decide +kernel
theorem rs_d_81_159 : decode (rs_cd 81) 159 = .ok (.iload 6, 2) := by decide +kernel
theorem rs_d_81_161 : decode (rs_cd 81) 161 = .ok (.goto 27, 3) := by decide +kernel
theorem rs_d_81_164 : decode (rs_cd 81) 164 = .ok (.iload 5, 2) := by decide +kernel
theorem rs_d_81_166 : decode (rs_cd 81) 166 = .ok (.iload 4, 2) := by decide +kernel
theorem rs_d_81_168 : decode (rs_cd 81) 168 = .ok (.if_icmp .ne 8, 3) := by decide +kernel
theorem rs_d_81_171 : decode (rs_cd 81) 171 = .ok (.iload 9, 2) := by decide +kernel
theorem rs_d_81_173 : decode (rs_cd 81) 173 = .ok (.goto 15, 3) := by decide +kernel
theorem rs_d_81_176 : decode (rs_cd 81) 176 = .ok (.aload_n 0, 1) := by decide +kernel
theorem rs_d_81_177 : decode (rs_cd 81) 177 = .ok (.getfield 50, 3) := by decide +kernel
theorem rs_d_81_180 : decode (rs_cd 81) 180 = .ok (.bipush 10, 2) := by decide +kernel
theorem rs_d_81_182 : decode (rs_cd 81) 182 = .ok (.iload_n 2, 1) := by decide +kernel
theorem rs_d_81_183 : decode (rs_cd 81) 183 = .ok (.imul, 1) := by decide +kernel
theorem rs_d_81_184 : decode (rs_cd 81) 184 = .ok (.iload 5, 2) := by decide +kernel
theorem rs_d_81_186 : decode (rs_cd 81) 186 = .ok (.iadd, 1) := by decide +kernel
theorem rs_d_81_187 : decode (rs_cd 81) 187 = .ok (.iaload, 1) := by decide +kernel
theorem rs_d_81_188 : decode (rs_cd 81) 188 = .ok (.istore 12, 2) := by decide +kernel
theorem rs_d_81_190 : decode (rs_cd 81) 190 = .ok (.iload 5, 2) := by decide +kernel
theorem rs_d_81_192 : decode (rs_cd 81) 192 = .ok (.iload_n 3, 1) := by decide +kernel
theorem rs_d_81_193 : decode (rs_cd 81) 193 = .ok (.if_icmp .ne 8, 3) := by decide +kernel
theorem rs_d_81_196 : decode (rs_cd 81) 196 = .ok (.iload 6, 2) := by decide +kernel
theorem rs_d_81_198 : decode (rs_cd 81) 198 = .ok (.goto 27, 3) := by decide +kernel
theorem rs_d_81_201 : decode (rs_cd 81) 201 = .ok (.iload 5, 2) := by decide +kernel
theorem rs_d_81_203 : decode (rs_cd 81) 203 = .ok (.iload 4, 2) := by decide +kernel
theorem rs_d_81_205 : decode (rs_cd 81) 205 = .ok (.if_icmp .ne 8, 3) := by decide +kernel
theorem rs_d_81_208 : decode (rs_cd 81) 208 = .ok (.iload 9, 2) := by decide +kernel
theorem rs_d_81_210 : decode (rs_cd 81) 210 = .ok (.goto 15, 3) := by decide +kernel
theorem rs_d_81_213 : decode (rs_cd 81) 213 = .ok (.aload_n 0, 1) := by decide +kernel
theorem rs_d_81_214 : decode (rs_cd 81) 214 = .ok (.getfield 53, 3) := by decide +kernel
theorem rs_d_81_217 : decode (rs_cd 81) 217 = .ok (.bipush 10, 2) := by decide +kernel
theorem rs_d_81_219 : decode (rs_cd 81) 219 = .ok (.iload_n 2, 1) := by decide +kernel
theorem rs_d_81_220 : decode (rs_cd 81) 220 = .ok (.imul, 1) := by decide +kernel
theorem rs_d_81_221 : decode (rs_cd 81) 221 = .ok (.iload 5, 2) := by decide +kernel
theorem rs_d_81_223 : decode (rs_cd 81) 223 = .ok (.iadd, 1) := by decide +kernel
theorem rs_d_81_224 : decode (rs_cd 81) 224 = .ok (.iaload, 1) := by decide +kernel
theorem rs_d_81_225 : decode (rs_cd 81) 225 = .ok (.istore 13, 2) := by decide +kernel
theorem rs_d_81_227 : decode (rs_cd 81) 227 = .ok (.aload_n 0, 1) := by decide +kernel
theorem rs_d_81_228 : decode (rs_cd 81) 228 = .ok (.iload 6, 2) := by decide +kernel
theorem rs_d_81_230 : decode (rs_cd 81) 230 = .ok (.iload 9, 2) := by decide +kernel
theorem rs_d_81_232 : decode (rs_cd 81) 232 = .ok (.iload 10, 2) := by decide +kernel
theorem rs_d_81_234 : decode (rs_cd 81) 234 = .ok (.iload 12, 2) := by decide +kernel
theorem rs_d_81_236 : decode (rs_cd 81) 236 = .ok (.invokestatic 120, 3) := by decide +kernel
theorem rs_t_81_120 : rs_tg 81 120 = some 64 := by decide +kernel
theorem rs_d_81_239 : decode (rs_cd 81) 239 = .ok (.iload 11, 2) := by decide +kernel
theorem rs_d_81_241 : decode (rs_cd 81) 241 = .ok (.iload 13, 2) := by decide +kernel
theorem rs_d_81_243 : decode (rs_cd 81) 243 = .ok (.invokestatic 124, 3) := by decide +kernel
theorem rs_t_81_124 : rs_tg 81 124 = some 63 := by decide +kernel
theorem rs_d_81_246 : decode (rs_cd 81) 246 = .ok (.invokevirtual 156, 3) := by decide +kernel
theorem rs_t_81_156 : rs_tg 81 156 = some 79 := by decide +kernel
theorem rs_d_81_249 : decode (rs_cd 81) 249 = .ok (.iinc 9 1, 3) := by decide +kernel
theorem rs_d_81_252 : decode (rs_cd 81) 252 = .ok (.goto (-142), 3) := by decide +kernel
theorem rs_d_81_255 : decode (rs_cd 81) 255 = .ok (.iinc 6 1, 3) := by decide +kernel
theorem rs_d_81_258 : decode (rs_cd 81) 258 = .ok (.goto (-218), 3) := by decide +kernel
theorem rs_d_81_261 : decode (rs_cd 81) 261 = .ok (.aload_n 0, 1) := by decide +kernel
theorem rs_d_81_262 : decode (rs_cd 81) 262 = .ok (.iload_n 2, 1) := by decide +kernel
theorem rs_d_81_263 : decode (rs_cd 81) 263 = .ok (.iload_n 3, 1) := by decide +kernel
theorem rs_d_81_264 : decode (rs_cd 81) 264 = .ok (.aload_n 0, 1) := by decide +kernel
theorem rs_d_81_265 : decode (rs_cd 81) 265 = .ok (.getfield 127, 3) := by decide +kernel
theorem rs_f_81_127 : rs_fd 81 127 = some (8, 21, 0) := by decide +kernel
theorem rs_d_81_268 : decode (rs_cd 81) 268 = .ok (.aload_n 0, 1) := by decide +kernel
theorem rs_d_81_269 : decode (rs_cd 81) 269 = .ok (.getfield 136, 3) := by decide +kernel
theorem rs_f_81_136 : rs_fd 81 136 = some (8, 22, 0) := by decide +kernel
theorem rs_d_81_272 : decode (rs_cd 81) 272 = .ok (.invokevirtual 160, 3) := by decide +kernel
theorem rs_t_81_160 : rs_tg 81 160 = some 76 := by decide +kernel
theorem rs_d_81_275 : decode (rs_cd 81) 275 = .ok (.ifCond .eq 43, 3) := by decide +kernel
theorem rs_d_81_278 : decode (rs_cd 81) 278 = .ok (.aload_n 0, 1) := by decide +kernel
theorem rs_d_81_279 : decode (rs_cd 81) 279 = .ok (.iload_n 2, 1) := by decide +kernel
theorem rs_d_81_280 : decode (rs_cd 81) 280 = .ok (.iload 4, 2) := by decide +kernel
theorem rs_d_81_282 : decode (rs_cd 81) 282 = .ok (.aload_n 0, 1) := by decide +kernel
theorem rs_d_81_283 : decode (rs_cd 81) 283 = .ok (.getfield 130, 3) := by decide +kernel
theorem rs_f_81_130 : rs_fd 81 130 = some (8, 23, 0) := by decide +kernel
theorem rs_d_81_286 : decode (rs_cd 81) 286 = .ok (.aload_n 0, 1) := by decide +kernel
theorem rs_d_81_287 : decode (rs_cd 81) 287 = .ok (.getfield 139, 3) := by decide +kernel
theorem rs_f_81_139 : rs_fd 81 139 = some (8, 24, 0) := by decide +kernel
theorem rs_d_81_290 : decode (rs_cd 81) 290 = .ok (.invokevirtual 160, 3) := by decide +kernel
theorem rs_d_81_293 : decode (rs_cd 81) 293 = .ok (.ifCond .eq 25, 3) := by decide +kernel
theorem rs_d_81_296 : decode (rs_cd 81) 296 = .ok (.aload_n 0, 1) := by decide +kernel
theorem rs_d_81_297 : decode (rs_cd 81) 297 = .ok (.iload_n 2, 1) := by decide +kernel
theorem rs_d_81_298 : decode (rs_cd 81) 298 = .ok (.iload 5, 2) := by decide +kernel
theorem rs_d_81_300 : decode (rs_cd 81) 300 = .ok (.aload_n 0, 1) := by decide +kernel
theorem rs_d_81_301 : decode (rs_cd 81) 301 = .ok (.getfield 133, 3) := by decide +kernel
theorem rs_f_81_133 : rs_fd 81 133 = some (8, 25, 0) := by decide +kernel
theorem rs_d_81_304 : decode (rs_cd 81) 304 = .ok (.aload_n 0, 1) := by decide +kernel
theorem rs_d_81_305 : decode (rs_cd 81) 305 = .ok (.getfield 142, 3) := by decide +kernel
theorem rs_f_81_142 : rs_fd 81 142 = some (8, 26, 0) := by decide +kernel
theorem rs_d_81_308 : decode (rs_cd 81) 308 = .ok (.invokevirtual 160, 3) := by decide +kernel
theorem rs_d_81_311 : decode (rs_cd 81) 311 = .ok (.ifCond .eq 7, 3) := by decide +kernel
theorem rs_d_81_314 : decode (rs_cd 81) 314 = .ok (.iconst 1, 1) := by decide +kernel
theorem rs_d_81_315 : decode (rs_cd 81) 315 = .ok (.goto 4, 3) := by decide +kernel
theorem rs_d_81_318 : decode (rs_cd 81) 318 = .ok (.iconst 0, 1) := by decide +kernel
theorem rs_d_81_319 : decode (rs_cd 81) 319 = .ok (.ireturn, 1) := by decide +kernel
theorem rs_d_82_0 : decode (rs_cd 82) 0 = .ok (.bipush 10, 2) := by decide +kernel
theorem rs_d_82_2 : decode (rs_cd 82) 2 = .ok (.iload_n 1, 1) := by decide +kernel
theorem rs_d_82_3 : decode (rs_cd 82) 3 = .ok (.imul, 1) := by decide +kernel
theorem rs_d_82_4 : decode (rs_cd 82) 4 = .ok (.istore 5, 2) := by decide +kernel
theorem rs_d_82_6 : decode (rs_cd 82) 6 = .ok (.aload_n 0, 1) := by decide +kernel
theorem rs_d_82_7 : decode (rs_cd 82) 7 = .ok (.getfield 50, 3) := by decide +kernel
theorem rs_f_82_50 : rs_fd 82 50 = some (8, 18, 2) := by decide +kernel
theorem rs_d_82_10 : decode (rs_cd 82) 10 = .ok (.iload 5, 2) := by decide +kernel
theorem rs_d_82_12 : decode (rs_cd 82) 12 = .ok (.iload 4, 2) := by decide +kernel
theorem rs_d_82_14 : decode (rs_cd 82) 14 = .ok (.iadd, 1) := by decide +kernel
theorem rs_d_82_15 : decode (rs_cd 82) 15 = .ok (.iaload, 1) := by decide +kernel
theorem rs_d_82_16 : decode (rs_cd 82) 16 = .ok (.aload_n 0, 1) := by decide +kernel
theorem rs_d_82_17 : decode (rs_cd 82) 17 = .ok (.getfield 53, 3) := by decide +kernel
theorem rs_f_82_53 : rs_fd 82 53 = some (8, 19, 2) := by decide +kernel
theorem rs_d_82_20 : decode (rs_cd 82) 20 = .ok (.iload 5, 2) := by decide +kernel
theorem rs_d_82_22 : decode (rs_cd 82) 22 = .ok (.iload_n 3, 1) := by decide +kernel
theorem rs_d_82_23 : decode (rs_cd 82) 23 = .ok (.iadd, 1) := by decide +kernel
theorem rs_d_82_24 : decode (rs_cd 82) 24 = .ok (.iaload, 1) := by decide +kernel
theorem rs_d_82_25 : decode (rs_cd 82) 25 = .ok (.isub, 1) := by decide +kernel
theorem rs_d_82_26 : decode (rs_cd 82) 26 = .ok (.istore 6, 2) := by decide +kernel
theorem rs_d_82_28 : decode (rs_cd 82) 28 = .ok (.aload_n 0, 1) := by decide +kernel
theorem rs_d_82_29 : decode (rs_cd 82) 29 = .ok (.getfield 53, 3) := by decide +kernel
theorem rs_d_82_32 : decode (rs_cd 82) 32 = .ok (.iload 5, 2) := by decide +kernel
theorem rs_d_82_34 : decode (rs_cd 82) 34 = .ok (.iload 4, 2) := by decide +kernel
theorem rs_d_82_36 : decode (rs_cd 82) 36 = .ok (.iadd, 1) := by decide +kernel
theorem rs_d_82_37 : decode (rs_cd 82) 37 = .ok (.iaload, 1) := by decide +kernel
theorem rs_d_82_38 : decode (rs_cd 82) 38 = .ok (.aload_n 0, 1) := by decide +kernel
theorem rs_d_82_39 : decode (rs_cd 82) 39 = .ok (.getfield 50, 3) := by decide +kernel
theorem rs_d_82_42 : decode (rs_cd 82) 42 = .ok (.iload 5, 2) := by decide +kernel
theorem rs_d_82_44 : decode (rs_cd 82) 44 = .ok (.iload_n 3, 1) := by decide +kernel
theorem rs_d_82_45 : decode (rs_cd 82) 45 = .ok (.iadd, 1) := by decide +kernel
theorem rs_d_82_46 : decode (rs_cd 82) 46 = .ok (.iaload, 1) := by decide +kernel
theorem rs_d_82_47 : decode (rs_cd 82) 47 = .ok (.isub, 1) := by decide +kernel
theorem rs_d_82_48 : decode (rs_cd 82) 48 = .ok (.istore 7, 2) := by decide +kernel
theorem rs_d_82_50 : decode (rs_cd 82) 50 = .ok (.aload_n 0, 1) := by decide +kernel
theorem rs_d_82_51 : decode (rs_cd 82) 51 = .ok (.getfield 50, 3) := by decide +kernel
theorem rs_d_82_54 : decode (rs_cd 82) 54 = .ok (.iload 5, 2) := by decide +kernel
theorem rs_d_82_56 : decode (rs_cd 82) 56 = .ok (.iload 4, 2) := by decide +kernel
theorem rs_d_82_58 : decode (rs_cd 82) 58 = .ok (.iadd, 1) := by decide +kernel
theorem rs_d_82_59 : decode (rs_cd 82) 59 = .ok (.iaload, 1) := by decide +kernel
theorem rs_d_82_60 : decode (rs_cd 82) 60 = .ok (.aload_n 0, 1) := by decide +kernel
theorem rs_d_82_61 : decode (rs_cd 82) 61 = .ok (.getfield 53, 3) := by decide +kernel
theorem rs_d_82_64 : decode (rs_cd 82) 64 = .ok (.iload 5, 2) := by decide +kernel
theorem rs_d_82_66 : decode (rs_cd 82) 66 = .ok (.iload_n 2, 1) := by decide +kernel
theorem rs_d_82_67 : decode (rs_cd 82) 67 = .ok (.iadd, 1) := by decide +kernel
theorem rs_d_82_68 : decode (rs_cd 82) 68 = .ok (.iaload, 1) := by decide +kernel
theorem rs_d_82_69 : decode (rs_cd 82) 69 = .ok (.isub, 1) := by decide +kernel
theorem rs_d_82_70 : decode (rs_cd 82) 70 = .ok (.istore 8, 2) := by decide +kernel
theorem rs_d_82_72 : decode (rs_cd 82) 72 = .ok (.aload_n 0, 1) := by decide +kernel
theorem rs_d_82_73 : decode (rs_cd 82) 73 = .ok (.getfield 53, 3) := by decide +kernel
theorem rs_d_82_76 : decode (rs_cd 82) 76 = .ok (.iload 5, 2) := by decide +kernel
theorem rs_d_82_78 : decode (rs_cd 82) 78 = .ok (.iload 4, 2) := by decide +kernel
theorem rs_d_82_80 : decode (rs_cd 82) 80 = .ok (.iadd, 1) := by decide +kernel
theorem rs_d_82_81 : decode (rs_cd 82) 81 = .ok (.iaload, 1) := by decide +kernel
theorem rs_d_82_82 : decode (rs_cd 82) 82 = .ok (.aload_n 0, 1) := by decide +kernel
theorem rs_d_82_83 : decode (rs_cd 82) 83 = .ok (.getfield 50, 3) := by decide +kernel
theorem rs_d_82_86 : decode (rs_cd 82) 86 = .ok (.iload 5, 2) := by decide +kernel
theorem rs_d_82_88 : decode (rs_cd 82) 88 = .ok (.iload_n 2, 1) := by decide +kernel
theorem rs_d_82_89 : decode (rs_cd 82) 89 = .ok (.iadd, 1) := by decide +kernel
theorem rs_d_82_90 : decode (rs_cd 82) 90 = .ok (.iaload, 1) := by decide +kernel
theorem rs_d_82_91 : decode (rs_cd 82) 91 = .ok (.isub, 1) := by decide +kernel
theorem rs_d_82_92 : decode (rs_cd 82) 92 = .ok (.istore 9, 2) := by decide +kernel
theorem rs_d_82_94 : decode (rs_cd 82) 94 = .ok (.aload_n 0, 1) := by decide +kernel
theorem rs_d_82_95 : decode (rs_cd 82) 95 = .ok (.getfield 50, 3) := by decide +kernel
theorem rs_d_82_98 : decode (rs_cd 82) 98 = .ok (.iload 5, 2) := by decide +kernel
theorem rs_d_82_100 : decode (rs_cd 82) 100 = .ok (.iload_n 2, 1) := by decide +kernel
theorem rs_d_82_101 : decode (rs_cd 82) 101 = .ok (.iadd, 1) := by decide +kernel
theorem rs_d_82_102 : decode (rs_cd 82) 102 = .ok (.iaload, 1) := by decide +kernel
theorem rs_d_82_103 : decode (rs_cd 82) 103 = .ok (.aload_n 0, 1) := by decide +kernel
theorem rs_d_82_104 : decode (rs_cd 82) 104 = .ok (.getfield 50, 3) := by decide +kernel
theorem rs_d_82_107 : decode (rs_cd 82) 107 = .ok (.iload 5, 2) := by decide +kernel
theorem rs_d_82_109 : decode (rs_cd 82) 109 = .ok (.iload_n 3, 1) := by decide +kernel
theorem rs_d_82_110 : decode (rs_cd 82) 110 = .ok (.iadd, 1) := by decide +kernel
theorem rs_d_82_111 : decode (rs_cd 82) 111 = .ok (.iaload, 1) := by decide +kernel
theorem rs_d_82_112 : decode (rs_cd 82) 112 = .ok (.iadd, 1) := by decide +kernel
theorem rs_d_82_113 : decode (rs_cd 82) 113 = .ok (.istore 10, 2) := by decide +kernel
theorem rs_d_82_115 : decode (rs_cd 82) 115 = .ok (.aload_n 0, 1) := by decide +kernel
theorem rs_d_82_116 : decode (rs_cd 82) 116 = .ok (.getfield 53, 3) := by decide +kernel
theorem rs_d_82_119 : decode (rs_cd 82) 119 = .ok (.iload 5, 2) := by decide +kernel
theorem rs_d_82_121 : decode (rs_cd 82) 121 = .ok (.iload_n 2, 1) := by decide +kernel
theorem rs_d_82_122 : decode (rs_cd 82) 122 = .ok (.iadd, 1) := by decide +kernel
theorem rs_d_82_123 : decode (rs_cd 82) 123 = .ok (.iaload, 1) := by decide +kernel
theorem rs_d_82_124 : decode (rs_cd 82) 124 = .ok (.aload_n 0, 1) := by decide +kernel
theorem rs_d_82_125 : decode (rs_cd 82) 125 = .ok (.getfield 53, 3) := by decide +kernel
theorem rs_d_82_128 : decode (rs_cd 82) 128 = .ok (.iload 5, 2) := by decide +kernel
theorem rs_d_82_130 : decode (rs_cd 82) 130 = .ok (.iload_n 3, 1) := by decide +kernel
theorem rs_d_82_131 : decode (rs_cd 82) 131 = .ok (.iadd, 1) := by decide +kernel
theorem rs_d_82_132 : decode (rs_cd 82) 132 = .ok (.iaload, 1) := by decide +kernel
theorem rs_d_82_133 : decode (rs_cd 82) 133 = .ok (.iadd, 1) := by decide +kernel
theorem rs_d_82_134 : decode (rs_cd 82) 134 = .ok (.istore 11, 2) := by decide +kernel
theorem rs_d_82_136 : decode (rs_cd 82) 136 = .ok (.aload_n 0, 1) := by decide +kernel
theorem rs_d_82_137 : decode (rs_cd 82) 137 = .ok (.iload_n 1, 1) := by decide +kernel
theorem rs_d_82_138 : decode (rs_cd 82) 138 = .ok (.iload_n 2, 1) := by decide +kernel
theorem rs_d_82_139 : decode (rs_cd 82) 139 = .ok (.iload 6, 2) := by decide +kernel
theorem rs_d_82_141 : decode (rs_cd 82) 141 = .ok (.iload 7, 2) := by decide +kernel
theorem rs_d_82_143 : decode (rs_cd 82) 143 = .ok (.invokevirtual 160, 3) := by decide +kernel
theorem rs_t_82_160 : rs_tg 82 160 = some 76 := by decide +kernel
theorem rs_d_82_146 : decode (rs_cd 82) 146 = .ok (.ifCond .eq 34, 3) := by decide +kernel
theorem rs_d_82_149 : decode (rs_cd 82) 149 = .ok (.aload_n 0, 1) := by decide +kernel
theorem rs_d_82_150 : decode (rs_cd 82) 150 = .ok (.iload_n 1, 1) := by decide +kernel
theorem rs_d_82_151 : decode (rs_cd 82) 151 = .ok (.iload_n 3, 1) := by decide +kernel
theorem rs_d_82_152 : decode (rs_cd 82) 152 = .ok (.iload 8, 2) := by decide +kernel
theorem rs_d_82_154 : decode (rs_cd 82) 154 = .ok (.iload 9, 2) := by decide +kernel
theorem rs_d_82_156 : decode (rs_cd 82) 156 = .ok (.invokevirtual 160, 3) := by decide +kernel
theorem rs_d_82_159 : decode (rs_cd 82) 159 = .ok (.ifCond .eq 21, 3) := by decide +kernel
theorem rs_d_82_162 : decode (rs_cd 82) 162 = .ok (.aload_n 0, 1) := by decide +kernel
theorem rs_d_82_163 : decode (rs_cd 82) 163 = .ok (.iload_n 1, 1) := by decide +kernel
theorem rs_d_82_164 : decode (rs_cd 82) 164 = .ok (.iload 4, 2) := by decide +kernel
theorem rs_d_82_166 : decode (rs_cd 82) 166 = .ok (.iload 10, 2) := by decide +kernel
theorem rs_d_82_168 : decode (rs_cd 82) 168 = .ok (.iload 11, 2) := by decide +kernel
theorem rs_d_82_170 : decode (rs_cd 82) 170 = .ok (.invokevirtual 160, 3) := by decide +kernel
theorem rs_d_82_173 : decode (rs_cd 82) 173 = .ok (.ifCond .eq 7, 3) := by decide +kernel
theorem rs_d_82_176 : decode (rs_cd 82) 176 = .ok (.iconst 1, 1) := by decide +kernel
theorem rs_d_82_177 : decode (rs_cd 82) 177 = .ok (.goto 4, 3) := by decide +kernel
theorem rs_d_82_180 : decode (rs_cd 82) 180 = .ok (.iconst 0, 1) := by decide +kernel
theorem rs_d_82_181 : decode (rs_cd 82) 181 = .ok (.ireturn, 1) := by decide +kernel
theorem rs_d_83_0 : decode (rs_cd 83) 0 = .ok (.iload_n 0, 1) := by decide +kernel
theorem rs_d_83_1 : decode (rs_cd 83) 1 = .ok (.iload_n 3, 1) := by decide +kernel
theorem rs_d_83_2 : decode (rs_cd 83) 2 = .ok (.iload 4, 2) := by decide +kernel
theorem rs_d_83_4 : decode (rs_cd 83) 4 = .ok (.invokestatic 89, 3) := by decide +kernel
theorem rs_t_83_89 : rs_tg 83 89 = some 62 := by decide +kernel
theorem rs_d_83_7 : decode (rs_cd 83) 7 = .ok (.ifCond .eq 8, 3) := by decide +kernel
theorem rs_d_83_10 : decode (rs_cd 83) 10 = .ok (.iload_n 2, 1) := by decide +kernel
theorem rs_d_83_11 : decode (rs_cd 83) 11 = .ok (.iload_n 0, 1) := by decide +kernel
theorem rs_d_83_12 : decode (rs_cd 83) 12 = .ok (.if_icmp .ge 23, 3) := by decide +kernel
theorem rs_d_83_15 : decode (rs_cd 83) 15 = .ok (.iload_n 1, 1) := by decide +kernel
theorem rs_d_83_16 : decode (rs_cd 83) 16 = .ok (.iload_n 3, 1) := by decide +kernel
theorem rs_d_83_17 : decode (rs_cd 83) 17 = .ok (.invokestatic 120, 3) := by decide +kernel
theorem rs_t_83_120 : rs_tg 83 120 = some 64 := by decide +kernel
theorem rs_d_83_20 : decode (rs_cd 83) 20 = .ok (.iload_n 2, 1) := by decide +kernel
theorem rs_d_83_21 : decode (rs_cd 83) 21 = .ok (.iload 4, 2) := by decide +kernel
theorem rs_d_83_23 : decode (rs_cd 83) 23 = .ok (.invokestatic 124, 3) := by decide +kernel
theorem rs_t_83_124 : rs_tg 83 124 = some 63 := by decide +kernel
theorem rs_d_83_26 : decode (rs_cd 83) 26 = .ok (.iload_n 0, 1) := by decide +kernel
theorem rs_d_83_27 : decode (rs_cd 83) 27 = .ok (.iconst 1, 1) := by decide +kernel
theorem rs_d_83_28 : decode (rs_cd 83) 28 = .ok (.isub, 1) := by decide +kernel
theorem rs_d_83_29 : decode (rs_cd 83) 29 = .ok (.invokestatic 124, 3) := by decide +kernel
theorem rs_d_83_32 : decode (rs_cd 83) 32 = .ok (.if_icmp .gt 7, 3) := by decide +kernel
theorem rs_d_83_35 : decode (rs_cd 83) 35 = .ok (.iconst 1, 1) := by decide +kernel
theorem rs_d_83_36 : decode (rs_cd 83) 36 = .ok (.goto 4, 3) := by decide +kernel
theorem rs_d_83_39 : decode (rs_cd 83) 39 = .ok (.iconst 0, 1) := by decide +kernel
theorem rs_d_83_40 : decode (rs_cd 83) 40 = .ok (.ireturn, 1) := by decide +kernel
theorem rs_d_84_0 : decode (rs_cd 84) 0 = .ok (.iload_n 0, 1) := by decide +kernel
theorem rs_d_84_1 : decode (rs_cd 84) 1 = .ok (.iload_n 3, 1) := by decide +kernel
theorem rs_d_84_2 : decode (rs_cd 84) 2 = .ok (.iload 4, 2) := by decide +kernel
theorem rs_d_84_4 : decode (rs_cd 84) 4 = .ok (.invokestatic 89, 3) := by decide +kernel
theorem rs_t_84_89 : rs_tg 84 89 = some 62 := by decide +kernel
theorem rs_d_84_7 : decode (rs_cd 84) 7 = .ok (.ifCond .eq 8, 3) := by decide +kernel
theorem rs_d_84_10 : decode (rs_cd 84) 10 = .ok (.iload_n 1, 1) := by decide +kernel
theorem rs_d_84_11 : decode (rs_cd 84) 11 = .ok (.iload_n 0, 1) := by decide +kernel
theorem rs_d_84_12 : decode (rs_cd 84) 12 = .ok (.if_icmp .le 23, 3) := by decide +kernel
theorem rs_d_84_15 : decode (rs_cd 84) 15 = .ok (.iload_n 1, 1) := by decide +kernel
theorem rs_d_84_16 : decode (rs_cd 84) 16 = .ok (.iload_n 3, 1) := by decide +kernel
theorem rs_d_84_17 : decode (rs_cd 84) 17 = .ok (.invokestatic 120, 3) := by decide +kernel
theorem rs_t_84_120 : rs_tg 84 120 = some 64 := by decide +kernel
theorem rs_d_84_20 : decode (rs_cd 84) 20 = .ok (.iload_n 0, 1) := by decide +kernel
theorem rs_d_84_21 : decode (rs_cd 84) 21 = .ok (.iconst 1, 1) := by decide +kernel
theorem rs_d_84_22 : decode (rs_cd 84) 22 = .ok (.iadd, 1) := by decide +kernel
theorem rs_d_84_23 : decode (rs_cd 84) 23 = .ok (.invokestatic 120, 3) := by decide +kernel
theorem rs_d_84_26 : decode (rs_cd 84) 26 = .ok (.iload_n 2, 1) := by decide +kernel
theorem rs_d_84_27 : decode (rs_cd 84) 27 = .ok (.iload 4, 2) := by decide +kernel
theorem rs_d_84_29 : decode (rs_cd 84) 29 = .ok (.invokestatic 124, 3) := by decide +kernel
theorem rs_t_84_124 : rs_tg 84 124 = some 63 := by decide +kernel
theorem rs_d_84_32 : decode (rs_cd 84) 32 = .ok (.if_icmp .gt 7, 3) := by decide +kernel
theorem rs_d_84_35 : decode (rs_cd 84) 35 = .ok (.iconst 1, 1) := by decide +kernel
theorem rs_d_84_36 : decode (rs_cd 84) 36 = .ok (.goto 4, 3) := by decide +kernel
theorem rs_d_84_39 : decode (rs_cd 84) 39 = .ok (.iconst 0, 1) := by decide +kernel
theorem rs_d_84_40 : decode (rs_cd 84) 40 = .ok (.ireturn, 1) := by decide +kernel
theorem rs_d_85_0 : decode (rs_cd 85) 0 = .ok (.bipush 10, 2) := by decide +kernel
theorem rs_d_85_2 : decode (rs_cd 85) 2 = .ok (.iload_n 1, 1) := by decide +kernel
theorem rs_d_85_3 : decode (rs_cd 85) 3 = .ok (.imul, 1) := by decide +kernel
theorem rs_d_85_4 : decode (rs_cd 85) 4 = .ok (.istore 6, 2) := by decide +kernel
theorem rs_d_85_6 : decode (rs_cd 85) 6 = .ok (.sipush 400, 3) := by decide +kernel
theorem rs_d_85_9 : decode (rs_cd 85) 9 = .ok (.istore 7, 2) := by decide +kernel
theorem rs_d_85_11 : decode (rs_cd 85) 11 = .ok (.sipush (-400), 3) := by decide +kernel
theorem rs_d_85_14 : decode (rs_cd 85) 14 = .ok (.istore 8, 2) := by decide +kernel
theorem rs_d_85_16 : decode (rs_cd 85) 16 = .ok (.aload_n 0, 1) := by decide +kernel
theorem rs_d_85_17 : decode (rs_cd 85) 17 = .ok (.getfield 50, 3) := by decide +kernel
theorem rs_f_85_50 : rs_fd 85 50 = some (8, 18, 2) := by decide +kernel
theorem rs_d_85_20 : decode (rs_cd 85) 20 = .ok (.iload 6, 2) := by decide +kernel
theorem rs_d_85_22 : decode (rs_cd 85) 22 = .ok (.iload_n 2, 1) := by decide +kernel
theorem rs_d_85_23 : decode (rs_cd 85) 23 = .ok (.iadd, 1) := by decide +kernel
theorem rs_d_85_24 : decode (rs_cd 85) 24 = .ok (.iaload, 1) := by decide +kernel
theorem rs_d_85_25 : decode (rs_cd 85) 25 = .ok (.istore 9, 2) := by decide +kernel
theorem rs_d_85_27 : decode (rs_cd 85) 27 = .ok (.iload 9, 2) := by decide +kernel
theorem rs_d_85_29 : decode (rs_cd 85) 29 = .ok (.aload_n 0, 1) := by decide +kernel
theorem rs_d_85_30 : decode (rs_cd 85) 30 = .ok (.getfield 53, 3) := by decide +kernel
theorem rs_f_85_53 : rs_fd 85 53 = some (8, 19, 2) := by decide +kernel
theorem rs_d_85_33 : decode (rs_cd 85) 33 = .ok (.iload 6, 2) := by decide +kernel
theorem rs_d_85_35 : decode (rs_cd 85) 35 = .ok (.iload_n 2, 1) := by decide +kernel
theorem rs_d_85_36 : decode (rs_cd 85) 36 = .ok (.iadd, 1) := by decide +kernel
theorem rs_d_85_37 : decode (rs_cd 85) 37 = .ok (.iaload, 1) := by decide +kernel
theorem rs_d_85_38 : decode (rs_cd 85) 38 = .ok (.if_icmp .gt 138, 3) := by decide +kernel
theorem rs_d_85_41 : decode (rs_cd 85) 41 = .ok (.iload 5, 2) := by decide +kernel
theorem rs_d_85_43 : decode (rs_cd 85) 43 = .ok (.ifCond .eq 49, 3) := by decide +kernel
theorem rs_d_85_46 : decode (rs_cd 85) 46 = .ok (.iload 9, 2) := by decide +kernel
theorem rs_d_85_48 : decode (rs_cd 85) 48 = .ok (.aload_n 0, 1) := by decide +kernel
theorem rs_d_85_49 : decode (rs_cd 85) 49 = .ok (.getfield 50, 3) := by decide +kernel
theorem rs_d_85_52 : decode (rs_cd 85) 52 = .ok (.iload 6, 2) := by decide +kernel
theorem rs_d_85_54 : decode (rs_cd 85) 54 = .ok (.iload_n 3, 1) := by decide +kernel
theorem rs_d_85_55 : decode (rs_cd 85) 55 = .ok (.iadd, 1) := by decide +kernel
theorem rs_d_85_56 : decode (rs_cd 85) 56 = .ok (.iaload, 1) := by decide +kernel
theorem rs_d_85_57 : decode (rs_cd 85) 57 = .ok (.aload_n 0, 1) := by decide +kernel
theorem rs_d_85_58 : decode (rs_cd 85) 58 = .ok (.getfield 53, 3) := by decide +kernel
theorem rs_d_85_61 : decode (rs_cd 85) 61 = .ok (.iload 6, 2) := by decide +kernel
theorem rs_d_85_63 : decode (rs_cd 85) 63 = .ok (.iload_n 3, 1) := by decide +kernel
theorem rs_d_85_64 : decode (rs_cd 85) 64 = .ok (.iadd, 1) := by decide +kernel
theorem rs_d_85_65 : decode (rs_cd 85) 65 = .ok (.iaload, 1) := by decide +kernel
theorem rs_d_85_66 : decode (rs_cd 85) 66 = .ok (.aload_n 0, 1) := by decide +kernel
theorem rs_d_85_67 : decode (rs_cd 85) 67 = .ok (.getfield 50, 3) := by decide +kernel
theorem rs_d_85_70 : decode (rs_cd 85) 70 = .ok (.iload 6, 2) := by decide +kernel
theorem rs_d_85_72 : decode (rs_cd 85) 72 = .ok (.iload 4, 2) := by decide +kernel
theorem rs_d_85_74 : decode (rs_cd 85) 74 = .ok (.iadd, 1) := by decide +kernel
theorem rs_d_85_75 : decode (rs_cd 85) 75 = .ok (.iaload, 1) := by decide +kernel
theorem rs_d_85_76 : decode (rs_cd 85) 76 = .ok (.aload_n 0, 1) := by decide +kernel
theorem rs_d_85_77 : decode (rs_cd 85) 77 = .ok (.getfield 53, 3) := by decide +kernel
theorem rs_d_85_80 : decode (rs_cd 85) 80 = .ok (.iload 6, 2) := by decide +kernel
theorem rs_d_85_82 : decode (rs_cd 85) 82 = .ok (.iload 4, 2) := by decide +kernel
theorem rs_d_85_84 : decode (rs_cd 85) 84 = .ok (.iadd, 1) := by decide +kernel
theorem rs_d_85_85 : decode (rs_cd 85) 85 = .ok (.iaload, 1) := by decide +kernel
theorem rs_d_85_86 : decode (rs_cd 85) 86 = .ok (.invokestatic 163, 3) := by decide +kernel
theorem rs_t_85_163 : rs_tg 85 163 = some 83 := by decide +kernel
theorem rs_d_85_89 : decode (rs_cd 85) 89 = .ok (.goto 46, 3) := by decide +kernel
theorem rs_d_85_92 : decode (rs_cd 85) 92 = .ok (.iload 9, 2) := by decide +kernel
theorem rs_d_85_94 : decode (rs_cd 85) 94 = .ok (.aload_n 0, 1) := by decide +kernel
theorem rs_d_85_95 : decode (rs_cd 85) 95 = .ok (.getfield 50, 3) := by decide +kernel
theorem rs_d_85_98 : decode (rs_cd 85) 98 = .ok (.iload 6, 2) := by decide +kernel
theorem rs_d_85_100 : decode (rs_cd 85) 100 = .ok (.iload_n 3, 1) := by decide +kernel
theorem rs_d_85_101 : decode (rs_cd 85) 101 = .ok (.iadd, 1) := by decide +kernel
theorem rs_d_85_102 : decode (rs_cd 85) 102 = .ok (.iaload, 1) := by decide +kernel
theorem rs_d_85_103 : decode (rs_cd 85) 103 = .ok (.aload_n 0, 1) := by decide +kernel
theorem rs_d_85_104 : decode (rs_cd 85) 104 = .ok (.getfield 53, 3) := by decide +kernel
theorem rs_d_85_107 : decode (rs_cd 85) 107 = .ok (.iload 6, 2) := by decide +kernel
theorem rs_d_85_109 : decode (rs_cd 85) 109 = .ok (.iload_n 3, 1) := by decide +kernel
theorem rs_d_85_110 : decode (rs_cd 85) 110 = .ok (.iadd, 1) := by decide +kernel
theorem rs_d_85_111 : decode (rs_cd 85) 111 = .ok (.iaload, 1) := by decide +kernel
theorem rs_d_85_112 : decode (rs_cd 85) 112 = .ok (.aload_n 0, 1) := by decide +kernel
theorem rs_d_85_113 : decode (rs_cd 85) 113 = .ok (.getfield 50, 3) := by decide +kernel
theorem rs_d_85_116 : decode (rs_cd 85) 116 = .ok (.iload 6, 2) := by decide +kernel
theorem rs_d_85_118 : decode (rs_cd 85) 118 = .ok (.iload 4, 2) := by decide +kernel
theorem rs_d_85_120 : decode (rs_cd 85) 120 = .ok (.iadd, 1) := by decide +kernel
theorem rs_d_85_121 : decode (rs_cd 85) 121 = .ok (.iaload, 1) := by decide +kernel
theorem rs_d_85_122 : decode (rs_cd 85) 122 = .ok (.aload_n 0, 1) := by decide +kernel
theorem rs_d_85_123 : decode (rs_cd 85) 123 = .ok (.getfield 53, 3) := by decide +kernel
theorem rs_d_85_126 : decode (rs_cd 85) 126 = .ok (.iload 6, 2) := by decide +kernel
theorem rs_d_85_128 : decode (rs_cd 85) 128 = .ok (.iload 4, 2) := by decide +kernel
theorem rs_d_85_130 : decode (rs_cd 85) 130 = .ok (.iadd, 1) := by decide +kernel
theorem rs_d_85_131 : decode (rs_cd 85) 131 = .ok (.iaload, 1) := by decide +kernel
theorem rs_d_85_132 : decode (rs_cd 85) 132 = .ok (.invokestatic 167, 3) := by decide +kernel
theorem rs_t_85_167 : rs_tg 85 167 = some 84 := by decide +kernel
theorem rs_d_85_135 : decode (rs_cd 85) 135 = .ok (.istore 10, 2) := by decide +kernel
theorem rs_d_85_137 : decode (rs_cd 85) 137 = .ok (.iload 10, 2) := by decide +kernel
theorem rs_d_85_139 : decode (rs_cd 85) 139 = .ok (.ifCond .eq 13, 3) := by decide +kernel
theorem rs_d_85_142 : decode (rs_cd 85) 142 = .ok (.iload 7, 2) := by decide +kernel
theorem rs_d_85_144 : decode (rs_cd 85) 144 = .ok (.iload 9, 2) := by decide +kernel
theorem rs_d_85_146 : decode (rs_cd 85) 146 = .ok (.invokestatic 124, 3) := by decide +kernel
theorem rs_t_85_124 : rs_tg 85 124 = some 63 := by decide +kernel
theorem rs_d_85_149 : decode (rs_cd 85) 149 = .ok (.goto 5, 3) := by decide +kernel
theorem rs_d_85_152 : decode (rs_cd 85) 152 = .ok (.iload 7, 2) := by decide +kernel
theorem rs_d_85_154 : decode (rs_cd 85) 154 = .ok (.istore 7, 2) := by decide +kernel
theorem rs_d_85_156 : decode (rs_cd 85) 156 = .ok (.iload 10, 2) := by decide +kernel
theorem rs_d_85_158 : decode (rs_cd 85) 158 = .ok (.ifCond .eq 8, 3) := by decide +kernel
theorem rs_d_85_161 : decode (rs_cd 85) 161 = .ok (.iload 9, 2) := by decide +kernel
theorem rs_d_85_163 : decode (rs_cd 85) 163 = .ok (.goto 5, 3) := by decide +kernel
theorem rs_d_85_166 : decode (rs_cd 85) 166 = .ok (.iload 8, 2) := by decide +kernel
theorem rs_d_85_168 : decode (rs_cd 85) 168 = .ok (.istore 8, 2) := by decide +kernel
theorem rs_d_85_170 : decode (rs_cd 85) 170 = .ok (.iinc 9 1, 3) := by decide +kernel
theorem rs_d_85_173 : decode (rs_cd 85) 173 = .ok (.goto (-146), 3) := by decide +kernel
theorem rs_d_85_176 : decode (rs_cd 85) 176 = .ok (.aload_n 0, 1) := by decide +kernel
theorem rs_d_85_177 : decode (rs_cd 85) 177 = .ok (.iload_n 1, 1) := by decide +kernel
theorem rs_d_85_178 : decode (rs_cd 85) 178 = .ok (.iload_n 2, 1) := by decide +kernel
theorem rs_d_85_179 : decode (rs_cd 85) 179 = .ok (.iload 7, 2) := by decide +kernel
theorem rs_d_85_181 : decode (rs_cd 85) 181 = .ok (.iload 8, 2) := by decide +kernel
theorem rs_d_85_183 : decode (rs_cd 85) 183 = .ok (.invokevirtual 160, 3) := by decide +kernel
theorem rs_t_85_160 : rs_tg 85 160 = some 76 := by decide +kernel
theorem rs_d_85_186 : decode (rs_cd 85) 186 = .ok (.ireturn, 1) := by decide +kernel
theorem rs_d_86_0 : decode (rs_cd 86) 0 = .ok (.bipush 10, 2) := by decide +kernel
theorem rs_d_86_2 : decode (rs_cd 86) 2 = .ok (.iload_n 1, 1) := by decide +kernel
theorem rs_d_86_3 : decode (rs_cd 86) 3 = .ok (.imul, 1) := by decide +kernel
theorem rs_d_86_4 : decode (rs_cd 86) 4 = .ok (.istore 6, 2) := by decide +kernel
theorem rs_d_86_6 : decode (rs_cd 86) 6 = .ok (.iload 5, 2) := by decide +kernel
theorem rs_d_86_8 : decode (rs_cd 86) 8 = .ok (.ifCond .eq 27, 3) := by decide +kernel
theorem rs_d_86_11 : decode (rs_cd 86) 11 = .ok (.aload_n 0, 1) := by decide +kernel
theorem rs_d_86_12 : decode (rs_cd 86) 12 = .ok (.getfield 50, 3) := by decide +kernel
theorem rs_f_86_50 : rs_fd 86 50 = some (8, 18, 2) := by decide +kernel
theorem rs_d_86_15 : decode (rs_cd 86) 15 = .ok (.iload 6, 2) := by decide +kernel
theorem rs_d_86_17 : decode (rs_cd 86) 17 = .ok (.iload_n 2, 1) := by decide +kernel
theorem rs_d_86_18 : decode (rs_cd 86) 18 = .ok (.iadd, 1) := by decide +kernel
theorem rs_d_86_19 : decode (rs_cd 86) 19 = .ok (.iaload, 1) := by decide +kernel
theorem rs_d_86_20 : decode (rs_cd 86) 20 = .ok (.aload_n 0, 1) := by decide +kernel
theorem rs_d_86_21 : decode (rs_cd 86) 21 = .ok (.getfield 50, 3) := by decide +kernel
theorem rs_d_86_24 : decode (rs_cd 86) 24 = .ok (.iload 6, 2) := by decide +kernel
theorem rs_d_86_26 : decode (rs_cd 86) 26 = .ok (.iload_n 3, 1) := by decide +kernel
theorem rs_d_86_27 : decode (rs_cd 86) 27 = .ok (.iadd, 1) := by decide +kernel
theorem rs_d_86_28 : decode (rs_cd 86) 28 = .ok (.iaload, 1) := by decide +kernel
theorem rs_d_86_29 : decode (rs_cd 86) 29 = .ok (.invokestatic 124, 3) := by decide +kernel
theorem rs_t_86_124 : rs_tg 86 124 = some 63 := by decide +kernel
theorem rs_d_86_32 : decode (rs_cd 86) 32 = .ok (.goto 24, 3) := by decide +kernel
theorem rs_d_86_35 : decode (rs_cd 86) 35 = .ok (.aload_n 0, 1) := by decide +kernel
theorem rs_d_86_36 : decode (rs_cd 86) 36 = .ok (.getfield 50, 3) := by decide +kernel
theorem rs_d_86_39 : decode (rs_cd 86) 39 = .ok (.iload 6, 2) := by decide +kernel
theorem rs_d_86_41 : decode (rs_cd 86) 41 = .ok (.iload_n 2, 1) := by decide +kernel
theorem rs_d_86_42 : decode (rs_cd 86) 42 = .ok (.iadd, 1) := by decide +kernel
theorem rs_d_86_43 : decode (rs_cd 86) 43 = .ok (.iaload, 1) := by decide +kernel
theorem rs_d_86_44 : decode (rs_cd 86) 44 = .ok (.aload_n 0, 1) := by decide +kernel
theorem rs_d_86_45 : decode (rs_cd 86) 45 = .ok (.getfield 50, 3) := by decide +kernel
theorem rs_d_86_48 : decode (rs_cd 86) 48 = .ok (.iload 6, 2) := by decide +kernel
theorem rs_d_86_50 : decode (rs_cd 86) 50 = .ok (.iload_n 3, 1) := by decide +kernel
theorem rs_d_86_51 : decode (rs_cd 86) 51 = .ok (.iadd, 1) := by decide +kernel
theorem rs_d_86_52 : decode (rs_cd 86) 52 = .ok (.iaload, 1) := by decide +kernel
theorem rs_d_86_53 : decode (rs_cd 86) 53 = .ok (.invokestatic 120, 3) := by decide +kernel
theorem rs_t_86_120 : rs_tg 86 120 = some 64 := by decide +kernel
theorem rs_d_86_56 : decode (rs_cd 86) 56 = .ok (.istore 7, 2) := by decide +kernel
theorem rs_d_86_58 : decode (rs_cd 86) 58 = .ok (.iload 5, 2) := by decide +kernel
theorem rs_d_86_60 : decode (rs_cd 86) 60 = .ok (.ifCond .eq 27, 3) := by decide +kernel
theorem rs_d_86_63 : decode (rs_cd 86) 63 = .ok (.aload_n 0, 1) := by decide +kernel
theorem rs_d_86_64 : decode (rs_cd 86) 64 = .ok (.getfield 53, 3) := by decide +kernel
theorem rs_f_86_53 : rs_fd 86 53 = some (8, 19, 2) := by decide +kernel
theorem rs_d_86_67 : decode (rs_cd 86) 67 = .ok (.iload 6, 2) := by decide +kernel
theorem rs_d_86_69 : decode (rs_cd 86) 69 = .ok (.iload_n 2, 1) := by decide +kernel
theorem rs_d_86_70 : decode (rs_cd 86) 70 = .ok (.iadd, 1) := by decide +kernel
theorem rs_d_86_71 : decode (rs_cd 86) 71 = .ok (.iaload, 1) := by decide +kernel
theorem rs_d_86_72 : decode (rs_cd 86) 72 = .ok (.aload_n 0, 1) := by decide +kernel
theorem rs_d_86_73 : decode (rs_cd 86) 73 = .ok (.getfield 53, 3) := by decide +kernel
theorem rs_d_86_76 : decode (rs_cd 86) 76 = .ok (.iload 6, 2) := by decide +kernel
theorem rs_d_86_78 : decode (rs_cd 86) 78 = .ok (.iload_n 3, 1) := by decide +kernel
theorem rs_d_86_79 : decode (rs_cd 86) 79 = .ok (.iadd, 1) := by decide +kernel
theorem rs_d_86_80 : decode (rs_cd 86) 80 = .ok (.iaload, 1) := by decide +kernel
theorem rs_d_86_81 : decode (rs_cd 86) 81 = .ok (.invokestatic 124, 3) := by decide +kernel
theorem rs_d_86_84 : decode (rs_cd 86) 84 = .ok (.goto 24, 3) := by decide +kernel
theorem rs_d_86_87 : decode (rs_cd 86) 87 = .ok (.aload_n 0, 1) := by decide +kernel
theorem rs_d_86_88 : decode (rs_cd 86) 88 = .ok (.getfield 53, 3) := by decide +kernel
theorem rs_d_86_91 : decode (rs_cd 86) 91 = .ok (.iload 6, 2) := by decide +kernel
theorem rs_d_86_93 : decode (rs_cd 86) 93 = .ok (.iload_n 2, 1) := by decide +kernel
theorem rs_d_86_94 : decode (rs_cd 86) 94 = .ok (.iadd, 1) := by decide +kernel
theorem rs_d_86_95 : decode (rs_cd 86) 95 = .ok (.iaload, 1) := by decide +kernel
theorem rs_d_86_96 : decode (rs_cd 86) 96 = .ok (.aload_n 0, 1) := by decide +kernel
theorem rs_d_86_97 : decode (rs_cd 86) 97 = .ok (.getfield 53, 3) := by decide +kernel
theorem rs_d_86_100 : decode (rs_cd 86) 100 = .ok (.iload 6, 2) := by decide +kernel
theorem rs_d_86_102 : decode (rs_cd 86) 102 = .ok (.iload_n 3, 1) := by decide +kernel
theorem rs_d_86_103 : decode (rs_cd 86) 103 = .ok (.iadd, 1) := by decide +kernel
theorem rs_d_86_104 : decode (rs_cd 86) 104 = .ok (.iaload, 1) := by decide +kernel
theorem rs_d_86_105 : decode (rs_cd 86) 105 = .ok (.invokestatic 120, 3) := by decide +kernel
theorem rs_d_86_108 : decode (rs_cd 86) 108 = .ok (.istore 8, 2) := by decide +kernel
theorem rs_d_86_110 : decode (rs_cd 86) 110 = .ok (.aload_n 0, 1) := by decide +kernel
theorem rs_d_86_111 : decode (rs_cd 86) 111 = .ok (.iload_n 1, 1) := by decide +kernel
theorem rs_d_86_112 : decode (rs_cd 86) 112 = .ok (.iload_n 2, 1) := by decide +kernel
theorem rs_d_86_113 : decode (rs_cd 86) 113 = .ok (.iload_n 3, 1) := by decide +kernel
theorem rs_d_86_114 : decode (rs_cd 86) 114 = .ok (.iload 4, 2) := by decide +kernel
theorem rs_d_86_116 : decode (rs_cd 86) 116 = .ok (.iload 7, 2) := by decide +kernel
theorem rs_d_86_118 : decode (rs_cd 86) 118 = .ok (.iload 8, 2) := by decide +kernel
theorem rs_d_86_120 : decode (rs_cd 86) 120 = .ok (.invokevirtual 170, 3) := by decide +kernel
theorem rs_t_86_170 : rs_tg 86 170 = some 87 := by decide +kernel
theorem rs_d_86_123 : decode (rs_cd 86) 123 = .ok (.ifCond .eq 35, 3) := by decide +kernel
theorem rs_d_86_126 : decode (rs_cd 86) 126 = .ok (.aload_n 0, 1) := by decide +kernel
theorem rs_d_86_127 : decode (rs_cd 86) 127 = .ok (.iload_n 1, 1) := by decide +kernel
theorem rs_d_86_128 : decode (rs_cd 86) 128 = .ok (.iload_n 2, 1) := by decide +kernel
theorem rs_d_86_129 : decode (rs_cd 86) 129 = .ok (.iload_n 3, 1) := by decide +kernel
theorem rs_d_86_130 : decode (rs_cd 86) 130 = .ok (.iload 4, 2) := by decide +kernel
theorem rs_d_86_132 : decode (rs_cd 86) 132 = .ok (.iload 5, 2) := by decide +kernel
theorem rs_d_86_134 : decode (rs_cd 86) 134 = .ok (.invokevirtual 174, 3) := by decide +kernel
theorem rs_t_86_174 : rs_tg 86 174 = some 85 := by decide +kernel
theorem rs_d_86_137 : decode (rs_cd 86) 137 = .ok (.ifCond .eq 21, 3) := by decide +kernel
theorem rs_d_86_140 : decode (rs_cd 86) 140 = .ok (.aload_n 0, 1) := by decide +kernel
theorem rs_d_86_141 : decode (rs_cd 86) 141 = .ok (.iload_n 1, 1) := by decide +kernel
theorem rs_d_86_142 : decode (rs_cd 86) 142 = .ok (.iload_n 3, 1) := by decide +kernel
theorem rs_d_86_143 : decode (rs_cd 86) 143 = .ok (.iload_n 2, 1) := by decide +kernel
theorem rs_d_86_144 : decode (rs_cd 86) 144 = .ok (.iload 4, 2) := by decide +kernel
theorem rs_d_86_146 : decode (rs_cd 86) 146 = .ok (.iload 5, 2) := by decide +kernel
theorem rs_d_86_148 : decode (rs_cd 86) 148 = .ok (.invokevirtual 174, 3) := by decide +kernel
theorem rs_d_86_151 : decode (rs_cd 86) 151 = .ok (.ifCond .eq 7, 3) := by decide +kernel
theorem rs_d_86_154 : decode (rs_cd 86) 154 = .ok (.iconst 1, 1) := by decide +kernel
theorem rs_d_86_155 : decode (rs_cd 86) 155 = .ok (.goto 4, 3) := by decide +kernel
theorem rs_d_86_158 : decode (rs_cd 86) 158 = .ok (.iconst 0, 1) := by decide +kernel
theorem rs_d_86_159 : decode (rs_cd 86) 159 = .ok (.ireturn, 1) := by decide +kernel
