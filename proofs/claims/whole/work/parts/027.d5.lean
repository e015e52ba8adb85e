theorem rs_d_87_0 : decode (rs_cd 87) 0 = .ok (.bipush 10, 2) := by decide +kernel
theorem rs_d_87_2 : decode (rs_cd 87) 2 = .ok (.iload_n 1, 1) := by decide +kernel
theorem rs_d_87_3 : decode (rs_cd 87) 3 = .ok (.imul, 1) := by decide +kernel
theorem rs_d_87_4 : decode (rs_cd 87) 4 = .ok (.istore 7, 2) := by decide +kernel
theorem rs_d_87_6 : decode (rs_cd 87) 6 = .ok (.sipush 400, 3) := by decide +kernel
theorem rs_d_87_9 : decode (rs_cd 87) 9 = .ok (.istore 8, 2) := by decide +kernel
theorem rs_d_87_11 : decode (rs_cd 87) 11 = .ok (.sipush (-400), 3) := by decide +kernel
theorem rs_d_87_14 : decode (rs_cd 87) 14 = .ok (.istore 9, 2) := by decide +kernel
theorem rs_d_87_16 : decode (rs_cd 87) 16 = .ok (.iload 5, 2) := by decide +kernel
theorem rs_d_87_18 : decode (rs_cd 87) 18 = .ok (.aload_n 0, 1) := by decide +kernel
theorem rs_d_87_19 : decode (rs_cd 87) 19 = .ok (.getfield 50, 3) := by decide +kernel
theorem rs_f_87_50 : rs_fd 87 50 = some (8, 18, 2) := by decide +kernel
theorem rs_d_87_22 : decode (rs_cd 87) 22 = .ok (.iload 7, 2) := by decide +kernel
theorem rs_d_87_24 : decode (rs_cd 87) 24 = .ok (.iload 4, 2) := by decide +kernel
theorem rs_d_87_26 : decode (rs_cd 87) 26 = .ok (.iadd, 1) := by decide +kernel
theorem rs_d_87_27 : decode (rs_cd 87) 27 = .ok (.iaload, 1) := by decide +kernel
theorem rs_d_87_28 : decode (rs_cd 87) 28 = .ok (.invokestatic 120, 3) := by decide +kernel
theorem rs_t_87_120 : rs_tg 87 120 = some 64 := by decide +kernel
theorem rs_d_87_31 : decode (rs_cd 87) 31 = .ok (.istore 10, 2) := by decide +kernel
theorem rs_d_87_33 : decode (rs_cd 87) 33 = .ok (.iload 10, 2) := by decide +kernel
theorem rs_d_87_35 : decode (rs_cd 87) 35 = .ok (.iload 6, 2) := by decide +kernel
theorem rs_d_87_37 : decode (rs_cd 87) 37 = .ok (.aload_n 0, 1) := by decide +kernel
theorem rs_d_87_38 : decode (rs_cd 87) 38 = .ok (.getfield 53, 3) := by decide +kernel
theorem rs_f_87_53 : rs_fd 87 53 = some (8, 19, 2) := by decide +kernel
theorem rs_d_87_41 : decode (rs_cd 87) 41 = .ok (.iload 7, 2) := by decide +kernel
theorem rs_d_87_43 : decode (rs_cd 87) 43 = .ok (.iload 4, 2) := by decide +kernel
theorem rs_d_87_45 : decode (rs_cd 87) 45 = .ok (.iadd, 1) := by decide +kernel
theorem rs_d_87_46 : decode (rs_cd 87) 46 = .ok (.iaload, 1) := by decide +kernel
theorem rs_d_87_47 : decode (rs_cd 87) 47 = .ok (.invokestatic 124, 3) := by decide +kernel
theorem rs_t_87_124 : rs_tg 87 124 = some 63 := by decide +kernel
theorem rs_d_87_50 : decode (rs_cd 87) 50 = .ok (.if_icmp .gt 101, 3) := by decide +kernel
theorem rs_d_87_53 : decode (rs_cd 87) 53 = .ok (.iload 10, 2) := by decide +kernel
theorem rs_d_87_55 : decode (rs_cd 87) 55 = .ok (.aload_n 0, 1) := by decide +kernel
theorem rs_d_87_56 : decode (rs_cd 87) 56 = .ok (.getfield 50, 3) := by decide +kernel
theorem rs_d_87_59 : decode (rs_cd 87) 59 = .ok (.iload 7, 2) := by decide +kernel
theorem rs_d_87_61 : decode (rs_cd 87) 61 = .ok (.iload_n 2, 1) := by decide +kernel
theorem rs_d_87_62 : decode (rs_cd 87) 62 = .ok (.iadd, 1) := by decide +kernel
theorem rs_d_87_63 : decode (rs_cd 87) 63 = .ok (.iaload, 1) := by decide +kernel
theorem rs_d_87_64 : decode (rs_cd 87) 64 = .ok (.aload_n 0, 1) := by decide +kernel
theorem rs_d_87_65 : decode (rs_cd 87) 65 = .ok (.getfield 53, 3) := by decide +kernel
theorem rs_d_87_68 : decode (rs_cd 87) 68 = .ok (.iload 7, 2) := by decide +kernel
theorem rs_d_87_70 : decode (rs_cd 87) 70 = .ok (.iload_n 2, 1) := by decide +kernel
theorem rs_d_87_71 : decode (rs_cd 87) 71 = .ok (.iadd, 1) := by decide +kernel
theorem rs_d_87_72 : decode (rs_cd 87) 72 = .ok (.iaload, 1) := by decide +kernel
theorem rs_d_87_73 : decode (rs_cd 87) 73 = .ok (.invokestatic 89, 3) := by decide +kernel
theorem rs_t_87_89 : rs_tg 87 89 = some 62 := by decide +kernel
theorem rs_d_87_76 : decode (rs_cd 87) 76 = .ok (.ifCond .ne 29, 3) := by decide +kernel
theorem rs_d_87_79 : decode (rs_cd 87) 79 = .ok (.iload 10, 2) := by decide +kernel
theorem rs_d_87_81 : decode (rs_cd 87) 81 = .ok (.aload_n 0, 1) := by decide +kernel
theorem rs_d_87_82 : decode (rs_cd 87) 82 = .ok (.getfield 50, 3) := by decide +kernel
theorem rs_d_87_85 : decode (rs_cd 87) 85 = .ok (.iload 7, 2) := by decide +kernel
theorem rs_d_87_87 : decode (rs_cd 87) 87 = .ok (.iload_n 3, 1) := by decide +kernel
theorem rs_d_87_88 : decode (rs_cd 87) 88 = .ok (.iadd, 1) := by decide +kernel
theorem rs_d_87_89 : decode (rs_cd 87) 89 = .ok (.iaload, 1) := by decide +kernel
theorem rs_d_87_90 : decode (rs_cd 87) 90 = .ok (.aload_n 0, 1) := by decide +kernel
theorem rs_d_87_91 : decode (rs_cd 87) 91 = .ok (.getfield 53, 3) := by decide +kernel
theorem rs_d_87_94 : decode (rs_cd 87) 94 = .ok (.iload 7, 2) := by decide +kernel
theorem rs_d_87_96 : decode (rs_cd 87) 96 = .ok (.iload_n 3, 1) := by decide +kernel
theorem rs_d_87_97 : decode (rs_cd 87) 97 = .ok (.iadd, 1) := by decide +kernel
theorem rs_d_87_98 : decode (rs_cd 87) 98 = .ok (.iaload, 1) := by decide +kernel
theorem rs_d_87_99 : decode (rs_cd 87) 99 = .ok (.invokestatic 89, 3) := by decide +kernel
theorem rs_d_87_102 : decode (rs_cd 87) 102 = .ok (.ifCond .eq 7, 3) := by decide +kernel
theorem rs_d_87_105 : decode (rs_cd 87) 105 = .ok (.iconst 1, 1) := by decide +kernel
theorem rs_d_87_106 : decode (rs_cd 87) 106 = .ok (.goto 4, 3) := by decide +kernel
theorem rs_d_87_109 : decode (rs_cd 87) 109 = .ok (.iconst 0, 1) := by decide +kernel
theorem rs_d_87_110 : decode (rs_cd 87) 110 = .ok (.istore 11, 2) := by decide +kernel
theorem rs_d_87_112 : decode (rs_cd 87) 112 = .ok (.iload 11, 2) := by decide +kernel
theorem rs_d_87_114 : decode (rs_cd 87) 114 = .ok (.ifCond .eq 13, 3) := by decide +kernel
theorem rs_d_87_117 : decode (rs_cd 87) 117 = .ok (.iload 8, 2) := by decide +kernel
theorem rs_d_87_119 : decode (rs_cd 87) 119 = .ok (.iload 10, 2) := by decide +kernel
theorem rs_d_87_121 : decode (rs_cd 87) 121 = .ok (.invokestatic 124, 3) := by decide +kernel
theorem rs_d_87_124 : decode (rs_cd 87) 124 = .ok (.goto 5, 3) := by decide +kernel
theorem rs_d_87_127 : decode (rs_cd 87) 127 = .ok (.iload 8, 2) := by decide +kernel
theorem rs_d_87_129 : decode (rs_cd 87) 129 = .ok (.istore 8, 2) := by decide +kernel
theorem rs_d_87_131 : decode (rs_cd 87) 131 = .ok (.iload 11, 2) := by decide +kernel
theorem rs_d_87_133 : decode (rs_cd 87) 133 = .ok (.ifCond .eq 8, 3) := by decide +kernel
theorem rs_d_87_136 : decode (rs_cd 87) 136 = .ok (.iload 10, 2) := by decide +kernel
theorem rs_d_87_138 : decode (rs_cd 87) 138 = .ok (.goto 5, 3) := by decide +kernel
theorem rs_d_87_141 : decode (rs_cd 87) 141 = .ok (.iload 9, 2) := by decide +kernel
theorem rs_d_87_143 : decode (rs_cd 87) 143 = .ok (.istore 9, 2) := by decide +kernel
theorem rs_d_87_145 : decode (rs_cd 87) 145 = .ok (.iinc 10 1, 3) := by decide +kernel
theorem rs_d_87_148 : decode (rs_cd 87) 148 = .ok (.goto (-115), 3) := by decide +kernel
theorem rs_d_87_151 : decode (rs_cd 87) 151 = .ok (.aload_n 0, 1) := by decide +kernel
theorem rs_d_87_152 : decode (rs_cd 87) 152 = .ok (.iload_n 1, 1) := by decide +kernel
theorem rs_d_87_153 : decode (rs_cd 87) 153 = .ok (.iload 4, 2) := by decide +kernel
theorem rs_d_87_155 : decode (rs_cd 87) 155 = .ok (.iload 8, 2) := by decide +kernel
theorem rs_d_87_157 : decode (rs_cd 87) 157 = .ok (.iload 9, 2) := by decide +kernel
theorem rs_d_87_159 : decode (rs_cd 87) 159 = .ok (.invokevirtual 160, 3) := by decide +kernel
theorem rs_t_87_160 : rs_tg 87 160 = some 76 := by decide +kernel
theorem rs_d_87_162 : decode (rs_cd 87) 162 = .ok (.ireturn, 1) := by decide +kernel
theorem rs_d_88_0 : decode (rs_cd 88) 0 = .ok (.bipush 10, 2) := by decide +kernel
theorem rs_d_88_2 : decode (rs_cd 88) 2 = .ok (.iload_n 1, 1) := by decide +kernel
theorem rs_d_88_3 : decode (rs_cd 88) 3 = .ok (.imul, 1) := by decide +kernel
theorem rs_d_88_4 : decode (rs_cd 88) 4 = .ok (.istore 5, 2) := by decide +kernel
theorem rs_d_88_6 : decode (rs_cd 88) 6 = .ok (.aload_n 0, 1) := by decide +kernel
theorem rs_d_88_7 : decode (rs_cd 88) 7 = .ok (.getfield 50, 3) := by decide +kernel
theorem rs_f_88_50 : rs_fd 88 50 = some (8, 18, 2) := by decide +kernel
theorem rs_d_88_10 : decode (rs_cd 88) 10 = .ok (.iload 5, 2) := by decide +kernel
theorem rs_d_88_12 : decode (rs_cd 88) 12 = .ok (.iload_n 3, 1) := by decide +kernel
theorem rs_d_88_13 : decode (rs_cd 88) 13 = .ok (.iadd, 1) := by decide +kernel
theorem rs_d_88_14 : decode (rs_cd 88) 14 = .ok (.iaload, 1) := by decide +kernel
theorem rs_d_88_15 : decode (rs_cd 88) 15 = .ok (.aload_n 0, 1) := by decide +kernel
theorem rs_d_88_16 : decode (rs_cd 88) 16 = .ok (.getfield 53, 3) := by decide +kernel
theorem rs_f_88_53 : rs_fd 88 53 = some (8, 19, 2) := by decide +kernel
theorem rs_d_88_19 : decode (rs_cd 88) 19 = .ok (.iload 5, 2) := by decide +kernel
theorem rs_d_88_21 : decode (rs_cd 88) 21 = .ok (.iload 4, 2) := by decide +kernel
theorem rs_d_88_23 : decode (rs_cd 88) 23 = .ok (.iadd, 1) := by decide +kernel
theorem rs_d_88_24 : decode (rs_cd 88) 24 = .ok (.iaload, 1) := by decide +kernel
theorem rs_d_88_25 : decode (rs_cd 88) 25 = .ok (.if_icmp .le 18, 3) := by decide +kernel
theorem rs_d_88_28 : decode (rs_cd 88) 28 = .ok (.aload_n 0, 1) := by decide +kernel
theorem rs_d_88_29 : decode (rs_cd 88) 29 = .ok (.iload_n 1, 1) := by decide +kernel
theorem rs_d_88_30 : decode (rs_cd 88) 30 = .ok (.iload_n 2, 1) := by decide +kernel
theorem rs_d_88_31 : decode (rs_cd 88) 31 = .ok (.sipush (-400), 3) := by decide +kernel
theorem rs_d_88_34 : decode (rs_cd 88) 34 = .ok (.iconst 0, 1) := by decide +kernel
theorem rs_d_88_35 : decode (rs_cd 88) 35 = .ok (.invokevirtual 160, 3) := by decide +kernel
theorem rs_t_88_160 : rs_tg 88 160 = some 76 := by decide +kernel
theorem rs_d_88_38 : decode (rs_cd 88) 38 = .ok (.ifCond .ne 5, 3) := by decide +kernel
theorem rs_d_88_41 : decode (rs_cd 88) 41 = .ok (.iconst 0, 1) := by decide +kernel
theorem rs_d_88_42 : decode (rs_cd 88) 42 = .ok (.ireturn, 1) := by decide +kernel
theorem rs_d_88_43 : decode (rs_cd 88) 43 = .ok (.aload_n 0, 1) := by decide +kernel
theorem rs_d_88_44 : decode (rs_cd 88) 44 = .ok (.getfield 50, 3) := by decide +kernel
theorem rs_d_88_47 : decode (rs_cd 88) 47 = .ok (.iload 5, 2) := by decide +kernel
theorem rs_d_88_49 : decode (rs_cd 88) 49 = .ok (.iload_n 2, 1) := by decide +kernel
theorem rs_d_88_50 : decode (rs_cd 88) 50 = .ok (.iadd, 1) := by decide +kernel
theorem rs_d_88_51 : decode (rs_cd 88) 51 = .ok (.iaload, 1) := by decide +kernel
theorem rs_d_88_52 : decode (rs_cd 88) 52 = .ok (.iconst 1, 1) := by decide +kernel
theorem rs_d_88_53 : decode (rs_cd 88) 53 = .ok (.if_icmp .ge 5, 3) := by decide +kernel
theorem rs_d_88_56 : decode (rs_cd 88) 56 = .ok (.iconst 1, 1) := by decide +kernel
theorem rs_d_88_57 : decode (rs_cd 88) 57 = .ok (.ireturn, 1) := by decide +kernel
theorem rs_d_88_58 : decode (rs_cd 88) 58 = .ok (.aload_n 0, 1) := by decide +kernel
theorem rs_d_88_59 : decode (rs_cd 88) 59 = .ok (.iload_n 1, 1) := by decide +kernel
theorem rs_d_88_60 : decode (rs_cd 88) 60 = .ok (.iload_n 3, 1) := by decide +kernel
theorem rs_d_88_61 : decode (rs_cd 88) 61 = .ok (.sipush (-400), 3) := by decide +kernel
theorem rs_d_88_64 : decode (rs_cd 88) 64 = .ok (.aload_n 0, 1) := by decide +kernel
theorem rs_d_88_65 : decode (rs_cd 88) 65 = .ok (.getfield 53, 3) := by decide +kernel
theorem rs_d_88_68 : decode (rs_cd 88) 68 = .ok (.iload 5, 2) := by decide +kernel
theorem rs_d_88_70 : decode (rs_cd 88) 70 = .ok (.iload 4, 2) := by decide +kernel
theorem rs_d_88_72 : decode (rs_cd 88) 72 = .ok (.iadd, 1) := by decide +kernel
theorem rs_d_88_73 : decode (rs_cd 88) 73 = .ok (.iaload, 1) := by decide +kernel
theorem rs_d_88_74 : decode (rs_cd 88) 74 = .ok (.invokevirtual 160, 3) := by decide +kernel
theorem rs_d_88_77 : decode (rs_cd 88) 77 = .ok (.ifCond .eq 29, 3) := by decide +kernel
theorem rs_d_88_80 : decode (rs_cd 88) 80 = .ok (.aload_n 0, 1) := by decide +kernel
theorem rs_d_88_81 : decode (rs_cd 88) 81 = .ok (.iload_n 1, 1) := by decide +kernel
theorem rs_d_88_82 : decode (rs_cd 88) 82 = .ok (.iload 4, 2) := by decide +kernel
theorem rs_d_88_84 : decode (rs_cd 88) 84 = .ok (.aload_n 0, 1) := by decide +kernel
theorem rs_d_88_85 : decode (rs_cd 88) 85 = .ok (.getfield 50, 3) := by decide +kernel
theorem rs_d_88_88 : decode (rs_cd 88) 88 = .ok (.iload 5, 2) := by decide +kernel
theorem rs_d_88_90 : decode (rs_cd 88) 90 = .ok (.iload_n 3, 1) := by decide +kernel
theorem rs_d_88_91 : decode (rs_cd 88) 91 = .ok (.iadd, 1) := by decide +kernel
theorem rs_d_88_92 : decode (rs_cd 88) 92 = .ok (.iaload, 1) := by decide +kernel
theorem rs_d_88_93 : decode (rs_cd 88) 93 = .ok (.sipush 400, 3) := by decide +kernel
theorem rs_d_88_96 : decode (rs_cd 88) 96 = .ok (.invokevirtual 160, 3) := by decide +kernel
theorem rs_d_88_99 : decode (rs_cd 88) 99 = .ok (.ifCond .eq 7, 3) := by decide +kernel
theorem rs_d_88_102 : decode (rs_cd 88) 102 = .ok (.iconst 1, 1) := by decide +kernel
theorem rs_d_88_103 : decode (rs_cd 88) 103 = .ok (.goto 4, 3) := by decide +kernel
theorem rs_d_88_106 : decode (rs_cd 88) 106 = .ok (.iconst 0, 1) := by decide +kernel
theorem rs_d_88_107 : decode (rs_cd 88) 107 = .ok (.ireturn, 1) := by decide +kernel
theorem rs_d_89_0 : decode (rs_cd 89) 0 = .ok (.bipush 10, 2) := by decide +kernel
theorem rs_d_89_2 : decode (rs_cd 89) 2 = .ok (.iload_n 1, 1) := by decide +kernel
theorem rs_d_89_3 : decode (rs_cd 89) 3 = .ok (.imul, 1) := by decide +kernel
theorem rs_d_89_4 : decode (rs_cd 89) 4 = .ok (.istore 5, 2) := by decide +kernel
theorem rs_d_89_6 : decode (rs_cd 89) 6 = .ok (.iload_n 2, 1) := by decide +kernel
theorem rs_d_89_7 : decode (rs_cd 89) 7 = .ok (.iload_n 3, 1) := by decide +kernel
theorem rs_d_89_8 : decode (rs_cd 89) 8 = .ok (.if_icmp .ne 14, 3) := by decide +kernel
theorem rs_d_89_11 : decode (rs_cd 89) 11 = .ok (.iload 4, 2) := by decide +kernel
theorem rs_d_89_13 : decode (rs_cd 89) 13 = .ok (.ifCond .gt 7, 3) := by decide +kernel
theorem rs_d_89_16 : decode (rs_cd 89) 16 = .ok (.iconst 1, 1) := by decide +kernel
theorem rs_d_89_17 : decode (rs_cd 89) 17 = .ok (.goto 4, 3) := by decide +kernel
theorem rs_d_89_20 : decode (rs_cd 89) 20 = .ok (.iconst 0, 1) := by decide +kernel
theorem rs_d_89_21 : decode (rs_cd 89) 21 = .ok (.ireturn, 1) := by decide +kernel
theorem rs_d_89_22 : decode (rs_cd 89) 22 = .ok (.aload_n 0, 1) := by decide +kernel
theorem rs_d_89_23 : decode (rs_cd 89) 23 = .ok (.iload_n 1, 1) := by decide +kernel
theorem rs_d_89_24 : decode (rs_cd 89) 24 = .ok (.iload_n 2, 1) := by decide +kernel
theorem rs_d_89_25 : decode (rs_cd 89) 25 = .ok (.sipush (-400), 3) := by decide +kernel
theorem rs_d_89_28 : decode (rs_cd 89) 28 = .ok (.aload_n 0, 1) := by decide +kernel
theorem rs_d_89_29 : decode (rs_cd 89) 29 = .ok (.getfield 53, 3) := by decide +kernel
theorem rs_f_89_53 : rs_fd 89 53 = some (8, 19, 2) := by decide +kernel
theorem rs_d_89_32 : decode (rs_cd 89) 32 = .ok (.iload 5, 2) := by decide +kernel
theorem rs_d_89_34 : decode (rs_cd 89) 34 = .ok (.iload_n 3, 1) := by decide +kernel
theorem rs_d_89_35 : decode (rs_cd 89) 35 = .ok (.iadd, 1) := by decide +kernel
theorem rs_d_89_36 : decode (rs_cd 89) 36 = .ok (.iaload, 1) := by decide +kernel
theorem rs_d_89_37 : decode (rs_cd 89) 37 = .ok (.iload 4, 2) := by decide +kernel
theorem rs_d_89_39 : decode (rs_cd 89) 39 = .ok (.isub, 1) := by decide +kernel
theorem rs_d_89_40 : decode (rs_cd 89) 40 = .ok (.invokevirtual 160, 3) := by decide +kernel
theorem rs_t_89_160 : rs_tg 89 160 = some 76 := by decide +kernel
theorem rs_d_89_43 : decode (rs_cd 89) 43 = .ok (.ifCond .eq 31, 3) := by decide +kernel
theorem rs_d_89_46 : decode (rs_cd 89) 46 = .ok (.aload_n 0, 1) := by decide +kernel
theorem rs_d_89_47 : decode (rs_cd 89) 47 = .ok (.iload_n 1, 1) := by decide +kernel
theorem rs_d_89_48 : decode (rs_cd 89) 48 = .ok (.iload_n 3, 1) := by decide +kernel
theorem rs_d_89_49 : decode (rs_cd 89) 49 = .ok (.aload_n 0, 1) := by decide +kernel
theorem rs_d_89_50 : decode (rs_cd 89) 50 = .ok (.getfield 50, 3) := by decide +kernel
theorem rs_f_89_50 : rs_fd 89 50 = some (8, 18, 2) := by decide +kernel
theorem rs_d_89_53 : decode (rs_cd 89) 53 = .ok (.iload 5, 2) := by decide +kernel
theorem rs_d_89_55 : decode (rs_cd 89) 55 = .ok (.iload_n 2, 1) := by decide +kernel
theorem rs_d_89_56 : decode (rs_cd 89) 56 = .ok (.iadd, 1) := by decide +kernel
theorem rs_d_89_57 : decode (rs_cd 89) 57 = .ok (.iaload, 1) := by decide +kernel
theorem rs_d_89_58 : decode (rs_cd 89) 58 = .ok (.iload 4, 2) := by decide +kernel
theorem rs_d_89_60 : decode (rs_cd 89) 60 = .ok (.iadd, 1) := by decide +kernel
theorem rs_d_89_61 : decode (rs_cd 89) 61 = .ok (.sipush 400, 3) := by decide +kernel
theorem rs_d_89_64 : decode (rs_cd 89) 64 = .ok (.invokevirtual 160, 3) := by decide +kernel
theorem rs_d_89_67 : decode (rs_cd 89) 67 = .ok (.ifCond .eq 7, 3) := by decide +kernel
theorem rs_d_89_70 : decode (rs_cd 89) 70 = .ok (.iconst 1, 1) := by decide +kernel
theorem rs_d_89_71 : decode (rs_cd 89) 71 = .ok (.goto 4, 3) := by decide +kernel
theorem rs_d_89_74 : decode (rs_cd 89) 74 = .ok (.iconst 0, 1) := by decide +kernel
theorem rs_d_89_75 : decode (rs_cd 89) 75 = .ok (.ireturn, 1) := by decide +kernel
theorem rs_d_90_0 : decode (rs_cd 90) 0 = .ok (.bipush 10, 2) := by decide +kernel
theorem rs_d_90_2 : decode (rs_cd 90) 2 = .ok (.iload_n 1, 1) := by decide +kernel
theorem rs_d_90_3 : decode (rs_cd 90) 3 = .ok (.imul, 1) := by decide +kernel
theorem rs_d_90_4 : decode (rs_cd 90) 4 = .ok (.istore 5, 2) := by decide +kernel
theorem rs_d_90_6 : decode (rs_cd 90) 6 = .ok (.aload_n 0, 1) := by decide +kernel
theorem rs_d_90_7 : decode (rs_cd 90) 7 = .ok (.invokevirtual 149, 3) := by decide +kernel
theorem rs_t_90_149 : rs_tg 90 149 = some 78 := by decide +kernel
theorem rs_d_90_10 : decode (rs_cd 90) 10 = .ok (.bipush 10, 2) := by decide +kernel
theorem rs_d_90_12 : decode (rs_cd 90) 12 = .ok (.iload 4, 2) := by decide +kernel
theorem rs_d_90_14 : decode (rs_cd 90) 14 = .ok (.imul, 1) := by decide +kernel
theorem rs_d_90_15 : decode (rs_cd 90) 15 = .ok (.istore 6, 2) := by decide +kernel
theorem rs_d_90_17 : decode (rs_cd 90) 17 = .ok (.iload 6, 2) := by decide +kernel
theorem rs_d_90_19 : decode (rs_cd 90) 19 = .ok (.bipush 10, 2) := by decide +kernel
theorem rs_d_90_21 : decode (rs_cd 90) 21 = .ok (.iload 4, 2) := by decide +kernel
theorem rs_d_90_23 : decode (rs_cd 90) 23 = .ok (.imul, 1) := by decide +kernel
theorem rs_d_90_24 : decode (rs_cd 90) 24 = .ok (.aload_n 0, 1) := by decide +kernel
theorem rs_d_90_25 : decode (rs_cd 90) 25 = .ok (.getfield 32, 3) := by decide +kernel
theorem rs_f_90_32 : rs_fd 90 32 = some (8, 10, 2) := by decide +kernel
theorem rs_d_90_28 : decode (rs_cd 90) 28 = .ok (.iload 4, 2) := by decide +kernel
theorem rs_d_90_30 : decode (rs_cd 90) 30 = .ok (.iaload, 1) := by decide +kernel
theorem rs_d_90_31 : decode (rs_cd 90) 31 = .ok (.iadd, 1) := by decide +kernel
theorem rs_d_90_32 : decode (rs_cd 90) 32 = .ok (.if_icmp .ge 125, 3) := by decide +kernel
theorem rs_d_90_35 : decode (rs_cd 90) 35 = .ok (.aload_n 0, 1) := by decide +kernel
theorem rs_d_90_36 : decode (rs_cd 90) 36 = .ok (.getfield 35, 3) := by decide +kernel
theorem rs_f_90_35 : rs_fd 90 35 = some (8, 11, 2) := by decide +kernel
theorem rs_d_90_39 : decode (rs_cd 90) 39 = .ok (.iload 6, 2) := by decide +kernel
theorem rs_d_90_41 : decode (rs_cd 90) 41 = .ok (.iaload, 1) := by decide +kernel
theorem rs_d_90_42 : decode (rs_cd 90) 42 = .ok (.aload_n 0, 1) := by decide +kernel
theorem rs_d_90_43 : decode (rs_cd 90) 43 = .ok (.getfield 50, 3) := by decide +kernel
theorem rs_f_90_50 : rs_fd 90 50 = some (8, 18, 2) := by decide +kernel
theorem rs_d_90_46 : decode (rs_cd 90) 46 = .ok (.iload 5, 2) := by decide +kernel
theorem rs_d_90_48 : decode (rs_cd 90) 48 = .ok (.iload_n 2, 1) := by decide +kernel
theorem rs_d_90_49 : decode (rs_cd 90) 49 = .ok (.iadd, 1) := by decide +kernel
theorem rs_d_90_50 : decode (rs_cd 90) 50 = .ok (.iaload, 1) := by decide +kernel
theorem rs_d_90_51 : decode (rs_cd 90) 51 = .ok (.aload_n 0, 1) := by decide +kernel
theorem rs_d_90_52 : decode (rs_cd 90) 52 = .ok (.getfield 53, 3) := by decide +kernel
theorem rs_f_90_53 : rs_fd 90 53 = some (8, 19, 2) := by decide +kernel
theorem rs_d_90_55 : decode (rs_cd 90) 55 = .ok (.iload 5, 2) := by decide +kernel
theorem rs_d_90_57 : decode (rs_cd 90) 57 = .ok (.iload_n 2, 1) := by decide +kernel
theorem rs_d_90_58 : decode (rs_cd 90) 58 = .ok (.iadd, 1) := by decide +kernel
theorem rs_d_90_59 : decode (rs_cd 90) 59 = .ok (.iaload, 1) := by decide +kernel
theorem rs_d_90_60 : decode (rs_cd 90) 60 = .ok (.invokestatic 89, 3) := by decide +kernel
theorem rs_t_90_89 : rs_tg 90 89 = some 62 := by decide +kernel
theorem rs_d_90_63 : decode (rs_cd 90) 63 = .ok (.ifCond .eq 60, 3) := by decide +kernel
theorem rs_d_90_66 : decode (rs_cd 90) 66 = .ok (.aload_n 0, 1) := by decide +kernel
theorem rs_d_90_67 : decode (rs_cd 90) 67 = .ok (.getfield 38, 3) := by decide +kernel
theorem rs_f_90_38 : rs_fd 90 38 = some (8, 12, 2) := by decide +kernel
theorem rs_d_90_70 : decode (rs_cd 90) 70 = .ok (.iload 6, 2) := by decide +kernel
theorem rs_d_90_72 : decode (rs_cd 90) 72 = .ok (.iaload, 1) := by decide +kernel
theorem rs_d_90_73 : decode (rs_cd 90) 73 = .ok (.aload_n 0, 1) := by decide +kernel
theorem rs_d_90_74 : decode (rs_cd 90) 74 = .ok (.getfield 50, 3) := by decide +kernel
theorem rs_d_90_77 : decode (rs_cd 90) 77 = .ok (.iload 5, 2) := by decide +kernel
theorem rs_d_90_79 : decode (rs_cd 90) 79 = .ok (.iload_n 3, 1) := by decide +kernel
theorem rs_d_90_80 : decode (rs_cd 90) 80 = .ok (.iadd, 1) := by decide +kernel
theorem rs_d_90_81 : decode (rs_cd 90) 81 = .ok (.iaload, 1) := by decide +kernel
theorem rs_d_90_82 : decode (rs_cd 90) 82 = .ok (.aload_n 0, 1) := by decide +kernel
theorem rs_d_90_83 : decode (rs_cd 90) 83 = .ok (.getfield 53, 3) := by decide +kernel
theorem rs_d_90_86 : decode (rs_cd 90) 86 = .ok (.iload 5, 2) := by decide +kernel
theorem rs_d_90_88 : decode (rs_cd 90) 88 = .ok (.iload_n 3, 1) := by decide +kernel
theorem rs_d_90_89 : decode (rs_cd 90) 89 = .ok (.iadd, 1) := by decide +kernel
theorem rs_d_90_90 : decode (rs_cd 90) 90 = .ok (.iaload, 1) := by decide +kernel
theorem rs_d_90_91 : decode (rs_cd 90) 91 = .ok (.invokestatic 89, 3) := by decide +kernel
theorem rs_d_90_94 : decode (rs_cd 90) 94 = .ok (.ifCond .eq 29, 3) := by decide +kernel
theorem rs_d_90_97 : decode (rs_cd 90) 97 = .ok (.iload_n 2, 1) := by decide +kernel
theorem rs_d_90_98 : decode (rs_cd 90) 98 = .ok (.iload_n 3, 1) := by decide +kernel
theorem rs_d_90_99 : decode (rs_cd 90) 99 = .ok (.if_icmp .ne 20, 3) := by decide +kernel
theorem rs_d_90_102 : decode (rs_cd 90) 102 = .ok (.aload_n 0, 1) := by decide +kernel
theorem rs_d_90_103 : decode (rs_cd 90) 103 = .ok (.getfield 35, 3) := by decide +kernel
theorem rs_d_90_106 : decode (rs_cd 90) 106 = .ok (.iload 6, 2) := by decide +kernel
theorem rs_d_90_108 : decode (rs_cd 90) 108 = .ok (.iaload, 1) := by decide +kernel
theorem rs_d_90_109 : decode (rs_cd 90) 109 = .ok (.aload_n 0, 1) := by decide +kernel
theorem rs_d_90_110 : decode (rs_cd 90) 110 = .ok (.getfield 38, 3) := by decide +kernel
theorem rs_d_90_113 : decode (rs_cd 90) 113 = .ok (.iload 6, 2) := by decide +kernel
theorem rs_d_90_115 : decode (rs_cd 90) 115 = .ok (.iaload, 1) := by decide +kernel
theorem rs_d_90_116 : decode (rs_cd 90) 116 = .ok (.if_icmp .ne 7, 3) := by decide +kernel
theorem rs_d_90_119 : decode (rs_cd 90) 119 = .ok (.iconst 1, 1) := by decide +kernel
theorem rs_d_90_120 : decode (rs_cd 90) 120 = .ok (.goto 4, 3) := by decide +kernel
theorem rs_d_90_123 : decode (rs_cd 90) 123 = .ok (.iconst 0, 1) := by decide +kernel
theorem rs_d_90_124 : decode (rs_cd 90) 124 = .ok (.istore 7, 2) := by decide +kernel
theorem rs_d_90_126 : decode (rs_cd 90) 126 = .ok (.iload 7, 2) := by decide +kernel
theorem rs_d_90_128 : decode (rs_cd 90) 128 = .ok (.ifCond .eq 23, 3) := by decide +kernel
theorem rs_d_90_131 : decode (rs_cd 90) 131 = .ok (.aload_n 0, 1) := by decide +kernel
theorem rs_d_90_132 : decode (rs_cd 90) 132 = .ok (.aload_n 0, 1) := by decide +kernel
theorem rs_d_90_133 : decode (rs_cd 90) 133 = .ok (.getfield 35, 3) := by decide +kernel
theorem rs_d_90_136 : decode (rs_cd 90) 136 = .ok (.iload 6, 2) := by decide +kernel
theorem rs_d_90_138 : decode (rs_cd 90) 138 = .ok (.iaload, 1) := by decide +kernel
theorem rs_d_90_139 : decode (rs_cd 90) 139 = .ok (.aload_n 0, 1) := by decide +kernel
theorem rs_d_90_140 : decode (rs_cd 90) 140 = .ok (.getfield 38, 3) := by decide +kernel
theorem rs_d_90_143 : decode (rs_cd 90) 143 = .ok (.iload 6, 2) := by decide +kernel
theorem rs_d_90_145 : decode (rs_cd 90) 145 = .ok (.iaload, 1) := by decide +kernel
theorem rs_d_90_146 : decode (rs_cd 90) 146 = .ok (.iconst 0, 1) := by decide +kernel
theorem rs_d_90_147 : decode (rs_cd 90) 147 = .ok (.iconst 0, 1) := by decide +kernel
theorem rs_d_90_148 : decode (rs_cd 90) 148 = .ok (.invokevirtual 156, 3) := by decide +kernel
theorem rs_t_90_156 : rs_tg 90 156 = some 79 := by decide +kernel
theorem rs_d_90_151 : decode (rs_cd 90) 151 = .ok (.iinc 6 1, 3) := by decide +kernel
theorem rs_d_90_154 : decode (rs_cd 90) 154 = .ok (.goto (-137), 3) := by decide +kernel
theorem rs_d_90_157 : decode (rs_cd 90) 157 = .ok (.aload_n 0, 1) := by decide +kernel
theorem rs_d_90_158 : decode (rs_cd 90) 158 = .ok (.iload_n 1, 1) := by decide +kernel
theorem rs_d_90_159 : decode (rs_cd 90) 159 = .ok (.iload_n 2, 1) := by decide +kernel
theorem rs_d_90_160 : decode (rs_cd 90) 160 = .ok (.aload_n 0, 1) := by decide +kernel
theorem rs_d_90_161 : decode (rs_cd 90) 161 = .ok (.getfield 127, 3) := by decide +kernel
theorem rs_f_90_127 : rs_fd 90 127 = some (8, 21, 0) := by decide +kernel
theorem rs_d_90_164 : decode (rs_cd 90) 164 = .ok (.aload_n 0, 1) := by decide +kernel
theorem rs_d_90_165 : decode (rs_cd 90) 165 = .ok (.getfield 136, 3) := by decide +kernel
theorem rs_f_90_136 : rs_fd 90 136 = some (8, 22, 0) := by decide +kernel
theorem rs_d_90_168 : decode (rs_cd 90) 168 = .ok (.invokevirtual 160, 3) := by decide +kernel
theorem rs_t_90_160 : rs_tg 90 160 = some 76 := by decide +kernel
theorem rs_d_90_171 : decode (rs_cd 90) 171 = .ok (.ifCond .eq 24, 3) := by decide +kernel
theorem rs_d_90_174 : decode (rs_cd 90) 174 = .ok (.aload_n 0, 1) := by decide +kernel
theorem rs_d_90_175 : decode (rs_cd 90) 175 = .ok (.iload_n 1, 1) := by decide +kernel
theorem rs_d_90_176 : decode (rs_cd 90) 176 = .ok (.iload_n 3, 1) := by decide +kernel
theorem rs_d_90_177 : decode (rs_cd 90) 177 = .ok (.aload_n 0, 1) := by decide +kernel
theorem rs_d_90_178 : decode (rs_cd 90) 178 = .ok (.getfield 130, 3) := by decide +kernel
theorem rs_f_90_130 : rs_fd 90 130 = some (8, 23, 0) := by decide +kernel
theorem rs_d_90_181 : decode (rs_cd 90) 181 = .ok (.aload_n 0, 1) := by decide +kernel
theorem rs_d_90_182 : decode (rs_cd 90) 182 = .ok (.getfield 139, 3) := by decide +kernel
theorem rs_f_90_139 : rs_fd 90 139 = some (8, 24, 0) := by decide +kernel
theorem rs_d_90_185 : decode (rs_cd 90) 185 = .ok (.invokevirtual 160, 3) := by decide +kernel
theorem rs_d_90_188 : decode (rs_cd 90) 188 = .ok (.ifCond .eq 7, 3) := by decide +kernel
theorem rs_d_90_191 : decode (rs_cd 90) 191 = .ok (.iconst 1, 1) := by decide +kernel
theorem rs_d_90_192 : decode (rs_cd 90) 192 = .ok (.goto 4, 3) := by decide +kernel
theorem rs_d_90_195 : decode (rs_cd 90) 195 = .ok (.iconst 0, 1) := by decide +kernel
theorem rs_d_90_196 : decode (rs_cd 90) 196 = .ok (.ireturn, 1) := by decide +kernel
theorem rs_d_91_0 : decode (rs_cd 91) 0 = .ok (.iconst 0, 1) := by decide +kernel
theorem rs_d_91_1 : decode (rs_cd 91) 1 = .ok (.istore 5, 2) := by decide +kernel
theorem rs_d_91_3 : decode (rs_cd 91) 3 = .ok (.iconst 0, 1) := by decide +kernel
theorem rs_d_91_4 : decode (rs_cd 91) 4 = .ok (.istore 6, 2) := by decide +kernel
theorem rs_d_91_6 : decode (rs_cd 91) 6 = .ok (.iload 6, 2) := by decide +kernel
theorem rs_d_91_8 : decode (rs_cd 91) 8 = .ok (.bipush 10, 2) := by decide +kernel
theorem rs_d_91_10 : decode (rs_cd 91) 10 = .ok (.if_icmp .ge 57, 3) := by decide +kernel
theorem rs_d_91_13 : decode (rs_cd 91) 13 = .ok (.aload_n 0, 1) := by decide +kernel
theorem rs_d_91_14 : decode (rs_cd 91) 14 = .ok (.getfield 56, 3) := by decide +kernel
theorem rs_f_91_56 : rs_fd 91 56 = some (8, 27, 2) := by decide +kernel
theorem rs_d_91_17 : decode (rs_cd 91) 17 = .ok (.iload 6, 2) := by decide +kernel
theorem rs_d_91_19 : decode (rs_cd 91) 19 = .ok (.iload_n 2, 1) := by decide +kernel
theorem rs_d_91_20 : decode (rs_cd 91) 20 = .ok (.iload 6, 2) := by decide +kernel
theorem rs_d_91_22 : decode (rs_cd 91) 22 = .ok (.invokestatic 113, 3) := by decide +kernel
theorem rs_t_91_113 : rs_tg 91 113 = some 74 := by decide +kernel
theorem rs_d_91_25 : decode (rs_cd 91) 25 = .ok (.ifCond .eq 9, 3) := by decide +kernel
theorem rs_d_91_28 : decode (rs_cd 91) 28 = .ok (.iload 6, 2) := by decide +kernel
theorem rs_d_91_30 : decode (rs_cd 91) 30 = .ok (.iload_n 3, 1) := by decide +kernel
theorem rs_d_91_31 : decode (rs_cd 91) 31 = .ok (.if_icmp .ne 7, 3) := by decide +kernel
theorem rs_d_91_34 : decode (rs_cd 91) 34 = .ok (.iconst 1, 1) := by decide +kernel
theorem rs_d_91_35 : decode (rs_cd 91) 35 = .ok (.goto 4, 3) := by decide +kernel
theorem rs_d_91_38 : decode (rs_cd 91) 38 = .ok (.iconst 0, 1) := by decide +kernel
theorem rs_d_91_39 : decode (rs_cd 91) 39 = .ok (.bastore, 1) := by decide +kernel
theorem rs_d_91_40 : decode (rs_cd 91) 40 = .ok (.aload_n 0, 1) := by decide +kernel
theorem rs_d_91_41 : decode (rs_cd 91) 41 = .ok (.getfield 56, 3) := by decide +kernel
theorem rs_d_91_44 : decode (rs_cd 91) 44 = .ok (.iload 6, 2) := by decide +kernel
theorem rs_d_91_46 : decode (rs_cd 91) 46 = .ok (.baload, 1) := by decide +kernel
theorem rs_d_91_47 : decode (rs_cd 91) 47 = .ok (.ifCond .eq 8, 3) := by decide +kernel
theorem rs_d_91_50 : decode (rs_cd 91) 50 = .ok (.iload 5, 2) := by decide +kernel
theorem rs_d_91_52 : decode (rs_cd 91) 52 = .ok (.goto 7, 3) := by decide +kernel
theorem rs_d_91_55 : decode (rs_cd 91) 55 = .ok (.iload 5, 2) := by decide +kernel
theorem rs_d_91_57 : decode (rs_cd 91) 57 = .ok (.iconst 1, 1) := by decide +kernel
theorem rs_d_91_58 : decode (rs_cd 91) 58 = .ok (.iadd, 1) := by decide +kernel
theorem rs_d_91_59 : decode (rs_cd 91) 59 = .ok (.istore 5, 2) := by decide +kernel
theorem rs_d_91_61 : decode (rs_cd 91) 61 = .ok (.iinc 6 1, 3) := by decide +kernel
theorem rs_d_91_64 : decode (rs_cd 91) 64 = .ok (.goto (-58), 3) := by decide +kernel
theorem rs_d_91_67 : decode (rs_cd 91) 67 = .ok (.bipush (-100), 2) := by decide +kernel
theorem rs_d_91_69 : decode (rs_cd 91) 69 = .ok (.istore 6, 2) := by decide +kernel
theorem rs_d_91_71 : decode (rs_cd 91) 71 = .ok (.iload 5, 2) := by decide +kernel
theorem rs_d_91_73 : decode (rs_cd 91) 73 = .ok (.ifCond .le 195, 3) := by decide +kernel
theorem rs_d_91_76 : decode (rs_cd 91) 76 = .ok (.iload 6, 2) := by decide +kernel
theorem rs_d_91_78 : decode (rs_cd 91) 78 = .ok (.bipush 100, 2) := by decide +kernel
theorem rs_d_91_80 : decode (rs_cd 91) 80 = .ok (.if_icmp .gt 188, 3) := by decide +kernel
theorem rs_d_91_83 : decode (rs_cd 91) 83 = .ok (.iconst (-1), 1) := by decide +kernel
theorem rs_d_91_84 : decode (rs_cd 91) 84 = .ok (.istore 7, 2) := by decide +kernel
theorem rs_d_91_86 : decode (rs_cd 91) 86 = .ok (.sipush 400, 3) := by decide +kernel
theorem rs_d_91_89 : decode (rs_cd 91) 89 = .ok (.istore 8, 2) := by decide +kernel
theorem rs_d_91_91 : decode (rs_cd 91) 91 = .ok (.iconst 0, 1) := by decide +kernel
theorem rs_d_91_92 : decode (rs_cd 91) 92 = .ok (.istore 9, 2) := by decide +kernel
theorem rs_d_91_94 : decode (rs_cd 91) 94 = .ok (.iload 9, 2) := by decide +kernel
theorem rs_d_91_96 : decode (rs_cd 91) 96 = .ok (.bipush 10, 2) := by decide +kernel
theorem rs_d_91_98 : decode (rs_cd 91) 98 = .ok (.if_icmp .ge 128, 3) := by decide +kernel
theorem rs_d_91_101 : decode (rs_cd 91) 101 = .ok (.aload_n 0, 1) := by decide +kernel
theorem rs_d_91_102 : decode (rs_cd 91) 102 = .ok (.getfield 50, 3) := by decide +kernel
theorem rs_f_91_50 : rs_fd 91 50 = some (8, 18, 2) := by decide +kernel
theorem rs_d_91_105 : decode (rs_cd 91) 105 = .ok (.bipush 10, 2) := by decide +kernel
theorem rs_d_91_107 : decode (rs_cd 91) 107 = .ok (.iload_n 1, 1) := by decide +kernel
theorem rs_d_91_108 : decode (rs_cd 91) 108 = .ok (.imul, 1) := by decide +kernel
theorem rs_d_91_109 : decode (rs_cd 91) 109 = .ok (.iload 9, 2) := by decide +kernel
theorem rs_d_91_111 : decode (rs_cd 91) 111 = .ok (.iadd, 1) := by decide +kernel
theorem rs_d_91_112 : decode (rs_cd 91) 112 = .ok (.iaload, 1) := by decide +kernel
theorem rs_d_91_113 : decode (rs_cd 91) 113 = .ok (.istore 10, 2) := by decide +kernel
theorem rs_d_91_115 : decode (rs_cd 91) 115 = .ok (.aload_n 0, 1) := by decide +kernel
theorem rs_d_91_116 : decode (rs_cd 91) 116 = .ok (.getfield 53, 3) := by decide +kernel
theorem rs_f_91_53 : rs_fd 91 53 = some (8, 19, 2) := by decide +kernel
theorem rs_d_91_119 : decode (rs_cd 91) 119 = .ok (.bipush 10, 2) := by decide +kernel
theorem rs_d_91_121 : decode (rs_cd 91) 121 = .ok (.iload_n 1, 1) := by decide +kernel
theorem rs_d_91_122 : decode (rs_cd 91) 122 = .ok (.imul, 1) := by decide +kernel
theorem rs_d_91_123 : decode (rs_cd 91) 123 = .ok (.iload 9, 2) := by decide +kernel
theorem rs_d_91_125 : decode (rs_cd 91) 125 = .ok (.iadd, 1) := by decide +kernel
theorem rs_d_91_126 : decode (rs_cd 91) 126 = .ok (.iaload, 1) := by decide +kernel
theorem rs_d_91_127 : decode (rs_cd 91) 127 = .ok (.istore 11, 2) := by decide +kernel
theorem rs_d_91_129 : decode (rs_cd 91) 129 = .ok (.aload_n 0, 1) := by decide +kernel
theorem rs_d_91_130 : decode (rs_cd 91) 130 = .ok (.getfield 56, 3) := by decide +kernel
theorem rs_d_91_133 : decode (rs_cd 91) 133 = .ok (.iload 9, 2) := by decide +kernel
theorem rs_d_91_135 : decode (rs_cd 91) 135 = .ok (.baload, 1) := by decide +kernel
theorem rs_d_91_136 : decode (rs_cd 91) 136 = .ok (.ifCond .ne 12, 3) := by decide +kernel
theorem rs_d_91_139 : decode (rs_cd 91) 139 = .ok (.iload 11, 2) := by decide +kernel
theorem rs_d_91_141 : decode (rs_cd 91) 141 = .ok (.iload 6, 2) := by decide +kernel
theorem rs_d_91_143 : decode (rs_cd 91) 143 = .ok (.if_icmp .ge 5, 3) := by decide +kernel
theorem rs_d_91_146 : decode (rs_cd 91) 146 = .ok (.iconst 0, 1) := by decide +kernel
theorem rs_d_91_147 : decode (rs_cd 91) 147 = .ok (.ireturn, 1) := by decide +kernel
theorem rs_d_91_148 : decode (rs_cd 91) 148 = .ok (.aload_n 0, 1) := by decide +kernel
theorem rs_d_91_149 : decode (rs_cd 91) 149 = .ok (.getfield 56, 3) := by decide +kernel
theorem rs_d_91_152 : decode (rs_cd 91) 152 = .ok (.iload 9, 2) := by decide +kernel
theorem rs_d_91_154 : decode (rs_cd 91) 154 = .ok (.baload, 1) := by decide +kernel
theorem rs_d_91_155 : decode (rs_cd 91) 155 = .ok (.ifCond .ne 13, 3) := by decide +kernel
theorem rs_d_91_158 : decode (rs_cd 91) 158 = .ok (.iload 8, 2) := by decide +kernel
theorem rs_d_91_160 : decode (rs_cd 91) 160 = .ok (.iload 10, 2) := by decide +kernel
theorem rs_d_91_162 : decode (rs_cd 91) 162 = .ok (.invokestatic 124, 3) := by decide +kernel
theorem rs_t_91_124 : rs_tg 91 124 = some 63 := by decide +kernel
theorem rs_d_91_165 : decode (rs_cd 91) 165 = .ok (.goto 5, 3) := by decide +kernel
theorem rs_d_91_168 : decode (rs_cd 91) 168 = .ok (.iload 8, 2) := by decide +kernel
theorem rs_d_91_170 : decode (rs_cd 91) 170 = .ok (.istore 8, 2) := by decide +kernel
theorem rs_d_91_172 : decode (rs_cd 91) 172 = .ok (.aload_n 0, 1) := by decide +kernel
theorem rs_d_91_173 : decode (rs_cd 91) 173 = .ok (.getfield 56, 3) := by decide +kernel
theorem rs_d_91_176 : decode (rs_cd 91) 176 = .ok (.iload 9, 2) := by decide +kernel
theorem rs_d_91_178 : decode (rs_cd 91) 178 = .ok (.baload, 1) := by decide +kernel
theorem rs_d_91_179 : decode (rs_cd 91) 179 = .ok (.ifCond .ne 37, 3) := by decide +kernel
theorem rs_d_91_182 : decode (rs_cd 91) 182 = .ok (.iload 10, 2) := by decide +kernel
theorem rs_d_91_184 : decode (rs_cd 91) 184 = .ok (.iload 6, 2) := by decide +kernel
theorem rs_d_91_186 : decode (rs_cd 91) 186 = .ok (.if_icmp .gt 30, 3) := by decide +kernel
theorem rs_d_91_189 : decode (rs_cd 91) 189 = .ok (.iload 7, 2) := by decide +kernel
theorem rs_d_91_191 : decode (rs_cd 91) 191 = .ok (.ifCond .lt 20, 3) := by decide +kernel
theorem rs_d_91_194 : decode (rs_cd 91) 194 = .ok (.iload 11, 2) := by decide +kernel
theorem rs_d_91_196 : decode (rs_cd 91) 196 = .ok (.aload_n 0, 1) := by decide +kernel
theorem rs_d_91_197 : decode (rs_cd 91) 197 = .ok (.getfield 53, 3) := by decide +kernel
theorem rs_d_91_200 : decode (rs_cd 91) 200 = .ok (.bipush 10, 2) := by decide +kernel
theorem rs_d_91_202 : decode (rs_cd 91) 202 = .ok (.iload_n 1, 1) := by decide +kernel
theorem rs_d_91_203 : decode (rs_cd 91) 203 = .ok (.imul, 1) := by decide +kernel
theorem rs_d_91_204 : decode (rs_cd 91) 204 = .ok (.iload 7, 2) := by decide +kernel
theorem rs_d_91_206 : decode (rs_cd 91) 206 = .ok (.iadd, 1) := by decide +kernel
theorem rs_d_91_207 : decode (rs_cd 91) 207 = .ok (.iaload, 1) := by decide +kernel
theorem rs_d_91_208 : decode (rs_cd 91) 208 = .ok (.if_icmp .ge 8, 3) := by decide +kernel
theorem rs_d_91_211 : decode (rs_cd 91) 211 = .ok (.iload 9, 2) := by decide +kernel
theorem rs_d_91_213 : decode (rs_cd 91) 213 = .ok (.goto 5, 3) := by decide +kernel
theorem rs_d_91_216 : decode (rs_cd 91) 216 = .ok (.iload 7, 2) := by decide +kernel
theorem rs_d_91_218 : decode (rs_cd 91) 218 = .ok (.istore 7, 2) := by decide +kernel
theorem rs_d_91_220 : decode (rs_cd 91) 220 = .ok (.iinc 9 1, 3) := by decide +kernel
theorem rs_d_91_223 : decode (rs_cd 91) 223 = .ok (.goto (-129), 3) := by decide +kernel
theorem rs_d_91_226 : decode (rs_cd 91) 226 = .ok (.iload 7, 2) := by decide +kernel
theorem rs_d_91_228 : decode (rs_cd 91) 228 = .ok (.ifCond .lt 21, 3) := by decide +kernel
theorem rs_d_91_231 : decode (rs_cd 91) 231 = .ok (.iload 6, 2) := by decide +kernel
theorem rs_d_91_233 : decode (rs_cd 91) 233 = .ok (.iload 4, 2) := by decide +kernel
theorem rs_d_91_235 : decode (rs_cd 91) 235 = .ok (.if_icmp .eq 14, 3) := by decide +kernel
theorem rs_d_91_238 : decode (rs_cd 91) 238 = .ok (.aload_n 0, 1) := by decide +kernel
theorem rs_d_91_239 : decode (rs_cd 91) 239 = .ok (.getfield 56, 3) := by decide +kernel
theorem rs_d_91_242 : decode (rs_cd 91) 242 = .ok (.iload 7, 2) := by decide +kernel
theorem rs_d_91_244 : decode (rs_cd 91) 244 = .ok (.iconst 1, 1) := by decide +kernel
theorem rs_d_91_245 : decode (rs_cd 91) 245 = .ok (.bastore, 1) := by decide +kernel
theorem rs_d_91_246 : decode (rs_cd 91) 246 = .ok (.iinc 5 (-1), 3) := by decide +kernel
theorem rs_d_91_249 : decode (rs_cd 91) 249 = .ok (.iload 7, 2) := by decide +kernel
theorem rs_d_91_251 : decode (rs_cd 91) 251 = .ok (.ifCond .ge 8, 3) := by decide +kernel
theorem rs_d_91_254 : decode (rs_cd 91) 254 = .ok (.iload 8, 2) := by decide +kernel
theorem rs_d_91_256 : decode (rs_cd 91) 256 = .ok (.goto 7, 3) := by decide +kernel
theorem rs_d_91_259 : decode (rs_cd 91) 259 = .ok (.iload 6, 2) := by decide +kernel
theorem rs_d_91_261 : decode (rs_cd 91) 261 = .ok (.iconst 1, 1) := by decide +kernel
theorem rs_d_91_262 : decode (rs_cd 91) 262 = .ok (.iadd, 1) := by decide +kernel
theorem rs_d_91_263 : decode (rs_cd 91) 263 = .ok (.istore 6, 2) := by decide +kernel
theorem rs_d_91_265 : decode (rs_cd 91) 265 = .ok (.goto (-194), 3) := by decide +kernel
theorem rs_d_91_268 : decode (rs_cd 91) 268 = .ok (.iload 5, 2) := by decide +kernel
theorem rs_d_91_270 : decode (rs_cd 91) 270 = .ok (.ifCond .ne 7, 3) := by decide +kernel
theorem rs_d_91_273 : decode (rs_cd 91) 273 = .ok (.iconst 1, 1) := by decide +kernel
theorem rs_d_91_274 : decode (rs_cd 91) 274 = .ok (.goto 4, 3) := by decide +kernel
theorem rs_d_91_277 : decode (rs_cd 91) 277 = .ok (.iconst 0, 1) := by decide +kernel
theorem rs_d_91_278 : decode (rs_cd 91) 278 = .ok (.ireturn, 1) := by decide +kernel
theorem rs_d_92_0 : decode (rs_cd 92) 0 = .ok (.iconst 0, 1) := by decide +kernel
theorem rs_d_92_1 : decode (rs_cd 92) 1 = .ok (.istore_n 3, 1) := by decide +kernel
theorem rs_d_92_2 : decode (rs_cd 92) 2 = .ok (.iload_n 3, 1) := by decide +kernel
theorem rs_d_92_3 : decode (rs_cd 92) 3 = .ok (.bipush 10, 2) := by decide +kernel
theorem rs_d_92_5 : decode (rs_cd 92) 5 = .ok (.if_icmp .ge 113, 3) := by decide +kernel
theorem rs_d_92_8 : decode (rs_cd 92) 8 = .ok (.bipush 10, 2) := by decide +kernel
theorem rs_d_92_10 : decode (rs_cd 92) 10 = .ok (.iload_n 1, 1) := by decide +kernel
theorem rs_d_92_11 : decode (rs_cd 92) 11 = .ok (.imul, 1) := by decide +kernel
theorem rs_d_92_12 : decode (rs_cd 92) 12 = .ok (.iload_n 3, 1) := by decide +kernel
theorem rs_d_92_13 : decode (rs_cd 92) 13 = .ok (.iadd, 1) := by decide +kernel
theorem rs_d_92_14 : decode (rs_cd 92) 14 = .ok (.istore 4, 2) := by decide +kernel
theorem rs_d_92_16 : decode (rs_cd 92) 16 = .ok (.iload_n 2, 1) := by decide +kernel
theorem rs_d_92_17 : decode (rs_cd 92) 17 = .ok (.iload_n 3, 1) := by decide +kernel
theorem rs_d_92_18 : decode (rs_cd 92) 18 = .ok (.invokestatic 113, 3) := by decide +kernel
theorem rs_t_92_113 : rs_tg 92 113 = some 74 := by decide +kernel
theorem rs_d_92_21 : decode (rs_cd 92) 21 = .ok (.ifCond .eq 91, 3) := by decide +kernel
theorem rs_d_92_24 : decode (rs_cd 92) 24 = .ok (.aload_n 0, 1) := by decide +kernel
theorem rs_d_92_25 : decode (rs_cd 92) 25 = .ok (.getfield 50, 3) := by decide +kernel
theorem rs_f_92_50 : rs_fd 92 50 = some (8, 18, 2) := by decide +kernel
theorem rs_d_92_28 : decode (rs_cd 92) 28 = .ok (.iload 4, 2) := by decide +kernel
theorem rs_d_92_30 : decode (rs_cd 92) 30 = .ok (.iaload, 1) := by decide +kernel
theorem rs_d_92_31 : decode (rs_cd 92) 31 = .ok (.istore 5, 2) := by decide +kernel
theorem rs_d_92_33 : decode (rs_cd 92) 33 = .ok (.iload 5, 2) := by decide +kernel
theorem rs_d_92_35 : decode (rs_cd 92) 35 = .ok (.aload_n 0, 1) := by decide +kernel
theorem rs_d_92_36 : decode (rs_cd 92) 36 = .ok (.getfield 53, 3) := by decide +kernel
theorem rs_f_92_53 : rs_fd 92 53 = some (8, 19, 2) := by decide +kernel
theorem rs_d_92_39 : decode (rs_cd 92) 39 = .ok (.iload 4, 2) := by decide +kernel
theorem rs_d_92_41 : decode (rs_cd 92) 41 = .ok (.iaload, 1) := by decide +kernel
theorem rs_d_92_42 : decode (rs_cd 92) 42 = .ok (.if_icmp .gt 21, 3) := by decide +kernel
theorem rs_d_92_45 : decode (rs_cd 92) 45 = .ok (.aload_n 0, 1) := by decide +kernel
theorem rs_d_92_46 : decode (rs_cd 92) 46 = .ok (.iload_n 1, 1) := by decide +kernel
theorem rs_d_92_47 : decode (rs_cd 92) 47 = .ok (.iload_n 2, 1) := by decide +kernel
theorem rs_d_92_48 : decode (rs_cd 92) 48 = .ok (.iload_n 3, 1) := by decide +kernel
theorem rs_d_92_49 : decode (rs_cd 92) 49 = .ok (.iload 5, 2) := by decide +kernel
theorem rs_d_92_51 : decode (rs_cd 92) 51 = .ok (.invokevirtual 178, 3) := by decide +kernel
theorem rs_t_92_178 : rs_tg 92 178 = some 91 := by decide +kernel
theorem rs_d_92_54 : decode (rs_cd 92) 54 = .ok (.ifCond .ne 9, 3) := by decide +kernel
theorem rs_d_92_57 : decode (rs_cd 92) 57 = .ok (.iinc 5 1, 3) := by decide +kernel
theorem rs_d_92_60 : decode (rs_cd 92) 60 = .ok (.goto (-27), 3) := by decide +kernel
theorem rs_d_92_63 : decode (rs_cd 92) 63 = .ok (.aload_n 0, 1) := by decide +kernel
theorem rs_d_92_64 : decode (rs_cd 92) 64 = .ok (.getfield 53, 3) := by decide +kernel
theorem rs_d_92_67 : decode (rs_cd 92) 67 = .ok (.iload 4, 2) := by decide +kernel
theorem rs_d_92_69 : decode (rs_cd 92) 69 = .ok (.iaload, 1) := by decide +kernel
theorem rs_d_92_70 : decode (rs_cd 92) 70 = .ok (.istore 6, 2) := by decide +kernel
theorem rs_d_92_72 : decode (rs_cd 92) 72 = .ok (.iload 6, 2) := by decide +kernel
theorem rs_d_92_74 : decode (rs_cd 92) 74 = .ok (.iload 5, 2) := by decide +kernel
theorem rs_d_92_76 : decode (rs_cd 92) 76 = .ok (.if_icmp .lt 21, 3) := by decide +kernel
theorem rs_d_92_79 : decode (rs_cd 92) 79 = .ok (.aload_n 0, 1) := by decide +kernel
theorem rs_d_92_80 : decode (rs_cd 92) 80 = .ok (.iload_n 1, 1) := by decide +kernel
theorem rs_d_92_81 : decode (rs_cd 92) 81 = .ok (.iload_n 2, 1) := by decide +kernel
theorem rs_d_92_82 : decode (rs_cd 92) 82 = .ok (.iload_n 3, 1) := by decide +kernel
theorem rs_d_92_83 : decode (rs_cd 92) 83 = .ok (.iload 6, 2) := by decide +kernel
theorem rs_d_92_85 : decode (rs_cd 92) 85 = .ok (.invokevirtual 178, 3) := by decide +kernel
theorem rs_d_92_88 : decode (rs_cd 92) 88 = .ok (.ifCond .ne 9, 3) := by decide +kernel
theorem rs_d_92_91 : decode (rs_cd 92) 91 = .ok (.iinc 6 (-1), 3) := by decide +kernel
theorem rs_d_92_94 : decode (rs_cd 92) 94 = .ok (.goto (-22), 3) := by decide +kernel
theorem rs_d_92_97 : decode (rs_cd 92) 97 = .ok (.aload_n 0, 1) := by decide +kernel
theorem rs_d_92_98 : decode (rs_cd 92) 98 = .ok (.iload_n 1, 1) := by decide +kernel
theorem rs_d_92_99 : decode (rs_cd 92) 99 = .ok (.iload_n 3, 1) := by decide +kernel
theorem rs_d_92_100 : decode (rs_cd 92) 100 = .ok (.iload 5, 2) := by decide +kernel
theorem rs_d_92_102 : decode (rs_cd 92) 102 = .ok (.iload 6, 2) := by decide +kernel
theorem rs_d_92_104 : decode (rs_cd 92) 104 = .ok (.invokevirtual 160, 3) := by decide +kernel
theorem rs_t_92_160 : rs_tg 92 160 = some 76 := by decide +kernel
theorem rs_d_92_107 : decode (rs_cd 92) 107 = .ok (.ifCond .ne 5, 3) := by decide +kernel
theorem rs_d_92_110 : decode (rs_cd 92) 110 = .ok (.iconst 0, 1) := by decide +kernel
theorem rs_d_92_111 : decode (rs_cd 92) 111 = .ok (.ireturn, 1) := by decide +kernel
theorem rs_d_92_112 : decode (rs_cd 92) 112 = .ok (.iinc 3 1, 3) := by decide +kernel
theorem rs_d_92_115 : decode (rs_cd 92) 115 = .ok (.goto (-113), 3) := by decide +kernel
theorem rs_d_92_118 : decode (rs_cd 92) 118 = .ok (.iconst 1, 1) := by decide +kernel
theorem rs_d_92_119 : decode (rs_cd 92) 119 = .ok (.ireturn, 1) := by decide +kernel
theorem rs_d_93_0 : decode (rs_cd 93) 0 = .ok (.aload_n 0, 1) := by decide +kernel
theorem rs_d_93_1 : decode (rs_cd 93) 1 = .ok (.getfield 16, 3) := by decide +kernel
theorem rs_f_93_16 : rs_fd 93 16 = some (8, 5, 2) := by decide +kernel
theorem rs_d_93_4 : decode (rs_cd 93) 4 = .ok (.iload_n 1, 1) := by decide +kernel
theorem rs_d_93_5 : decode (rs_cd 93) 5 = .ok (.iaload, 1) := by decide +kernel
theorem rs_d_93_6 : decode (rs_cd 93) 6 = .ok (.istore_n 3, 1) := by decide +kernel
theorem rs_d_93_7 : decode (rs_cd 93) 7 = .ok (.aload_n 0, 1) := by decide +kernel
theorem rs_d_93_8 : decode (rs_cd 93) 8 = .ok (.getfield 19, 3) := by decide +kernel
theorem rs_f_93_19 : rs_fd 93 19 = some (8, 6, 2) := by decide +kernel
theorem rs_d_93_11 : decode (rs_cd 93) 11 = .ok (.iload_n 1, 1) := by decide +kernel
theorem rs_d_93_12 : decode (rs_cd 93) 12 = .ok (.iaload, 1) := by decide +kernel
theorem rs_d_93_13 : decode (rs_cd 93) 13 = .ok (.istore 4, 2) := by decide +kernel
theorem rs_d_93_15 : decode (rs_cd 93) 15 = .ok (.aload_n 0, 1) := by decide +kernel
theorem rs_d_93_16 : decode (rs_cd 93) 16 = .ok (.getfield 22, 3) := by decide +kernel
theorem rs_f_93_22 : rs_fd 93 22 = some (8, 7, 2) := by decide +kernel
theorem rs_d_93_19 : decode (rs_cd 93) 19 = .ok (.iload_n 1, 1) := by decide +kernel
theorem rs_d_93_20 : decode (rs_cd 93) 20 = .ok (.iaload, 1) := by decide +kernel
theorem rs_d_93_21 : decode (rs_cd 93) 21 = .ok (.istore 5, 2) := by decide +kernel
theorem rs_d_93_23 : decode (rs_cd 93) 23 = .ok (.aload_n 0, 1) := by decide +kernel
theorem rs_d_93_24 : decode (rs_cd 93) 24 = .ok (.getfield 25, 3) := by decide +kernel
theorem rs_f_93_25 : rs_fd 93 25 = some (8, 8, 2) := by decide +kernel
theorem rs_d_93_27 : decode (rs_cd 93) 27 = .ok (.iload_n 1, 1) := by decide +kernel
theorem rs_d_93_28 : decode (rs_cd 93) 28 = .ok (.iaload, 1) := by decide +kernel
theorem rs_d_93_29 : decode (rs_cd 93) 29 = .ok (.istore 6, 2) := by decide +kernel
theorem rs_d_93_31 : decode (rs_cd 93) 31 = .ok (.iload_n 3, 1) := by decide +kernel
theorem rs_d_93_32 : decode (rs_cd 93) 32 = .ok (.bipush 7, 2) := by decide +kernel
theorem rs_d_93_34 : decode (rs_cd 93) 34 = .ok (.if_icmp .ne 11, 3) := by decide +kernel
theorem rs_d_93_37 : decode (rs_cd 93) 37 = .ok (.aload_n 0, 1) := by decide +kernel
theorem rs_d_93_38 : decode (rs_cd 93) 38 = .ok (.iload_n 2, 1) := by decide +kernel
theorem rs_d_93_39 : decode (rs_cd 93) 39 = .ok (.iload 4, 2) := by decide +kernel
theorem rs_d_93_41 : decode (rs_cd 93) 41 = .ok (.invokevirtual 181, 3) := by decide +kernel
theorem rs_t_93_181 : rs_tg 93 181 = some 92 := by decide +kernel
theorem rs_d_93_44 : decode (rs_cd 93) 44 = .ok (.ireturn, 1) := by decide +kernel
theorem rs_d_93_45 : decode (rs_cd 93) 45 = .ok (.iload_n 3, 1) := by decide +kernel
theorem rs_d_93_46 : decode (rs_cd 93) 46 = .ok (.bipush 7, 2) := by decide +kernel
theorem rs_d_93_48 : decode (rs_cd 93) 48 = .ok (.if_icmp .le 15, 3) := by decide +kernel
theorem rs_d_93_51 : decode (rs_cd 93) 51 = .ok (.aload_n 0, 1) := by decide +kernel
theorem rs_d_93_52 : decode (rs_cd 93) 52 = .ok (.iload_n 2, 1) := by decide +kernel
theorem rs_d_93_53 : decode (rs_cd 93) 53 = .ok (.iload 4, 2) := by decide +kernel
theorem rs_d_93_55 : decode (rs_cd 93) 55 = .ok (.iload 5, 2) := by decide +kernel
theorem rs_d_93_57 : decode (rs_cd 93) 57 = .ok (.iload 6, 2) := by decide +kernel
theorem rs_d_93_59 : decode (rs_cd 93) 59 = .ok (.invokevirtual 184, 3) := by decide +kernel
theorem rs_t_93_184 : rs_tg 93 184 = some 90 := by decide +kernel
theorem rs_d_93_62 : decode (rs_cd 93) 62 = .ok (.ireturn, 1) := by decide +kernel
theorem rs_d_93_63 : decode (rs_cd 93) 63 = .ok (.iload_n 3, 1) := by decide +kernel
theorem rs_d_93_64 : decode (rs_cd 93) 64 = .ok (.iconst 5, 1) := by decide +kernel
theorem rs_d_93_65 : decode (rs_cd 93) 65 = .ok (.if_icmp .ne 15, 3) := by decide +kernel
theorem rs_d_93_68 : decode (rs_cd 93) 68 = .ok (.aload_n 0, 1) := by decide +kernel
theorem rs_d_93_69 : decode (rs_cd 93) 69 = .ok (.iload_n 2, 1) := by decide +kernel
theorem rs_d_93_70 : decode (rs_cd 93) 70 = .ok (.iload 4, 2) := by decide +kernel
theorem rs_d_93_72 : decode (rs_cd 93) 72 = .ok (.iload 5, 2) := by decide +kernel
theorem rs_d_93_74 : decode (rs_cd 93) 74 = .ok (.iload 6, 2) := by decide +kernel
theorem rs_d_93_76 : decode (rs_cd 93) 76 = .ok (.invokevirtual 187, 3) := by decide +kernel
theorem rs_t_93_187 : rs_tg 93 187 = some 89 := by decide +kernel
theorem rs_d_93_79 : decode (rs_cd 93) 79 = .ok (.ireturn, 1) := by decide +kernel
theorem rs_d_93_80 : decode (rs_cd 93) 80 = .ok (.iload 4, 2) := by decide +kernel
theorem rs_d_93_82 : decode (rs_cd 93) 82 = .ok (.iload 5, 2) := by decide +kernel
theorem rs_d_93_84 : decode (rs_cd 93) 84 = .ok (.if_icmp .eq 21, 3) := by decide +kernel
theorem rs_d_93_87 : decode (rs_cd 93) 87 = .ok (.iload 4, 2) := by decide +kernel
theorem rs_d_93_89 : decode (rs_cd 93) 89 = .ok (.iload 6, 2) := by decide +kernel
theorem rs_d_93_91 : decode (rs_cd 93) 91 = .ok (.if_icmp .eq 14, 3) := by decide +kernel
theorem rs_d_93_94 : decode (rs_cd 93) 94 = .ok (.iload 5, 2) := by decide +kernel
theorem rs_d_93_96 : decode (rs_cd 93) 96 = .ok (.iload 6, 2) := by decide +kernel
theorem rs_d_93_98 : decode (rs_cd 93) 98 = .ok (.if_icmp .eq 7, 3) := by decide +kernel
theorem rs_d_93_101 : decode (rs_cd 93) 101 = .ok (.iconst 1, 1) := by decide +kernel
theorem rs_d_93_102 : decode (rs_cd 93) 102 = .ok (.goto 4, 3) := by decide +kernel
theorem rs_d_93_105 : decode (rs_cd 93) 105 = .ok (.iconst 0, 1) := by decide +kernel
theorem rs_d_93_106 : decode (rs_cd 93) 106 = .ok (.istore 7, 2) := by decide +kernel
theorem rs_d_93_108 : decode (rs_cd 93) 108 = .ok (.iload 7, 2) := by decide +kernel
theorem rs_d_93_110 : decode (rs_cd 93) 110 = .ok (.ifCond .eq 13, 3) := by decide +kernel
theorem rs_d_93_113 : decode (rs_cd 93) 113 = .ok (.iload_n 3, 1) := by decide +kernel
theorem rs_d_93_114 : decode (rs_cd 93) 114 = .ok (.iconst 1, 1) := by decide +kernel
theorem rs_d_93_115 : decode (rs_cd 93) 115 = .ok (.if_icmp .eq 8, 3) := by decide +kernel
theorem rs_d_93_118 : decode (rs_cd 93) 118 = .ok (.iload_n 3, 1) := by decide +kernel
theorem rs_d_93_119 : decode (rs_cd 93) 119 = .ok (.iconst 2, 1) := by decide +kernel
theorem rs_d_93_120 : decode (rs_cd 93) 120 = .ok (.if_icmp .ne 10, 3) := by decide +kernel
theorem rs_d_93_123 : decode (rs_cd 93) 123 = .ok (.aload_n 0, 1) := by decide +kernel
theorem rs_d_93_124 : decode (rs_cd 93) 124 = .ok (.iload_n 1, 1) := by decide +kernel
theorem rs_d_93_125 : decode (rs_cd 93) 125 = .ok (.iload_n 2, 1) := by decide +kernel
theorem rs_d_93_126 : decode (rs_cd 93) 126 = .ok (.invokevirtual 190, 3) := by decide +kernel
theorem rs_t_93_190 : rs_tg 93 190 = some 81 := by decide +kernel
theorem rs_d_93_129 : decode (rs_cd 93) 129 = .ok (.ireturn, 1) := by decide +kernel
theorem rs_d_93_130 : decode (rs_cd 93) 130 = .ok (.iload_n 3, 1) := by decide +kernel
theorem rs_d_93_131 : decode (rs_cd 93) 131 = .ok (.ifCond .ne 17, 3) := by decide +kernel
theorem rs_d_93_134 : decode (rs_cd 93) 134 = .ok (.aload_n 0, 1) := by decide +kernel
theorem rs_d_93_135 : decode (rs_cd 93) 135 = .ok (.iload_n 2, 1) := by decide +kernel
theorem rs_d_93_136 : decode (rs_cd 93) 136 = .ok (.iload 4, 2) := by decide +kernel
theorem rs_d_93_138 : decode (rs_cd 93) 138 = .ok (.iload 5, 2) := by decide +kernel
theorem rs_d_93_140 : decode (rs_cd 93) 140 = .ok (.iload 6, 2) := by decide +kernel
theorem rs_d_93_142 : decode (rs_cd 93) 142 = .ok (.invokevirtual 193, 3) := by decide +kernel
theorem rs_t_93_193 : rs_tg 93 193 = some 82 := by decide +kernel
theorem rs_d_93_145 : decode (rs_cd 93) 145 = .ok (.goto 44, 3) := by decide +kernel
theorem rs_d_93_148 : decode (rs_cd 93) 148 = .ok (.iload_n 3, 1) := by decide +kernel
theorem rs_d_93_149 : decode (rs_cd 93) 149 = .ok (.bipush 6, 2) := by decide +kernel
theorem rs_d_93_151 : decode (rs_cd 93) 151 = .ok (.if_icmp .ne 17, 3) := by decide +kernel
theorem rs_d_93_154 : decode (rs_cd 93) 154 = .ok (.aload_n 0, 1) := by decide +kernel
theorem rs_d_93_155 : decode (rs_cd 93) 155 = .ok (.iload_n 2, 1) := by decide +kernel
theorem rs_d_93_156 : decode (rs_cd 93) 156 = .ok (.iload 4, 2) := by decide +kernel
theorem rs_d_93_158 : decode (rs_cd 93) 158 = .ok (.iload 5, 2) := by decide +kernel
theorem rs_d_93_160 : decode (rs_cd 93) 160 = .ok (.iload 6, 2) := by decide +kernel
theorem rs_d_93_162 : decode (rs_cd 93) 162 = .ok (.invokevirtual 196, 3) := by decide +kernel
theorem rs_t_93_196 : rs_tg 93 196 = some 88 := by decide +kernel
theorem rs_d_93_165 : decode (rs_cd 93) 165 = .ok (.goto 24, 3) := by decide +kernel
theorem rs_d_93_168 : decode (rs_cd 93) 168 = .ok (.aload_n 0, 1) := by decide +kernel
theorem rs_d_93_169 : decode (rs_cd 93) 169 = .ok (.iload_n 2, 1) := by decide +kernel
theorem rs_d_93_170 : decode (rs_cd 93) 170 = .ok (.iload 4, 2) := by decide +kernel
theorem rs_d_93_172 : decode (rs_cd 93) 172 = .ok (.iload 5, 2) := by decide +kernel
theorem rs_d_93_174 : decode (rs_cd 93) 174 = .ok (.iload 6, 2) := by decide +kernel
theorem rs_d_93_176 : decode (rs_cd 93) 176 = .ok (.iload_n 3, 1) := by decide +kernel
theorem rs_d_93_177 : decode (rs_cd 93) 177 = .ok (.iconst 3, 1) := by decide +kernel
theorem rs_d_93_178 : decode (rs_cd 93) 178 = .ok (.if_icmp .ne 7, 3) := by decide +kernel
theorem rs_d_93_181 : decode (rs_cd 93) 181 = .ok (.iconst 1, 1) := by decide +kernel
theorem rs_d_93_182 : decode (rs_cd 93) 182 = .ok (.goto 4, 3) := by decide +kernel
theorem rs_d_93_185 : decode (rs_cd 93) 185 = .ok (.iconst 0, 1) := by decide +kernel
theorem rs_d_93_186 : decode (rs_cd 93) 186 = .ok (.invokevirtual 199, 3) := by decide +kernel
theorem rs_t_93_199 : rs_tg 93 199 = some 86 := by decide +kernel
theorem rs_d_93_189 : decode (rs_cd 93) 189 = .ok (.ireturn, 1) := by decide +kernel
theorem rs_d_94_0 : decode (rs_cd 94) 0 = .ok (.aload_n 0, 1) := by decide +kernel
theorem rs_d_94_1 : decode (rs_cd 94) 1 = .ok (.iconst 1, 1) := by decide +kernel
theorem rs_d_94_2 : decode (rs_cd 94) 2 = .ok (.putfield 116, 3) := by decide +kernel
theorem rs_f_94_116 : rs_fd 94 116 = some (8, 20, 1) := by decide +kernel
theorem rs_d_94_5 : decode (rs_cd 94) 5 = .ok (.aload_n 0, 1) := by decide +kernel
theorem rs_d_94_6 : decode (rs_cd 94) 6 = .ok (.getfield 116, 3) := by decide +kernel
theorem rs_d_94_9 : decode (rs_cd 94) 9 = .ok (.ifCond .eq 47, 3) := by decide +kernel
theorem rs_d_94_12 : decode (rs_cd 94) 12 = .ok (.aload_n 0, 1) := by decide +kernel
theorem rs_d_94_13 : decode (rs_cd 94) 13 = .ok (.iconst 0, 1) := by decide +kernel
theorem rs_d_94_14 : decode (rs_cd 94) 14 = .ok (.putfield 116, 3) := by decide +kernel
theorem rs_d_94_17 : decode (rs_cd 94) 17 = .ok (.iconst 0, 1) := by decide +kernel
theorem rs_d_94_18 : decode (rs_cd 94) 18 = .ok (.istore_n 2, 1) := by decide +kernel
theorem rs_d_94_19 : decode (rs_cd 94) 19 = .ok (.iload_n 2, 1) := by decide +kernel
theorem rs_d_94_20 : decode (rs_cd 94) 20 = .ok (.aload_n 0, 1) := by decide +kernel
theorem rs_d_94_21 : decode (rs_cd 94) 21 = .ok (.getfield 104, 3) := by decide +kernel
theorem rs_f_94_104 : rs_fd 94 104 = some (8, 4, 0) := by decide +kernel
theorem rs_d_94_24 : decode (rs_cd 94) 24 = .ok (.if_icmp .ge 29, 3) := by decide +kernel
theorem rs_d_94_27 : decode (rs_cd 94) 27 = .ok (.aload_n 0, 1) := by decide +kernel
theorem rs_d_94_28 : decode (rs_cd 94) 28 = .ok (.getfield 28, 3) := by decide +kernel
theorem rs_f_94_28 : rs_fd 94 28 = some (8, 9, 2) := by decide +kernel
theorem rs_d_94_31 : decode (rs_cd 94) 31 = .ok (.iload_n 2, 1) := by decide +kernel
theorem rs_d_94_32 : decode (rs_cd 94) 32 = .ok (.baload, 1) := by decide +kernel
theorem rs_d_94_33 : decode (rs_cd 94) 33 = .ok (.ifCond .eq 14, 3) := by decide +kernel
theorem rs_d_94_36 : decode (rs_cd 94) 36 = .ok (.aload_n 0, 1) := by decide +kernel
theorem rs_d_94_37 : decode (rs_cd 94) 37 = .ok (.iload_n 2, 1) := by decide +kernel
theorem rs_d_94_38 : decode (rs_cd 94) 38 = .ok (.iload_n 1, 1) := by decide +kernel
theorem rs_d_94_39 : decode (rs_cd 94) 39 = .ok (.invokevirtual 202, 3) := by decide +kernel
theorem rs_t_94_202 : rs_tg 94 202 = some 93 := by decide +kernel
theorem rs_d_94_42 : decode (rs_cd 94) 42 = .ok (.ifCond .ne 5, 3) := by decide +kernel
theorem rs_d_94_45 : decode (rs_cd 94) 45 = .ok (.iconst 0, 1) := by decide +kernel
theorem rs_d_94_46 : decode (rs_cd 94) 46 = .ok (.ireturn, 1) := by decide +kernel
theorem rs_d_94_47 : decode (rs_cd 94) 47 = .ok (.iinc 2 1, 3) := by decide +kernel
theorem rs_d_94_50 : decode (rs_cd 94) 50 = .ok (.goto (-31), 3) := by decide +kernel
theorem rs_d_94_53 : decode (rs_cd 94) 53 = .ok (.goto (-48), 3) := by decide +kernel
theorem rs_d_94_56 : decode (rs_cd 94) 56 = .ok (.iconst 1, 1) := by decide +kernel
theorem rs_d_94_57 : decode (rs_cd 94) 57 = .ok (.ireturn, 1) := by decide +kernel
theorem rs_d_95_0 : decode (rs_cd 95) 0 = .ok (.iconst 1, 1) := by decide +kernel
theorem rs_d_95_1 : decode (rs_cd 95) 1 = .ok (.istore_n 2, 1) := by decide +kernel
theorem rs_d_95_2 : decode (rs_cd 95) 2 = .ok (.iconst 0, 1) := by decide +kernel
theorem rs_d_95_3 : decode (rs_cd 95) 3 = .ok (.istore_n 3, 1) := by decide +kernel
theorem rs_d_95_4 : decode (rs_cd 95) 4 = .ok (.iload_n 3, 1) := by decide +kernel
theorem rs_d_95_5 : decode (rs_cd 95) 5 = .ok (.aload_n 0, 1) := by decide +kernel
theorem rs_d_95_6 : decode (rs_cd 95) 6 = .ok (.getfield 86, 3) := by decide +kernel
theorem rs_f_95_86 : rs_fd 95 86 = some (8, 1, 0) := by decide +kernel
theorem rs_d_95_9 : decode (rs_cd 95) 9 = .ok (.if_icmp .ge 33, 3) := by decide +kernel
theorem rs_d_95_12 : decode (rs_cd 95) 12 = .ok (.aload_n 0, 1) := by decide +kernel
theorem rs_d_95_13 : decode (rs_cd 95) 13 = .ok (.getfield 50, 3) := by decide +kernel
theorem rs_f_95_50 : rs_fd 95 50 = some (8, 18, 2) := by decide +kernel
theorem rs_d_95_16 : decode (rs_cd 95) 16 = .ok (.iload_n 3, 1) := by decide +kernel
theorem rs_d_95_17 : decode (rs_cd 95) 17 = .ok (.aload_n 0, 1) := by decide +kernel
theorem rs_d_95_18 : decode (rs_cd 95) 18 = .ok (.getfield 7, 3) := by decide +kernel
theorem rs_f_95_7 : rs_fd 95 7 = some (8, 2, 2) := by decide +kernel
theorem rs_d_95_21 : decode (rs_cd 95) 21 = .ok (.iload_n 3, 1) := by decide +kernel
theorem rs_d_95_22 : decode (rs_cd 95) 22 = .ok (.iaload, 1) := by decide +kernel
theorem rs_d_95_23 : decode (rs_cd 95) 23 = .ok (.iastore, 1) := by decide +kernel
theorem rs_d_95_24 : decode (rs_cd 95) 24 = .ok (.aload_n 0, 1) := by decide +kernel
theorem rs_d_95_25 : decode (rs_cd 95) 25 = .ok (.getfield 53, 3) := by decide +kernel
theorem rs_f_95_53 : rs_fd 95 53 = some (8, 19, 2) := by decide +kernel
theorem rs_d_95_28 : decode (rs_cd 95) 28 = .ok (.iload_n 3, 1) := by decide +kernel
theorem rs_d_95_29 : decode (rs_cd 95) 29 = .ok (.aload_n 0, 1) := by decide +kernel
theorem rs_d_95_30 : decode (rs_cd 95) 30 = .ok (.getfield 13, 3) := by decide +kernel
theorem rs_f_95_13 : rs_fd 95 13 = some (8, 3, 2) := by decide +kernel
theorem rs_d_95_33 : decode (rs_cd 95) 33 = .ok (.iload_n 3, 1) := by decide +kernel
theorem rs_d_95_34 : decode (rs_cd 95) 34 = .ok (.iaload, 1) := by decide +kernel
theorem rs_d_95_35 : decode (rs_cd 95) 35 = .ok (.iastore, 1) := by decide +kernel
theorem rs_d_95_36 : decode (rs_cd 95) 36 = .ok (.iinc 3 1, 3) := by decide +kernel
theorem rs_d_95_39 : decode (rs_cd 95) 39 = .ok (.goto (-35), 3) := by decide +kernel
theorem rs_d_95_42 : decode (rs_cd 95) 42 = .ok (.iconst 0, 1) := by decide +kernel
theorem rs_d_95_43 : decode (rs_cd 95) 43 = .ok (.istore_n 3, 1) := by decide +kernel
theorem rs_d_95_44 : decode (rs_cd 95) 44 = .ok (.iload_n 3, 1) := by decide +kernel
theorem rs_d_95_45 : decode (rs_cd 95) 45 = .ok (.aload_n 0, 1) := by decide +kernel
theorem rs_d_95_46 : decode (rs_cd 95) 46 = .ok (.getfield 107, 3) := by decide +kernel
theorem rs_f_95_107 : rs_fd 95 107 = some (8, 13, 0) := by decide +kernel
theorem rs_d_95_49 : decode (rs_cd 95) 49 = .ok (.if_icmp .ge 57, 3) := by decide +kernel
theorem rs_d_95_52 : decode (rs_cd 95) 52 = .ok (.iload_n 1, 1) := by decide +kernel
theorem rs_d_95_53 : decode (rs_cd 95) 53 = .ok (.iload_n 3, 1) := by decide +kernel
theorem rs_d_95_54 : decode (rs_cd 95) 54 = .ok (.invokestatic 113, 3) := by decide +kernel
theorem rs_t_95_113 : rs_tg 95 113 = some 74 := by decide +kernel
theorem rs_d_95_57 : decode (rs_cd 95) 57 = .ok (.ifCond .eq 43, 3) := by decide +kernel
theorem rs_d_95_60 : decode (rs_cd 95) 60 = .ok (.aload_n 0, 1) := by decide +kernel
theorem rs_d_95_61 : decode (rs_cd 95) 61 = .ok (.iconst 0, 1) := by decide +kernel
theorem rs_d_95_62 : decode (rs_cd 95) 62 = .ok (.aload_n 0, 1) := by decide +kernel
theorem rs_d_95_63 : decode (rs_cd 95) 63 = .ok (.getfield 41, 3) := by decide +kernel
theorem rs_f_95_41 : rs_fd 95 41 = some (8, 14, 2) := by decide +kernel
theorem rs_d_95_66 : decode (rs_cd 95) 66 = .ok (.iload_n 3, 1) := by decide +kernel
theorem rs_d_95_67 : decode (rs_cd 95) 67 = .ok (.iaload, 1) := by decide +kernel
theorem rs_d_95_68 : decode (rs_cd 95) 68 = .ok (.aload_n 0, 1) := by decide +kernel
theorem rs_d_95_69 : decode (rs_cd 95) 69 = .ok (.getfield 44, 3) := by decide +kernel
theorem rs_f_95_44 : rs_fd 95 44 = some (8, 15, 2) := by decide +kernel
theorem rs_d_95_72 : decode (rs_cd 95) 72 = .ok (.iload_n 3, 1) := by decide +kernel
theorem rs_d_95_73 : decode (rs_cd 95) 73 = .ok (.iaload, 1) := by decide +kernel
theorem rs_d_95_74 : decode (rs_cd 95) 74 = .ok (.aload_n 0, 1) := by decide +kernel
theorem rs_d_95_75 : decode (rs_cd 95) 75 = .ok (.getfield 47, 3) := by decide +kernel
theorem rs_f_95_47 : rs_fd 95 47 = some (8, 16, 2) := by decide +kernel
theorem rs_d_95_78 : decode (rs_cd 95) 78 = .ok (.iload_n 3, 1) := by decide +kernel
theorem rs_d_95_79 : decode (rs_cd 95) 79 = .ok (.iaload, 1) := by decide +kernel
theorem rs_d_95_80 : decode (rs_cd 95) 80 = .ok (.invokevirtual 160, 3) := by decide +kernel
theorem rs_t_95_160 : rs_tg 95 160 = some 76 := by decide +kernel
theorem rs_d_95_83 : decode (rs_cd 95) 83 = .ok (.istore 4, 2) := by decide +kernel
theorem rs_d_95_85 : decode (rs_cd 95) 85 = .ok (.iload_n 2, 1) := by decide +kernel
theorem rs_d_95_86 : decode (rs_cd 95) 86 = .ok (.ifCond .eq 12, 3) := by decide +kernel
theorem rs_d_95_89 : decode (rs_cd 95) 89 = .ok (.iload 4, 2) := by decide +kernel
theorem rs_d_95_91 : decode (rs_cd 95) 91 = .ok (.ifCond .eq 7, 3) := by decide +kernel
theorem rs_d_95_94 : decode (rs_cd 95) 94 = .ok (.iconst 1, 1) := by decide +kernel
theorem rs_d_95_95 : decode (rs_cd 95) 95 = .ok (.goto 4, 3) := by decide +kernel
theorem rs_d_95_98 : decode (rs_cd 95) 98 = .ok (.iconst 0, 1) := by decide +kernel
theorem rs_d_95_99 : decode (rs_cd 95) 99 = .ok (.istore_n 2, 1) := by decide +kernel
theorem rs_d_95_100 : decode (rs_cd 95) 100 = .ok (.iinc 3 1, 3) := by decide +kernel
theorem rs_d_95_103 : decode (rs_cd 95) 103 = .ok (.goto (-59), 3) := by decide +kernel
theorem rs_d_95_106 : decode (rs_cd 95) 106 = .ok (.iload_n 2, 1) := by decide +kernel
theorem rs_d_95_107 : decode (rs_cd 95) 107 = .ok (.ifCond .eq 15, 3) := by decide +kernel
theorem rs_d_95_110 : decode (rs_cd 95) 110 = .ok (.aload_n 0, 1) := by decide +kernel
theorem rs_d_95_111 : decode (rs_cd 95) 111 = .ok (.iconst 0, 1) := by decide +kernel
theorem rs_d_95_112 : decode (rs_cd 95) 112 = .ok (.invokevirtual 205, 3) := by decide +kernel
theorem rs_t_95_205 : rs_tg 95 205 = some 94 := by decide +kernel
theorem rs_d_95_115 : decode (rs_cd 95) 115 = .ok (.ifCond .eq 7, 3) := by decide +kernel
theorem rs_d_95_118 : decode (rs_cd 95) 118 = .ok (.iconst 1, 1) := by decide +kernel
theorem rs_d_95_119 : decode (rs_cd 95) 119 = .ok (.goto 4, 3) := by decide +kernel
theorem rs_d_95_122 : decode (rs_cd 95) 122 = .ok (.iconst 0, 1) := by decide +kernel
theorem rs_d_95_123 : decode (rs_cd 95) 123 = .ok (.ireturn, 1) := by decide +kernel
theorem rs_d_96_0 : decode (rs_cd 96) 0 = .ok (.aload_n 0, 1) := by decide +kernel
theorem rs_d_96_1 : decode (rs_cd 96) 1 = .ok (.iconst 0, 1) := by decide +kernel
theorem rs_d_96_2 : decode (rs_cd 96) 2 = .ok (.putfield 74, 3) := by decide +kernel
theorem rs_f_96_74 : rs_fd 96 74 = some (8, 0, 0) := by decide +kernel
theorem rs_d_96_5 : decode (rs_cd 96) 5 = .ok (.aload_n 0, 1) := by decide +kernel
theorem rs_d_96_6 : decode (rs_cd 96) 6 = .ok (.aload_n 0, 1) := by decide +kernel
theorem rs_d_96_7 : decode (rs_cd 96) 7 = .ok (.getfield 110, 3) := by decide +kernel
theorem rs_f_96_110 : rs_fd 96 110 = some (8, 17, 0) := by decide +kernel
theorem rs_d_96_10 : decode (rs_cd 96) 10 = .ok (.invokevirtual 208, 3) := by decide +kernel
theorem rs_t_96_208 : rs_tg 96 208 = some 95 := by decide +kernel
theorem rs_d_96_13 : decode (rs_cd 96) 13 = .ok (.istore_n 1, 1) := by decide +kernel
theorem rs_d_96_14 : decode (rs_cd 96) 14 = .ok (.aload_n 0, 1) := by decide +kernel
theorem rs_d_96_15 : decode (rs_cd 96) 15 = .ok (.iload_n 1, 1) := by decide +kernel
theorem rs_d_96_16 : decode (rs_cd 96) 16 = .ok (.ifCond .eq 10, 3) := by decide +kernel
theorem rs_d_96_19 : decode (rs_cd 96) 19 = .ok (.aload_n 0, 1) := by decide +kernel
theorem rs_d_96_20 : decode (rs_cd 96) 20 = .ok (.getfield 86, 3) := by decide +kernel
theorem rs_f_96_86 : rs_fd 96 86 = some (8, 1, 0) := by decide +kernel
theorem rs_d_96_23 : decode (rs_cd 96) 23 = .ok (.goto 4, 3) := by decide +kernel
theorem rs_d_96_26 : decode (rs_cd 96) 26 = .ok (.iconst 0, 1) := by decide +kernel
theorem rs_d_96_27 : decode (rs_cd 96) 27 = .ok (.putfield 211, 3) := by decide +kernel
theorem rs_f_96_211 : rs_fd 96 211 = some (8, 28, 0) := by decide +kernel
theorem rs_d_96_30 : decode (rs_cd 96) 30 = .ok (.iconst 0, 1) := by decide +kernel
theorem rs_d_96_31 : decode (rs_cd 96) 31 = .ok (.istore_n 2, 1) := by decide +kernel
theorem rs_d_96_32 : decode (rs_cd 96) 32 = .ok (.iload_n 2, 1) := by decide +kernel
theorem rs_d_96_33 : decode (rs_cd 96) 33 = .ok (.aload_n 0, 1) := by decide +kernel
theorem rs_d_96_34 : decode (rs_cd 96) 34 = .ok (.getfield 211, 3) := by decide +kernel
theorem rs_d_96_37 : decode (rs_cd 96) 37 = .ok (.if_icmp .ge 33, 3) := by decide +kernel
theorem rs_d_96_40 : decode (rs_cd 96) 40 = .ok (.aload_n 0, 1) := by decide +kernel
theorem rs_d_96_41 : decode (rs_cd 96) 41 = .ok (.getfield 59, 3) := by decide +kernel
theorem rs_f_96_59 : rs_fd 96 59 = some (8, 29, 2) := by decide +kernel
theorem rs_d_96_44 : decode (rs_cd 96) 44 = .ok (.iload_n 2, 1) := by decide +kernel
theorem rs_d_96_45 : decode (rs_cd 96) 45 = .ok (.aload_n 0, 1) := by decide +kernel
theorem rs_d_96_46 : decode (rs_cd 96) 46 = .ok (.getfield 50, 3) := by decide +kernel
theorem rs_f_96_50 : rs_fd 96 50 = some (8, 18, 2) := by decide +kernel
theorem rs_d_96_49 : decode (rs_cd 96) 49 = .ok (.iload_n 2, 1) := by decide +kernel
theorem rs_d_96_50 : decode (rs_cd 96) 50 = .ok (.iaload, 1) := by decide +kernel
theorem rs_d_96_51 : decode (rs_cd 96) 51 = .ok (.iastore, 1) := by decide +kernel
theorem rs_d_96_52 : decode (rs_cd 96) 52 = .ok (.aload_n 0, 1) := by decide +kernel
theorem rs_d_96_53 : decode (rs_cd 96) 53 = .ok (.getfield 62, 3) := by decide +kernel
theorem rs_f_96_62 : rs_fd 96 62 = some (8, 30, 2) := by decide +kernel
theorem rs_d_96_56 : decode (rs_cd 96) 56 = .ok (.iload_n 2, 1) := by decide +kernel
theorem rs_d_96_57 : decode (rs_cd 96) 57 = .ok (.aload_n 0, 1) := by decide +kernel
theorem rs_d_96_58 : decode (rs_cd 96) 58 = .ok (.getfield 53, 3) := by decide +kernel
theorem rs_f_96_53 : rs_fd 96 53 = some (8, 19, 2) := by decide +kernel
theorem rs_d_96_61 : decode (rs_cd 96) 61 = .ok (.iload_n 2, 1) := by decide +kernel
theorem rs_d_96_62 : decode (rs_cd 96) 62 = .ok (.iaload, 1) := by decide +kernel
theorem rs_d_96_63 : decode (rs_cd 96) 63 = .ok (.iastore, 1) := by decide +kernel
theorem rs_d_96_64 : decode (rs_cd 96) 64 = .ok (.iinc 2 1, 3) := by decide +kernel
theorem rs_d_96_67 : decode (rs_cd 96) 67 = .ok (.goto (-35), 3) := by decide +kernel
theorem rs_d_96_70 : decode (rs_cd 96) 70 = .ok (.iload_n 1, 1) := by decide +kernel
theorem rs_d_96_71 : decode (rs_cd 96) 71 = .ok (.ireturn, 1) := by decide +kernel
theorem rs_d_97_0 : decode (rs_cd 97) 0 = .ok (.aload_n 0, 1) := by decide +kernel
theorem rs_d_97_1 : decode (rs_cd 97) 1 = .ok (.iconst 0, 1) := by decide +kernel
theorem rs_d_97_2 : decode (rs_cd 97) 2 = .ok (.putfield 74, 3) := by decide +kernel
theorem rs_f_97_74 : rs_fd 97 74 = some (8, 0, 0) := by decide +kernel
theorem rs_d_97_5 : decode (rs_cd 97) 5 = .ok (.iload_n 1, 1) := by decide +kernel
theorem rs_d_97_6 : decode (rs_cd 97) 6 = .ok (.iconst 0, 1) := by decide +kernel
theorem rs_d_97_7 : decode (rs_cd 97) 7 = .ok (.aload_n 0, 1) := by decide +kernel
theorem rs_d_97_8 : decode (rs_cd 97) 8 = .ok (.getfield 211, 3) := by decide +kernel
theorem rs_f_97_211 : rs_fd 97 211 = some (8, 28, 0) := by decide +kernel
theorem rs_d_97_11 : decode (rs_cd 97) 11 = .ok (.iconst 1, 1) := by decide +kernel
theorem rs_d_97_12 : decode (rs_cd 97) 12 = .ok (.isub, 1) := by decide +kernel
theorem rs_d_97_13 : decode (rs_cd 97) 13 = .ok (.invokestatic 89, 3) := by decide +kernel
theorem rs_t_97_89 : rs_tg 97 89 = some 62 := by decide +kernel
theorem rs_d_97_16 : decode (rs_cd 97) 16 = .ok (.ifCond .eq 12, 3) := by decide +kernel
theorem rs_d_97_19 : decode (rs_cd 97) 19 = .ok (.aload_n 0, 1) := by decide +kernel
theorem rs_d_97_20 : decode (rs_cd 97) 20 = .ok (.getfield 59, 3) := by decide +kernel
theorem rs_f_97_59 : rs_fd 97 59 = some (8, 29, 2) := by decide +kernel
theorem rs_d_97_23 : decode (rs_cd 97) 23 = .ok (.iload_n 1, 1) := by decide +kernel
theorem rs_d_97_24 : decode (rs_cd 97) 24 = .ok (.iaload, 1) := by decide +kernel
theorem rs_d_97_25 : decode (rs_cd 97) 25 = .ok (.goto 6, 3) := by decide +kernel
theorem rs_d_97_28 : decode (rs_cd 97) 28 = .ok (.sipush (-1000), 3) := by decide +kernel
theorem rs_d_97_31 : decode (rs_cd 97) 31 = .ok (.ireturn, 1) := by decide +kernel
theorem rs_d_98_0 : decode (rs_cd 98) 0 = .ok (.aload_n 0, 1) := by decide +kernel
theorem rs_d_98_1 : decode (rs_cd 98) 1 = .ok (.iconst 0, 1) := by decide +kernel
theorem rs_d_98_2 : decode (rs_cd 98) 2 = .ok (.putfield 74, 3) := by decide +kernel
theorem rs_f_98_74 : rs_fd 98 74 = some (8, 0, 0) := by decide +kernel
theorem rs_d_98_5 : decode (rs_cd 98) 5 = .ok (.iload_n 1, 1) := by decide +kernel
theorem rs_d_98_6 : decode (rs_cd 98) 6 = .ok (.iconst 0, 1) := by decide +kernel
theorem rs_d_98_7 : decode (rs_cd 98) 7 = .ok (.aload_n 0, 1) := by decide +kernel
theorem rs_d_98_8 : decode (rs_cd 98) 8 = .ok (.getfield 211, 3) := by decide +kernel
theorem rs_f_98_211 : rs_fd 98 211 = some (8, 28, 0) := by decide +kernel
theorem rs_d_98_11 : decode (rs_cd 98) 11 = .ok (.iconst 1, 1) := by decide +kernel
theorem rs_d_98_12 : decode (rs_cd 98) 12 = .ok (.isub, 1) := by decide +kernel
theorem rs_d_98_13 : decode (rs_cd 98) 13 = .ok (.invokestatic 89, 3) := by decide +kernel
theorem rs_t_98_89 : rs_tg 98 89 = some 62 := by decide +kernel
theorem rs_d_98_16 : decode (rs_cd 98) 16 = .ok (.ifCond .eq 12, 3) := by decide +kernel
theorem rs_d_98_19 : decode (rs_cd 98) 19 = .ok (.aload_n 0, 1) := by decide +kernel
theorem rs_d_98_20 : decode (rs_cd 98) 20 = .ok (.getfield 62, 3) := by decide +kernel
theorem rs_f_98_62 : rs_fd 98 62 = some (8, 30, 2) := by decide +kernel
theorem rs_d_98_23 : decode (rs_cd 98) 23 = .ok (.iload_n 1, 1) := by decide +kernel
theorem rs_d_98_24 : decode (rs_cd 98) 24 = .ok (.iaload, 1) := by decide +kernel
theorem rs_d_98_25 : decode (rs_cd 98) 25 = .ok (.goto 6, 3) := by decide +kernel
theorem rs_d_98_28 : decode (rs_cd 98) 28 = .ok (.sipush (-1000), 3) := by decide +kernel
theorem rs_d_98_31 : decode (rs_cd 98) 31 = .ok (.ireturn, 1) := by decide +kernel
theorem rs_d_99_0 : decode (rs_cd 99) 0 = .ok (.aload_n 0, 1) := by decide +kernel
theorem rs_d_99_1 : decode (rs_cd 99) 1 = .ok (.iconst 0, 1) := by decide +kernel
theorem rs_d_99_2 : decode (rs_cd 99) 2 = .ok (.putfield 74, 3) := by decide +kernel
theorem rs_f_99_74 : rs_fd 99 74 = some (8, 0, 0) := by decide +kernel
theorem rs_d_99_5 : decode (rs_cd 99) 5 = .ok (.aload_n 0, 1) := by decide +kernel
theorem rs_d_99_6 : decode (rs_cd 99) 6 = .ok (.aload_n 0, 1) := by decide +kernel
theorem rs_d_99_7 : decode (rs_cd 99) 7 = .ok (.getfield 110, 3) := by decide +kernel
theorem rs_f_99_110 : rs_fd 99 110 = some (8, 17, 0) := by decide +kernel
theorem rs_d_99_10 : decode (rs_cd 99) 10 = .ok (.invokevirtual 208, 3) := by decide +kernel
theorem rs_t_99_208 : rs_tg 99 208 = some 95 := by decide +kernel
theorem rs_d_99_13 : decode (rs_cd 99) 13 = .ok (.ifCond .eq 7, 3) := by decide +kernel
theorem rs_d_99_16 : decode (rs_cd 99) 16 = .ok (.sipush (-1000), 3) := by decide +kernel
theorem rs_d_99_19 : decode (rs_cd 99) 19 = .ok (.ireturn, 1) := by decide +kernel
theorem rs_d_99_20 : decode (rs_cd 99) 20 = .ok (.aload_n 0, 1) := by decide +kernel
theorem rs_d_99_21 : decode (rs_cd 99) 21 = .ok (.getfield 110, 3) := by decide +kernel
theorem rs_d_99_24 : decode (rs_cd 99) 24 = .ok (.istore_n 1, 1) := by decide +kernel
theorem rs_d_99_25 : decode (rs_cd 99) 25 = .ok (.bipush 11, 2) := by decide +kernel
theorem rs_d_99_27 : decode (rs_cd 99) 27 = .ok (.istore_n 2, 1) := by decide +kernel
theorem rs_d_99_28 : decode (rs_cd 99) 28 = .ok (.iload_n 2, 1) := by decide +kernel
theorem rs_d_99_29 : decode (rs_cd 99) 29 = .ok (.ifCond .lt 35, 3) := by decide +kernel
theorem rs_d_99_32 : decode (rs_cd 99) 32 = .ok (.iload_n 1, 1) := by decide +kernel
theorem rs_d_99_33 : decode (rs_cd 99) 33 = .ok (.iload_n 2, 1) := by decide +kernel
theorem rs_d_99_34 : decode (rs_cd 99) 34 = .ok (.invokestatic 113, 3) := by decide +kernel
theorem rs_t_99_113 : rs_tg 99 113 = some 74 := by decide +kernel
theorem rs_d_99_37 : decode (rs_cd 99) 37 = .ok (.ifCond .eq 21, 3) := by decide +kernel
theorem rs_d_99_40 : decode (rs_cd 99) 40 = .ok (.aload_n 0, 1) := by decide +kernel
theorem rs_d_99_41 : decode (rs_cd 99) 41 = .ok (.iload_n 1, 1) := by decide +kernel
theorem rs_d_99_42 : decode (rs_cd 99) 42 = .ok (.iconst 1, 1) := by decide +kernel
theorem rs_d_99_43 : decode (rs_cd 99) 43 = .ok (.iload_n 2, 1) := by decide +kernel
theorem rs_d_99_44 : decode (rs_cd 99) 44 = .ok (.ishl, 1) := by decide +kernel
theorem rs_d_99_45 : decode (rs_cd 99) 45 = .ok (.ixor, 1) := by decide +kernel
theorem rs_d_99_46 : decode (rs_cd 99) 46 = .ok (.invokevirtual 208, 3) := by decide +kernel
theorem rs_d_99_49 : decode (rs_cd 99) 49 = .ok (.ifCond .ne 9, 3) := by decide +kernel
theorem rs_d_99_52 : decode (rs_cd 99) 52 = .ok (.iload_n 1, 1) := by decide +kernel
theorem rs_d_99_53 : decode (rs_cd 99) 53 = .ok (.iconst 1, 1) := by decide +kernel
theorem rs_d_99_54 : decode (rs_cd 99) 54 = .ok (.iload_n 2, 1) := by decide +kernel
theorem rs_d_99_55 : decode (rs_cd 99) 55 = .ok (.ishl, 1) := by decide +kernel
theorem rs_d_99_56 : decode (rs_cd 99) 56 = .ok (.ixor, 1) := by decide +kernel
theorem rs_d_99_57 : decode (rs_cd 99) 57 = .ok (.istore_n 1, 1) := by decide +kernel
theorem rs_d_99_58 : decode (rs_cd 99) 58 = .ok (.iinc 2 (-1), 3) := by decide +kernel
theorem rs_d_99_61 : decode (rs_cd 99) 61 = .ok (.goto (-33), 3) := by decide +kernel
theorem rs_d_99_64 : decode (rs_cd 99) 64 = .ok (.iload_n 1, 1) := by decide +kernel
theorem rs_d_99_65 : decode (rs_cd 99) 65 = .ok (.ireturn, 1) := by decide +kernel
theorem rs_d_100_0 : decode (rs_cd 100) 0 = .ok (.aload_n 0, 1) := by decide +kernel
theorem rs_d_100_1 : decode (rs_cd 100) 1 = .ok (.iconst 0, 1) := by decide +kernel
theorem rs_d_100_2 : decode (rs_cd 100) 2 = .ok (.putfield 74, 3) := by decide +kernel
theorem rs_f_100_74 : rs_fd 100 74 = some (8, 0, 0) := by decide +kernel
theorem rs_d_100_5 : decode (rs_cd 100) 5 = .ok (.aload_n 0, 1) := by decide +kernel
theorem rs_d_100_6 : decode (rs_cd 100) 6 = .ok (.iload_n 1, 1) := by decide +kernel
theorem rs_d_100_7 : decode (rs_cd 100) 7 = .ok (.invokevirtual 96, 3) := by decide +kernel
theorem rs_t_100_96 : rs_tg 100 96 = some 67 := by decide +kernel
theorem rs_d_100_10 : decode (rs_cd 100) 10 = .ok (.ifCond .ne 9, 3) := by decide +kernel
theorem rs_d_100_13 : decode (rs_cd 100) 13 = .ok (.aload_n 0, 1) := by decide +kernel
theorem rs_d_100_14 : decode (rs_cd 100) 14 = .ok (.iconst 1, 1) := by decide +kernel
theorem rs_d_100_15 : decode (rs_cd 100) 15 = .ok (.invokevirtual 82, 3) := by decide +kernel
theorem rs_t_100_82 : rs_tg 100 82 = some 61 := by decide +kernel
theorem rs_d_100_18 : decode (rs_cd 100) 18 = .ok (.ireturn, 1) := by decide +kernel
theorem rs_d_100_19 : decode (rs_cd 100) 19 = .ok (.aload_n 0, 1) := by decide +kernel
theorem rs_d_100_20 : decode (rs_cd 100) 20 = .ok (.aload_n 0, 1) := by decide +kernel
theorem rs_d_100_21 : decode (rs_cd 100) 21 = .ok (.getfield 110, 3) := by decide +kernel
theorem rs_f_100_110 : rs_fd 100 110 = some (8, 17, 0) := by decide +kernel
theorem rs_d_100_24 : decode (rs_cd 100) 24 = .ok (.invokevirtual 208, 3) := by decide +kernel
theorem rs_t_100_208 : rs_tg 100 208 = some 95 := by decide +kernel
theorem rs_d_100_27 : decode (rs_cd 100) 27 = .ok (.ifCond .ne 7, 3) := by decide +kernel
theorem rs_d_100_30 : decode (rs_cd 100) 30 = .ok (.sipush (-1000), 3) := by decide +kernel
theorem rs_d_100_33 : decode (rs_cd 100) 33 = .ok (.ireturn, 1) := by decide +kernel
theorem rs_d_100_34 : decode (rs_cd 100) 34 = .ok (.iload_n 2, 1) := by decide +kernel
theorem rs_d_100_35 : decode (rs_cd 100) 35 = .ok (.ifCond .eq 12, 3) := by decide +kernel
theorem rs_d_100_38 : decode (rs_cd 100) 38 = .ok (.aload_n 0, 1) := by decide +kernel
theorem rs_d_100_39 : decode (rs_cd 100) 39 = .ok (.getfield 53, 3) := by decide +kernel
theorem rs_f_100_53 : rs_fd 100 53 = some (8, 19, 2) := by decide +kernel
theorem rs_d_100_42 : decode (rs_cd 100) 42 = .ok (.iload_n 1, 1) := by decide +kernel
theorem rs_d_100_43 : decode (rs_cd 100) 43 = .ok (.iaload, 1) := by decide +kernel
theorem rs_d_100_44 : decode (rs_cd 100) 44 = .ok (.goto 9, 3) := by decide +kernel
theorem rs_d_100_47 : decode (rs_cd 100) 47 = .ok (.aload_n 0, 1) := by decide +kernel
theorem rs_d_100_48 : decode (rs_cd 100) 48 = .ok (.getfield 50, 3) := by decide +kernel
theorem rs_f_100_50 : rs_fd 100 50 = some (8, 18, 2) := by decide +kernel
theorem rs_d_100_51 : decode (rs_cd 100) 51 = .ok (.iload_n 1, 1) := by decide +kernel
theorem rs_d_100_52 : decode (rs_cd 100) 52 = .ok (.iaload, 1) := by decide +kernel
theorem rs_d_100_53 : decode (rs_cd 100) 53 = .ok (.istore_n 3, 1) := by decide +kernel
theorem rs_d_100_54 : decode (rs_cd 100) 54 = .ok (.aload_n 0, 1) := by decide +kernel
theorem rs_d_100_55 : decode (rs_cd 100) 55 = .ok (.getfield 110, 3) := by decide +kernel
theorem rs_d_100_58 : decode (rs_cd 100) 58 = .ok (.istore 4, 2) := by decide +kernel
theorem rs_d_100_60 : decode (rs_cd 100) 60 = .ok (.bipush 11, 2) := by decide +kernel
theorem rs_d_100_62 : decode (rs_cd 100) 62 = .ok (.istore 5, 2) := by decide +kernel
theorem rs_d_100_64 : decode (rs_cd 100) 64 = .ok (.iload 5, 2) := by decide +kernel
theorem rs_d_100_66 : decode (rs_cd 100) 66 = .ok (.ifCond .lt 82, 3) := by decide +kernel
theorem rs_d_100_69 : decode (rs_cd 100) 69 = .ok (.iload 4, 2) := by decide +kernel
theorem rs_d_100_71 : decode (rs_cd 100) 71 = .ok (.iload 5, 2) := by decide +kernel
theorem rs_d_100_73 : decode (rs_cd 100) 73 = .ok (.invokestatic 113, 3) := by decide +kernel
theorem rs_t_100_113 : rs_tg 100 113 = some 74 := by decide +kernel
theorem rs_d_100_76 : decode (rs_cd 100) 76 = .ok (.ifCond .eq 44, 3) := by decide +kernel
theorem rs_d_100_79 : decode (rs_cd 100) 79 = .ok (.aload_n 0, 1) := by decide +kernel
theorem rs_d_100_80 : decode (rs_cd 100) 80 = .ok (.iload 4, 2) := by decide +kernel
theorem rs_d_100_82 : decode (rs_cd 100) 82 = .ok (.iconst 1, 1) := by decide +kernel
theorem rs_d_100_83 : decode (rs_cd 100) 83 = .ok (.iload 5, 2) := by decide +kernel
theorem rs_d_100_85 : decode (rs_cd 100) 85 = .ok (.ishl, 1) := by decide +kernel
theorem rs_d_100_86 : decode (rs_cd 100) 86 = .ok (.ixor, 1) := by decide +kernel
theorem rs_d_100_87 : decode (rs_cd 100) 87 = .ok (.invokevirtual 208, 3) := by decide +kernel
theorem rs_d_100_90 : decode (rs_cd 100) 90 = .ok (.ifCond .eq 30, 3) := by decide +kernel
theorem rs_d_100_93 : decode (rs_cd 100) 93 = .ok (.iload_n 2, 1) := by decide +kernel
theorem rs_d_100_94 : decode (rs_cd 100) 94 = .ok (.ifCond .eq 12, 3) := by decide +kernel
theorem rs_d_100_97 : decode (rs_cd 100) 97 = .ok (.aload_n 0, 1) := by decide +kernel
theorem rs_d_100_98 : decode (rs_cd 100) 98 = .ok (.getfield 53, 3) := by decide +kernel
theorem rs_d_100_101 : decode (rs_cd 100) 101 = .ok (.iload_n 1, 1) := by decide +kernel
theorem rs_d_100_102 : decode (rs_cd 100) 102 = .ok (.iaload, 1) := by decide +kernel
theorem rs_d_100_103 : decode (rs_cd 100) 103 = .ok (.goto 9, 3) := by decide +kernel
theorem rs_d_100_106 : decode (rs_cd 100) 106 = .ok (.aload_n 0, 1) := by decide +kernel
theorem rs_d_100_107 : decode (rs_cd 100) 107 = .ok (.getfield 50, 3) := by decide +kernel
theorem rs_d_100_110 : decode (rs_cd 100) 110 = .ok (.iload_n 1, 1) := by decide +kernel
theorem rs_d_100_111 : decode (rs_cd 100) 111 = .ok (.iaload, 1) := by decide +kernel
theorem rs_d_100_112 : decode (rs_cd 100) 112 = .ok (.iload_n 3, 1) := by decide +kernel
theorem rs_d_100_113 : decode (rs_cd 100) 113 = .ok (.if_icmp .ne 7, 3) := by decide +kernel
theorem rs_d_100_116 : decode (rs_cd 100) 116 = .ok (.iconst 1, 1) := by decide +kernel
theorem rs_d_100_117 : decode (rs_cd 100) 117 = .ok (.goto 4, 3) := by decide +kernel
theorem rs_d_100_120 : decode (rs_cd 100) 120 = .ok (.iconst 0, 1) := by decide +kernel
theorem rs_d_100_121 : decode (rs_cd 100) 121 = .ok (.istore 6, 2) := by decide +kernel
theorem rs_d_100_123 : decode (rs_cd 100) 123 = .ok (.iload 6, 2) := by decide +kernel
theorem rs_d_100_125 : decode (rs_cd 100) 125 = .ok (.ifCond .eq 13, 3) := by decide +kernel
theorem rs_d_100_128 : decode (rs_cd 100) 128 = .ok (.iload 4, 2) := by decide +kernel
theorem rs_d_100_130 : decode (rs_cd 100) 130 = .ok (.iconst 1, 1) := by decide +kernel
theorem rs_d_100_131 : decode (rs_cd 100) 131 = .ok (.iload 5, 2) := by decide +kernel
theorem rs_d_100_133 : decode (rs_cd 100) 133 = .ok (.ishl, 1) := by decide +kernel
theorem rs_d_100_134 : decode (rs_cd 100) 134 = .ok (.ixor, 1) := by decide +kernel
theorem rs_d_100_135 : decode (rs_cd 100) 135 = .ok (.goto 5, 3) := by decide +kernel
theorem rs_d_100_138 : decode (rs_cd 100) 138 = .ok (.iload 4, 2) := by decide +kernel
theorem rs_d_100_140 : decode (rs_cd 100) 140 = .ok (.istore 4, 2) := by decide +kernel
theorem rs_d_100_142 : decode (rs_cd 100) 142 = .ok (.iinc 5 (-1), 3) := by decide +kernel
theorem rs_d_100_145 : decode (rs_cd 100) 145 = .ok (.goto (-81), 3) := by decide +kernel
theorem rs_d_100_148 : decode (rs_cd 100) 148 = .ok (.iload 4, 2) := by decide +kernel
theorem rs_d_100_150 : decode (rs_cd 100) 150 = .ok (.ireturn, 1) := by decide +kernel
