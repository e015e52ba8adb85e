theorem rs_d_117_0 : decode (rs_cd 117) 0 = .ok (.aload_n 3, 1) := by decide +kernel
theorem rs_d_117_1 : decode (rs_cd 117) 1 = .ok (.iconst 0, 1) := by decide +kernel
theorem rs_d_117_2 : decode (rs_cd 117) 2 = .ok (.aload_n 0, 1) := by decide +kernel
theorem rs_d_117_3 : decode (rs_cd 117) 3 = .ok (.iload_n 1, 1) := by decide +kernel
theorem rs_d_117_4 : decode (rs_cd 117) 4 = .ok (.iload_n 2, 1) := by decide +kernel
theorem rs_d_117_5 : decode (rs_cd 117) 5 = .ok (.invokevirtual 7, 3) := by decide +kernel
theorem rs_t_117_7 : rs_tg 117 7 = some 34 := by decide +kernel
theorem rs_d_117_8 : decode (rs_cd 117) 8 = .ok (.i2l, 1) := by decide +kernel
theorem rs_d_117_9 : decode (rs_cd 117) 9 = .ok (.lastore, 1) := by decide +kernel
theorem rs_d_117_10 : decode (rs_cd 117) 10 = .ok (.goto 11, 3) := by decide +kernel
theorem rs_d_117_13 : decode (rs_cd 117) 13 = .ok (.astore 4, 2) := by decide +kernel
theorem rs_d_117_15 : decode (rs_cd 117) 15 = .ok (.iconst 1, 1) := by decide +kernel
theorem rs_d_117_16 : decode (rs_cd 117) 16 = .ok (.ireturn, 1) := by decide +kernel
theorem rs_d_117_17 : decode (rs_cd 117) 17 = .ok (.astore 4, 2) := by decide +kernel
theorem rs_d_117_19 : decode (rs_cd 117) 19 = .ok (.iconst 2, 1) := by decide +kernel
theorem rs_d_117_20 : decode (rs_cd 117) 20 = .ok (.ireturn, 1) := by decide +kernel
theorem rs_d_117_21 : decode (rs_cd 117) 21 = .ok (.iconst 0, 1) := by decide +kernel
theorem rs_d_117_22 : decode (rs_cd 117) 22 = .ok (.ireturn, 1) := by decide +kernel
theorem rs_d_118_0 : decode (rs_cd 118) 0 = .ok (.aload 5, 2) := by decide +kernel
theorem rs_d_118_2 : decode (rs_cd 118) 2 = .ok (.iconst 0, 1) := by decide +kernel
theorem rs_d_118_3 : decode (rs_cd 118) 3 = .ok (.aload_n 0, 1) := by decide +kernel
theorem rs_d_118_4 : decode (rs_cd 118) 4 = .ok (.iload_n 1, 1) := by decide +kernel
theorem rs_d_118_5 : decode (rs_cd 118) 5 = .ok (.iload_n 2, 1) := by decide +kernel
theorem rs_d_118_6 : decode (rs_cd 118) 6 = .ok (.iload_n 3, 1) := by decide +kernel
theorem rs_d_118_7 : decode (rs_cd 118) 7 = .ok (.iload 4, 2) := by decide +kernel
theorem rs_d_118_9 : decode (rs_cd 118) 9 = .ok (.invokevirtual 17, 3) := by decide +kernel
theorem rs_t_118_17 : rs_tg 118 17 = some 35 := by decide +kernel
theorem rs_d_118_12 : decode (rs_cd 118) 12 = .ok (.i2l, 1) := by decide +kernel
theorem rs_d_118_13 : decode (rs_cd 118) 13 = .ok (.lastore, 1) := by decide +kernel
theorem rs_d_118_14 : decode (rs_cd 118) 14 = .ok (.goto 11, 3) := by decide +kernel
theorem rs_d_118_17 : decode (rs_cd 118) 17 = .ok (.astore 6, 2) := by decide +kernel
theorem rs_d_118_19 : decode (rs_cd 118) 19 = .ok (.iconst 1, 1) := by decide +kernel
theorem rs_d_118_20 : decode (rs_cd 118) 20 = .ok (.ireturn, 1) := by decide +kernel
theorem rs_d_118_21 : decode (rs_cd 118) 21 = .ok (.astore 6, 2) := by decide +kernel
theorem rs_d_118_23 : decode (rs_cd 118) 23 = .ok (.iconst 2, 1) := by decide +kernel
theorem rs_d_118_24 : decode (rs_cd 118) 24 = .ok (.ireturn, 1) := by decide +kernel
theorem rs_d_118_25 : decode (rs_cd 118) 25 = .ok (.iconst 0, 1) := by decide +kernel
theorem rs_d_118_26 : decode (rs_cd 118) 26 = .ok (.ireturn, 1) := by decide +kernel
theorem rs_d_119_0 : decode (rs_cd 119) 0 = .ok (.aload 4, 2) := by decide +kernel
theorem rs_d_119_2 : decode (rs_cd 119) 2 = .ok (.iconst 0, 1) := by decide +kernel
theorem rs_d_119_3 : decode (rs_cd 119) 3 = .ok (.aload_n 0, 1) := by decide +kernel
theorem rs_d_119_4 : decode (rs_cd 119) 4 = .ok (.iload_n 1, 1) := by decide +kernel
theorem rs_d_119_5 : decode (rs_cd 119) 5 = .ok (.iload_n 2, 1) := by decide +kernel
theorem rs_d_119_6 : decode (rs_cd 119) 6 = .ok (.iload_n 3, 1) := by decide +kernel
theorem rs_d_119_7 : decode (rs_cd 119) 7 = .ok (.invokevirtual 21, 3) := by decide +kernel
theorem rs_t_119_21 : rs_tg 119 21 = some 38 := by decide +kernel
theorem rs_d_119_10 : decode (rs_cd 119) 10 = .ok (.i2l, 1) := by decide +kernel
theorem rs_d_119_11 : decode (rs_cd 119) 11 = .ok (.lastore, 1) := by decide +kernel
theorem rs_d_119_12 : decode (rs_cd 119) 12 = .ok (.goto 11, 3) := by decide +kernel
theorem rs_d_119_15 : decode (rs_cd 119) 15 = .ok (.astore 5, 2) := by decide +kernel
theorem rs_d_119_17 : decode (rs_cd 119) 17 = .ok (.iconst 1, 1) := by decide +kernel
theorem rs_d_119_18 : decode (rs_cd 119) 18 = .ok (.ireturn, 1) := by decide +kernel
theorem rs_d_119_19 : decode (rs_cd 119) 19 = .ok (.astore 5, 2) := by decide +kernel
theorem rs_d_119_21 : decode (rs_cd 119) 21 = .ok (.iconst 2, 1) := by decide +kernel
theorem rs_d_119_22 : decode (rs_cd 119) 22 = .ok (.ireturn, 1) := by decide +kernel
theorem rs_d_119_23 : decode (rs_cd 119) 23 = .ok (.iconst 0, 1) := by decide +kernel
theorem rs_d_119_24 : decode (rs_cd 119) 24 = .ok (.ireturn, 1) := by decide +kernel
theorem rs_d_120_0 : decode (rs_cd 120) 0 = .ok (.aload_n 3, 1) := by decide +kernel
theorem rs_d_120_1 : decode (rs_cd 120) 1 = .ok (.iconst 0, 1) := by decide +kernel
theorem rs_d_120_2 : decode (rs_cd 120) 2 = .ok (.aload_n 0, 1) := by decide +kernel
theorem rs_d_120_3 : decode (rs_cd 120) 3 = .ok (.iload_n 1, 1) := by decide +kernel
theorem rs_d_120_4 : decode (rs_cd 120) 4 = .ok (.iload_n 2, 1) := by decide +kernel
theorem rs_d_120_5 : decode (rs_cd 120) 5 = .ok (.invokevirtual 25, 3) := by decide +kernel
theorem rs_t_120_25 : rs_tg 120 25 = some 44 := by decide +kernel
theorem rs_d_120_8 : decode (rs_cd 120) 8 = .ok (.i2l, 1) := by decide +kernel
theorem rs_d_120_9 : decode (rs_cd 120) 9 = .ok (.lastore, 1) := by decide +kernel
theorem rs_d_120_10 : decode (rs_cd 120) 10 = .ok (.goto 7, 3) := by decide +kernel
theorem rs_d_120_13 : decode (rs_cd 120) 13 = .ok (.astore 4, 2) := by decide +kernel
theorem rs_d_120_15 : decode (rs_cd 120) 15 = .ok (.iconst 1, 1) := by decide +kernel
theorem rs_d_120_16 : decode (rs_cd 120) 16 = .ok (.ireturn, 1) := by decide +kernel
theorem rs_d_120_17 : decode (rs_cd 120) 17 = .ok (.iconst 0, 1) := by decide +kernel
theorem rs_d_120_18 : decode (rs_cd 120) 18 = .ok (.ireturn, 1) := by decide +kernel
theorem rs_d_121_0 : decode (rs_cd 121) 0 = .ok (.aload_n 2, 1) := by decide +kernel
theorem rs_d_121_1 : decode (rs_cd 121) 1 = .ok (.iconst 0, 1) := by decide +kernel
theorem rs_d_121_2 : decode (rs_cd 121) 2 = .ok (.aload_n 0, 1) := by decide +kernel
theorem rs_d_121_3 : decode (rs_cd 121) 3 = .ok (.iload_n 1, 1) := by decide +kernel
theorem rs_d_121_4 : decode (rs_cd 121) 4 = .ok (.invokevirtual 29, 3) := by decide +kernel
theorem rs_t_121_29 : rs_tg 121 29 = some 45 := by decide +kernel
theorem rs_d_121_7 : decode (rs_cd 121) 7 = .ok (.i2l, 1) := by decide +kernel
theorem rs_d_121_8 : decode (rs_cd 121) 8 = .ok (.lastore, 1) := by decide +kernel
theorem rs_d_121_9 : decode (rs_cd 121) 9 = .ok (.goto 6, 3) := by decide +kernel
theorem rs_d_121_12 : decode (rs_cd 121) 12 = .ok (.astore_n 3, 1) := by decide +kernel
theorem rs_d_121_13 : decode (rs_cd 121) 13 = .ok (.iconst 1, 1) := by decide +kernel
theorem rs_d_121_14 : decode (rs_cd 121) 14 = .ok (.ireturn, 1) := by decide +kernel
theorem rs_d_121_15 : decode (rs_cd 121) 15 = .ok (.iconst 0, 1) := by decide +kernel
theorem rs_d_121_16 : decode (rs_cd 121) 16 = .ok (.ireturn, 1) := by decide +kernel
theorem rs_d_122_0 : decode (rs_cd 122) 0 = .ok (.aload_n 3, 1) := by decide +kernel
theorem rs_d_122_1 : decode (rs_cd 122) 1 = .ok (.iconst 0, 1) := by decide +kernel
theorem rs_d_122_2 : decode (rs_cd 122) 2 = .ok (.aload_n 0, 1) := by decide +kernel
theorem rs_d_122_3 : decode (rs_cd 122) 3 = .ok (.iload_n 1, 1) := by decide +kernel
theorem rs_d_122_4 : decode (rs_cd 122) 4 = .ok (.iload_n 2, 1) := by decide +kernel
theorem rs_d_122_5 : decode (rs_cd 122) 5 = .ok (.invokevirtual 33, 3) := by decide +kernel
theorem rs_t_122_33 : rs_tg 122 33 = some 46 := by decide +kernel
theorem rs_d_122_8 : decode (rs_cd 122) 8 = .ok (.i2l, 1) := by decide +kernel
theorem rs_d_122_9 : decode (rs_cd 122) 9 = .ok (.lastore, 1) := by decide +kernel
theorem rs_d_122_10 : decode (rs_cd 122) 10 = .ok (.goto 7, 3) := by decide +kernel
theorem rs_d_122_13 : decode (rs_cd 122) 13 = .ok (.astore 4, 2) := by decide +kernel
theorem rs_d_122_15 : decode (rs_cd 122) 15 = .ok (.iconst 1, 1) := by decide +kernel
theorem rs_d_122_16 : decode (rs_cd 122) 16 = .ok (.ireturn, 1) := by decide +kernel
theorem rs_d_122_17 : decode (rs_cd 122) 17 = .ok (.iconst 0, 1) := by decide +kernel
theorem rs_d_122_18 : decode (rs_cd 122) 18 = .ok (.ireturn, 1) := by decide +kernel
theorem rs_d_123_0 : decode (rs_cd 123) 0 = .ok (.aload_n 3, 1) := by decide +kernel
theorem rs_d_123_1 : decode (rs_cd 123) 1 = .ok (.iconst 0, 1) := by decide +kernel
theorem rs_d_123_2 : decode (rs_cd 123) 2 = .ok (.aload_n 0, 1) := by decide +kernel
theorem rs_d_123_3 : decode (rs_cd 123) 3 = .ok (.iload_n 1, 1) := by decide +kernel
theorem rs_d_123_4 : decode (rs_cd 123) 4 = .ok (.iload_n 2, 1) := by decide +kernel
theorem rs_d_123_5 : decode (rs_cd 123) 5 = .ok (.invokevirtual 36, 3) := by decide +kernel
theorem rs_t_123_36 : rs_tg 123 36 = some 47 := by decide +kernel
theorem rs_d_123_8 : decode (rs_cd 123) 8 = .ok (.i2l, 1) := by decide +kernel
theorem rs_d_123_9 : decode (rs_cd 123) 9 = .ok (.lastore, 1) := by decide +kernel
theorem rs_d_123_10 : decode (rs_cd 123) 10 = .ok (.goto 7, 3) := by decide +kernel
theorem rs_d_123_13 : decode (rs_cd 123) 13 = .ok (.astore 4, 2) := by decide +kernel
theorem rs_d_123_15 : decode (rs_cd 123) 15 = .ok (.iconst 1, 1) := by decide +kernel
theorem rs_d_123_16 : decode (rs_cd 123) 16 = .ok (.ireturn, 1) := by decide +kernel
theorem rs_d_123_17 : decode (rs_cd 123) 17 = .ok (.iconst 0, 1) := by decide +kernel
theorem rs_d_123_18 : decode (rs_cd 123) 18 = .ok (.ireturn, 1) := by decide +kernel
