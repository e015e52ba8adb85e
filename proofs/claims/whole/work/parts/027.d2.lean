theorem rs_d_15_0 : decode (rs_cd 15) 0 = .ok (.aload_n 1, 1) := by decide +kernel
theorem rs_d_15_1 : decode (rs_cd 15) 1 = .ok (.aload_n 2, 1) := by decide +kernel
theorem rs_d_15_2 : decode (rs_cd 15) 2 = .ok (.invokestatic 191, 3) := by decide +kernel
theorem rs_t_15_191 : rs_tg 15 191 = some 17 := by decide +kernel
theorem rs_d_15_5 : decode (rs_cd 15) 5 = .ok (.istore_n 3, 1) := by decide +kernel
theorem rs_d_15_6 : decode (rs_cd 15) 6 = .ok (.iload_n 3, 1) := by decide +kernel
theorem rs_d_15_7 : decode (rs_cd 15) 7 = .ok (.ifCond .eq 10, 3) := by decide +kernel
theorem rs_d_15_10 : decode (rs_cd 15) 10 = .ok (.aload_n 1, 1) := by decide +kernel
theorem rs_d_15_11 : decode (rs_cd 15) 11 = .ok (.getfield 48, 3) := by decide +kernel
theorem rs_f_15_48 : rs_fd 15 48 = some (3, 2, 0) := by decide +kernel
theorem rs_d_15_14 : decode (rs_cd 15) 14 = .ok (.goto 7, 3) := by decide +kernel
theorem rs_d_15_17 : decode (rs_cd 15) 17 = .ok (.aload_n 1, 1) := by decide +kernel
theorem rs_d_15_18 : decode (rs_cd 15) 18 = .ok (.getfield 45, 3) := by decide +kernel
theorem rs_f_15_45 : rs_fd 15 45 = some (3, 1, 0) := by decide +kernel
theorem rs_d_15_21 : decode (rs_cd 15) 21 = .ok (.istore 4, 2) := by decide +kernel
theorem rs_d_15_23 : decode (rs_cd 15) 23 = .ok (.iload_n 3, 1) := by decide +kernel
theorem rs_d_15_24 : decode (rs_cd 15) 24 = .ok (.ifCond .eq 10, 3) := by decide +kernel
theorem rs_d_15_27 : decode (rs_cd 15) 27 = .ok (.aload_n 1, 1) := by decide +kernel
theorem rs_d_15_28 : decode (rs_cd 15) 28 = .ok (.getfield 45, 3) := by decide +kernel
theorem rs_d_15_31 : decode (rs_cd 15) 31 = .ok (.goto 7, 3) := by decide +kernel
theorem rs_d_15_34 : decode (rs_cd 15) 34 = .ok (.aload_n 1, 1) := by decide +kernel
theorem rs_d_15_35 : decode (rs_cd 15) 35 = .ok (.getfield 48, 3) := by decide +kernel
theorem rs_d_15_38 : decode (rs_cd 15) 38 = .ok (.istore 5, 2) := by decide +kernel
theorem rs_d_15_40 : decode (rs_cd 15) 40 = .ok (.aload_n 1, 1) := by decide +kernel
theorem rs_d_15_41 : decode (rs_cd 15) 41 = .ok (.getfield 51, 3) := by decide +kernel
theorem rs_f_15_51 : rs_fd 15 51 = some (3, 3, 0) := by decide +kernel
theorem rs_d_15_44 : decode (rs_cd 15) 44 = .ok (.iload 5, 2) := by decide +kernel
theorem rs_d_15_46 : decode (rs_cd 15) 46 = .ok (.if_icmp .ne 15, 3) := by decide +kernel
theorem rs_d_15_49 : decode (rs_cd 15) 49 = .ok (.iload 5, 2) := by decide +kernel
theorem rs_d_15_51 : decode (rs_cd 15) 51 = .ok (.iload 4, 2) := by decide +kernel
theorem rs_d_15_53 : decode (rs_cd 15) 53 = .ok (.if_icmp .eq 8, 3) := by decide +kernel
theorem rs_d_15_56 : decode (rs_cd 15) 56 = .ok (.bipush 9, 2) := by decide +kernel
theorem rs_d_15_58 : decode (rs_cd 15) 58 = .ok (.goto 7, 3) := by decide +kernel
theorem rs_d_15_61 : decode (rs_cd 15) 61 = .ok (.aload_n 1, 1) := by decide +kernel
theorem rs_d_15_62 : decode (rs_cd 15) 62 = .ok (.getfield 42, 3) := by decide +kernel
theorem rs_f_15_42 : rs_fd 15 42 = some (3, 0, 0) := by decide +kernel
theorem rs_d_15_65 : decode (rs_cd 15) 65 = .ok (.istore 6, 2) := by decide +kernel
theorem rs_d_15_67 : decode (rs_cd 15) 67 = .ok (.aload_n 0, 1) := by decide +kernel
theorem rs_d_15_68 : decode (rs_cd 15) 68 = .ok (.invokevirtual 195, 3) := by decide +kernel
theorem rs_t_15_195 : rs_tg 15 195 = some 16 := by decide +kernel
theorem rs_d_15_71 : decode (rs_cd 15) 71 = .ok (.aload_n 2, 1) := by decide +kernel
theorem rs_d_15_72 : decode (rs_cd 15) 72 = .ok (.getfield 138, 3) := by decide +kernel
theorem rs_f_15_138 : rs_fd 15 138 = some (2, 0, 2) := by decide +kernel
theorem rs_d_15_75 : decode (rs_cd 15) 75 = .ok (.iload 4, 2) := by decide +kernel
theorem rs_d_15_77 : decode (rs_cd 15) 77 = .ok (.iaload, 1) := by decide +kernel
theorem rs_d_15_78 : decode (rs_cd 15) 78 = .ok (.istore 7, 2) := by decide +kernel
theorem rs_d_15_80 : decode (rs_cd 15) 80 = .ok (.iload 7, 2) := by decide +kernel
theorem rs_d_15_82 : decode (rs_cd 15) 82 = .ok (.aload_n 2, 1) := by decide +kernel
theorem rs_d_15_83 : decode (rs_cd 15) 83 = .ok (.getfield 141, 3) := by decide +kernel
theorem rs_f_15_141 : rs_fd 15 141 = some (2, 1, 2) := by decide +kernel
theorem rs_d_15_86 : decode (rs_cd 15) 86 = .ok (.iload 4, 2) := by decide +kernel
theorem rs_d_15_88 : decode (rs_cd 15) 88 = .ok (.iaload, 1) := by decide +kernel
theorem rs_d_15_89 : decode (rs_cd 15) 89 = .ok (.if_icmp .gt 199, 3) := by decide +kernel
theorem rs_d_15_92 : decode (rs_cd 15) 92 = .ok (.aload_n 1, 1) := by decide +kernel
theorem rs_d_15_93 : decode (rs_cd 15) 93 = .ok (.getfield 51, 3) := by decide +kernel
theorem rs_d_15_96 : decode (rs_cd 15) 96 = .ok (.iload 4, 2) := by decide +kernel
theorem rs_d_15_98 : decode (rs_cd 15) 98 = .ok (.if_icmp .ne 8, 3) := by decide +kernel
theorem rs_d_15_101 : decode (rs_cd 15) 101 = .ok (.iload 7, 2) := by decide +kernel
theorem rs_d_15_103 : decode (rs_cd 15) 103 = .ok (.goto 12, 3) := by decide +kernel
theorem rs_d_15_106 : decode (rs_cd 15) 106 = .ok (.aload_n 2, 1) := by decide +kernel
theorem rs_d_15_107 : decode (rs_cd 15) 107 = .ok (.getfield 138, 3) := by decide +kernel
theorem rs_d_15_110 : decode (rs_cd 15) 110 = .ok (.aload_n 1, 1) := by decide +kernel
theorem rs_d_15_111 : decode (rs_cd 15) 111 = .ok (.getfield 51, 3) := by decide +kernel
theorem rs_d_15_114 : decode (rs_cd 15) 114 = .ok (.iaload, 1) := by decide +kernel
theorem rs_d_15_115 : decode (rs_cd 15) 115 = .ok (.istore 8, 2) := by decide +kernel
theorem rs_d_15_117 : decode (rs_cd 15) 117 = .ok (.aload_n 1, 1) := by decide +kernel
theorem rs_d_15_118 : decode (rs_cd 15) 118 = .ok (.getfield 51, 3) := by decide +kernel
theorem rs_d_15_121 : decode (rs_cd 15) 121 = .ok (.iload 4, 2) := by decide +kernel
theorem rs_d_15_123 : decode (rs_cd 15) 123 = .ok (.if_icmp .ne 8, 3) := by decide +kernel
theorem rs_d_15_126 : decode (rs_cd 15) 126 = .ok (.iload 7, 2) := by decide +kernel
theorem rs_d_15_128 : decode (rs_cd 15) 128 = .ok (.goto 12, 3) := by decide +kernel
theorem rs_d_15_131 : decode (rs_cd 15) 131 = .ok (.aload_n 2, 1) := by decide +kernel
theorem rs_d_15_132 : decode (rs_cd 15) 132 = .ok (.getfield 141, 3) := by decide +kernel
theorem rs_d_15_135 : decode (rs_cd 15) 135 = .ok (.aload_n 1, 1) := by decide +kernel
theorem rs_d_15_136 : decode (rs_cd 15) 136 = .ok (.getfield 51, 3) := by decide +kernel
theorem rs_d_15_139 : decode (rs_cd 15) 139 = .ok (.iaload, 1) := by decide +kernel
theorem rs_d_15_140 : decode (rs_cd 15) 140 = .ok (.istore 9, 2) := by decide +kernel
theorem rs_d_15_142 : decode (rs_cd 15) 142 = .ok (.iload 5, 2) := by decide +kernel
theorem rs_d_15_144 : decode (rs_cd 15) 144 = .ok (.iload 4, 2) := by decide +kernel
theorem rs_d_15_146 : decode (rs_cd 15) 146 = .ok (.if_icmp .ne 8, 3) := by decide +kernel
theorem rs_d_15_149 : decode (rs_cd 15) 149 = .ok (.iload 7, 2) := by decide +kernel
theorem rs_d_15_151 : decode (rs_cd 15) 151 = .ok (.goto 10, 3) := by decide +kernel
theorem rs_d_15_154 : decode (rs_cd 15) 154 = .ok (.aload_n 2, 1) := by decide +kernel
theorem rs_d_15_155 : decode (rs_cd 15) 155 = .ok (.getfield 138, 3) := by decide +kernel
theorem rs_d_15_158 : decode (rs_cd 15) 158 = .ok (.iload 5, 2) := by decide +kernel
theorem rs_d_15_160 : decode (rs_cd 15) 160 = .ok (.iaload, 1) := by decide +kernel
theorem rs_d_15_161 : decode (rs_cd 15) 161 = .ok (.iload 6, 2) := by decide +kernel
theorem rs_d_15_163 : decode (rs_cd 15) 163 = .ok (.iload 7, 2) := by decide +kernel
theorem rs_d_15_165 : decode (rs_cd 15) 165 = .ok (.iload 8, 2) := by decide +kernel
theorem rs_d_15_167 : decode (rs_cd 15) 167 = .ok (.iload 9, 2) := by decide +kernel
theorem rs_d_15_169 : decode (rs_cd 15) 169 = .ok (.invokestatic 144, 3) := by decide +kernel
theorem rs_t_15_144 : rs_tg 15 144 = some 18 := by decide +kernel
theorem rs_d_15_172 : decode (rs_cd 15) 172 = .ok (.invokestatic 63, 3) := by decide +kernel
theorem rs_t_15_63 : rs_tg 15 63 = none := by decide +kernel
theorem rs_s_15_63 : rs_sp 15 63 = some 0 := by decide +kernel
theorem rs_d_15_175 : decode (rs_cd 15) 175 = .ok (.istore 10, 2) := by decide +kernel
theorem rs_d_15_177 : decode (rs_cd 15) 177 = .ok (.iload 5, 2) := by decide +kernel
theorem rs_d_15_179 : decode (rs_cd 15) 179 = .ok (.iload 4, 2) := by decide +kernel
theorem rs_d_15_181 : decode (rs_cd 15) 181 = .ok (.if_icmp .ne 8, 3) := by decide +kernel
theorem rs_d_15_184 : decode (rs_cd 15) 184 = .ok (.iload 7, 2) := by decide +kernel
theorem rs_d_15_186 : decode (rs_cd 15) 186 = .ok (.goto 10, 3) := by decide +kernel
theorem rs_d_15_189 : decode (rs_cd 15) 189 = .ok (.aload_n 2, 1) := by decide +kernel
theorem rs_d_15_190 : decode (rs_cd 15) 190 = .ok (.getfield 141, 3) := by decide +kernel
theorem rs_d_15_193 : decode (rs_cd 15) 193 = .ok (.iload 5, 2) := by decide +kernel
theorem rs_d_15_195 : decode (rs_cd 15) 195 = .ok (.iaload, 1) := by decide +kernel
theorem rs_d_15_196 : decode (rs_cd 15) 196 = .ok (.iload 6, 2) := by decide +kernel
theorem rs_d_15_198 : decode (rs_cd 15) 198 = .ok (.iload 7, 2) := by decide +kernel
theorem rs_d_15_200 : decode (rs_cd 15) 200 = .ok (.iload 8, 2) := by decide +kernel
theorem rs_d_15_202 : decode (rs_cd 15) 202 = .ok (.iload 9, 2) := by decide +kernel
theorem rs_d_15_204 : decode (rs_cd 15) 204 = .ok (.invokestatic 148, 3) := by decide +kernel
theorem rs_t_15_148 : rs_tg 15 148 = some 19 := by decide +kernel
theorem rs_d_15_207 : decode (rs_cd 15) 207 = .ok (.invokestatic 60, 3) := by decide +kernel
theorem rs_t_15_60 : rs_tg 15 60 = none := by decide +kernel
theorem rs_s_15_60 : rs_sp 15 60 = some 1 := by decide +kernel
theorem rs_d_15_210 : decode (rs_cd 15) 210 = .ok (.istore 11, 2) := by decide +kernel
theorem rs_d_15_212 : decode (rs_cd 15) 212 = .ok (.iload 10, 2) := by decide +kernel
theorem rs_d_15_214 : decode (rs_cd 15) 214 = .ok (.iload 11, 2) := by decide +kernel
theorem rs_d_15_216 : decode (rs_cd 15) 216 = .ok (.if_icmp .gt 66, 3) := by decide +kernel
theorem rs_d_15_219 : decode (rs_cd 15) 219 = .ok (.aload_n 0, 1) := by decide +kernel
theorem rs_d_15_220 : decode (rs_cd 15) 220 = .ok (.getfield 26, 3) := by decide +kernel
theorem rs_f_15_26 : rs_fd 15 26 = some (1, 3, 2) := by decide +kernel
theorem rs_d_15_223 : decode (rs_cd 15) 223 = .ok (.iload 7, 2) := by decide +kernel
theorem rs_d_15_225 : decode (rs_cd 15) 225 = .ok (.invokevirtual 169, 3) := by decide +kernel
theorem rs_t_15_169 : rs_tg 15 169 = some 32 := by decide +kernel
theorem rs_d_15_228 : decode (rs_cd 15) 228 = .ok (.aload_n 0, 1) := by decide +kernel
theorem rs_d_15_229 : decode (rs_cd 15) 229 = .ok (.getfield 30, 3) := by decide +kernel
theorem rs_f_15_30 : rs_fd 15 30 = some (1, 4, 2) := by decide +kernel
theorem rs_d_15_232 : decode (rs_cd 15) 232 = .ok (.iload 10, 2) := by decide +kernel
theorem rs_d_15_234 : decode (rs_cd 15) 234 = .ok (.invokevirtual 169, 3) := by decide +kernel
theorem rs_d_15_237 : decode (rs_cd 15) 237 = .ok (.aload_n 0, 1) := by decide +kernel
theorem rs_d_15_238 : decode (rs_cd 15) 238 = .ok (.getfield 30, 3) := by decide +kernel
theorem rs_d_15_241 : decode (rs_cd 15) 241 = .ok (.iload 11, 2) := by decide +kernel
theorem rs_d_15_243 : decode (rs_cd 15) 243 = .ok (.invokevirtual 169, 3) := by decide +kernel
theorem rs_d_15_246 : decode (rs_cd 15) 246 = .ok (.aload_n 0, 1) := by decide +kernel
theorem rs_d_15_247 : decode (rs_cd 15) 247 = .ok (.getfield 33, 3) := by decide +kernel
theorem rs_f_15_33 : rs_fd 15 33 = some (1, 5, 2) := by decide +kernel
theorem rs_d_15_250 : decode (rs_cd 15) 250 = .ok (.aload_n 1, 1) := by decide +kernel
theorem rs_d_15_251 : decode (rs_cd 15) 251 = .ok (.getfield 42, 3) := by decide +kernel
theorem rs_d_15_254 : decode (rs_cd 15) 254 = .ok (.iload 7, 2) := by decide +kernel
theorem rs_d_15_256 : decode (rs_cd 15) 256 = .ok (.iload 10, 2) := by decide +kernel
theorem rs_d_15_258 : decode (rs_cd 15) 258 = .ok (.invokestatic 155, 3) := by decide +kernel
theorem rs_t_15_155 : rs_tg 15 155 = some 20 := by decide +kernel
theorem rs_d_15_261 : decode (rs_cd 15) 261 = .ok (.invokevirtual 169, 3) := by decide +kernel
theorem rs_d_15_264 : decode (rs_cd 15) 264 = .ok (.aload_n 0, 1) := by decide +kernel
theorem rs_d_15_265 : decode (rs_cd 15) 265 = .ok (.getfield 33, 3) := by decide +kernel
theorem rs_d_15_268 : decode (rs_cd 15) 268 = .ok (.aload_n 1, 1) := by decide +kernel
theorem rs_d_15_269 : decode (rs_cd 15) 269 = .ok (.getfield 42, 3) := by decide +kernel
theorem rs_d_15_272 : decode (rs_cd 15) 272 = .ok (.iload 7, 2) := by decide +kernel
theorem rs_d_15_274 : decode (rs_cd 15) 274 = .ok (.iload 11, 2) := by decide +kernel
theorem rs_d_15_276 : decode (rs_cd 15) 276 = .ok (.invokestatic 155, 3) := by decide +kernel
theorem rs_d_15_279 : decode (rs_cd 15) 279 = .ok (.invokevirtual 169, 3) := by decide +kernel
theorem rs_d_15_282 : decode (rs_cd 15) 282 = .ok (.iinc 7 1, 3) := by decide +kernel
theorem rs_d_15_285 : decode (rs_cd 15) 285 = .ok (.goto (-205), 3) := by decide +kernel
theorem rs_d_15_288 : decode (rs_cd 15) 288 = .ok (.aload_n 0, 1) := by decide +kernel
theorem rs_d_15_289 : decode (rs_cd 15) 289 = .ok (.getfield 26, 3) := by decide +kernel
theorem rs_d_15_292 : decode (rs_cd 15) 292 = .ok (.invokevirtual 173, 3) := by decide +kernel
theorem rs_t_15_173 : rs_tg 15 173 = some 33 := by decide +kernel
theorem rs_d_15_295 : decode (rs_cd 15) 295 = .ok (.ifCond .eq 11, 3) := by decide +kernel
theorem rs_d_15_298 : decode (rs_cd 15) 298 = .ok (.aload_n 2, 1) := by decide +kernel
theorem rs_d_15_299 : decode (rs_cd 15) 299 = .ok (.iconst 1, 1) := by decide +kernel
theorem rs_d_15_300 : decode (rs_cd 15) 300 = .ok (.putfield 101, 3) := by decide +kernel
theorem rs_f_15_101 : rs_fd 15 101 = some (2, 3, 1) := by decide +kernel
theorem rs_d_15_303 : decode (rs_cd 15) 303 = .ok (.goto 65, 3) := by decide +kernel
theorem rs_d_15_306 : decode (rs_cd 15) 306 = .ok (.aload_n 2, 1) := by decide +kernel
theorem rs_d_15_307 : decode (rs_cd 15) 307 = .ok (.iload 4, 2) := by decide +kernel
theorem rs_d_15_309 : decode (rs_cd 15) 309 = .ok (.aload_n 0, 1) := by decide +kernel
theorem rs_d_15_310 : decode (rs_cd 15) 310 = .ok (.getfield 26, 3) := by decide +kernel
theorem rs_d_15_313 : decode (rs_cd 15) 313 = .ok (.getfield 177, 3) := by decide +kernel
theorem rs_f_15_177 : rs_fd 15 177 = some (5, 0, 0) := by decide +kernel
theorem rs_d_15_316 : decode (rs_cd 15) 316 = .ok (.aload_n 0, 1) := by decide +kernel
theorem rs_d_15_317 : decode (rs_cd 15) 317 = .ok (.getfield 26, 3) := by decide +kernel
theorem rs_d_15_320 : decode (rs_cd 15) 320 = .ok (.getfield 180, 3) := by decide +kernel
theorem rs_f_15_180 : rs_fd 15 180 = some (5, 1, 0) := by decide +kernel
theorem rs_d_15_323 : decode (rs_cd 15) 323 = .ok (.invokevirtual 151, 3) := by decide +kernel
theorem rs_t_15_151 : rs_tg 15 151 = some 26 := by decide +kernel
theorem rs_d_15_326 : decode (rs_cd 15) 326 = .ok (.aload_n 2, 1) := by decide +kernel
theorem rs_d_15_327 : decode (rs_cd 15) 327 = .ok (.iload 5, 2) := by decide +kernel
theorem rs_d_15_329 : decode (rs_cd 15) 329 = .ok (.aload_n 0, 1) := by decide +kernel
theorem rs_d_15_330 : decode (rs_cd 15) 330 = .ok (.getfield 30, 3) := by decide +kernel
theorem rs_d_15_333 : decode (rs_cd 15) 333 = .ok (.getfield 177, 3) := by decide +kernel
theorem rs_d_15_336 : decode (rs_cd 15) 336 = .ok (.aload_n 0, 1) := by decide +kernel
theorem rs_d_15_337 : decode (rs_cd 15) 337 = .ok (.getfield 30, 3) := by decide +kernel
theorem rs_d_15_340 : decode (rs_cd 15) 340 = .ok (.getfield 180, 3) := by decide +kernel
theorem rs_d_15_343 : decode (rs_cd 15) 343 = .ok (.invokevirtual 151, 3) := by decide +kernel
theorem rs_d_15_346 : decode (rs_cd 15) 346 = .ok (.aload_n 2, 1) := by decide +kernel
theorem rs_d_15_347 : decode (rs_cd 15) 347 = .ok (.aload_n 1, 1) := by decide +kernel
theorem rs_d_15_348 : decode (rs_cd 15) 348 = .ok (.getfield 51, 3) := by decide +kernel
theorem rs_d_15_351 : decode (rs_cd 15) 351 = .ok (.aload_n 0, 1) := by decide +kernel
theorem rs_d_15_352 : decode (rs_cd 15) 352 = .ok (.getfield 33, 3) := by decide +kernel
theorem rs_d_15_355 : decode (rs_cd 15) 355 = .ok (.getfield 177, 3) := by decide +kernel
theorem rs_d_15_358 : decode (rs_cd 15) 358 = .ok (.aload_n 0, 1) := by decide +kernel
theorem rs_d_15_359 : decode (rs_cd 15) 359 = .ok (.getfield 33, 3) := by decide +kernel
theorem rs_d_15_362 : decode (rs_cd 15) 362 = .ok (.getfield 180, 3) := by decide +kernel
theorem rs_d_15_365 : decode (rs_cd 15) 365 = .ok (.invokevirtual 151, 3) := by decide +kernel
theorem rs_d_15_368 : decode (rs_cd 15) 368 = .ok (.return_, 1) := by decide +kernel
theorem rs_d_16_0 : decode (rs_cd 16) 0 = .ok (.aload_n 0, 1) := by decide +kernel
theorem rs_d_16_1 : decode (rs_cd 16) 1 = .ok (.getfield 26, 3) := by decide +kernel
theorem rs_f_16_26 : rs_fd 16 26 = some (1, 3, 2) := by decide +kernel
theorem rs_d_16_4 : decode (rs_cd 16) 4 = .ok (.invokevirtual 166, 3) := by decide +kernel
theorem rs_t_16_166 : rs_tg 16 166 = some 31 := by decide +kernel
theorem rs_d_16_7 : decode (rs_cd 16) 7 = .ok (.aload_n 0, 1) := by decide +kernel
theorem rs_d_16_8 : decode (rs_cd 16) 8 = .ok (.getfield 30, 3) := by decide +kernel
theorem rs_f_16_30 : rs_fd 16 30 = some (1, 4, 2) := by decide +kernel
theorem rs_d_16_11 : decode (rs_cd 16) 11 = .ok (.invokevirtual 166, 3) := by decide +kernel
theorem rs_d_16_14 : decode (rs_cd 16) 14 = .ok (.aload_n 0, 1) := by decide +kernel
theorem rs_d_16_15 : decode (rs_cd 16) 15 = .ok (.getfield 33, 3) := by decide +kernel
theorem rs_f_16_33 : rs_fd 16 33 = some (1, 5, 2) := by decide +kernel
theorem rs_d_16_18 : decode (rs_cd 16) 18 = .ok (.invokevirtual 166, 3) := by decide +kernel
theorem rs_d_16_21 : decode (rs_cd 16) 21 = .ok (.return_, 1) := by decide +kernel
theorem rs_d_17_0 : decode (rs_cd 17) 0 = .ok (.aload_n 0, 1) := by decide +kernel
theorem rs_d_17_1 : decode (rs_cd 17) 1 = .ok (.getfield 42, 3) := by decide +kernel
theorem rs_f_17_42 : rs_fd 17 42 = some (3, 0, 0) := by decide +kernel
theorem rs_d_17_4 : decode (rs_cd 17) 4 = .ok (.iconst 2, 1) := by decide +kernel
theorem rs_d_17_5 : decode (rs_cd 17) 5 = .ok (.if_icmp .eq 14, 3) := by decide +kernel
theorem rs_d_17_8 : decode (rs_cd 17) 8 = .ok (.aload_n 0, 1) := by decide +kernel
theorem rs_d_17_9 : decode (rs_cd 17) 9 = .ok (.getfield 51, 3) := by decide +kernel
theorem rs_f_17_51 : rs_fd 17 51 = some (3, 3, 0) := by decide +kernel
theorem rs_d_17_12 : decode (rs_cd 17) 12 = .ok (.aload_n 0, 1) := by decide +kernel
theorem rs_d_17_13 : decode (rs_cd 17) 13 = .ok (.getfield 48, 3) := by decide +kernel
theorem rs_f_17_48 : rs_fd 17 48 = some (3, 2, 0) := by decide +kernel
theorem rs_d_17_16 : decode (rs_cd 17) 16 = .ok (.if_icmp .ne 5, 3) := by decide +kernel
theorem rs_d_17_19 : decode (rs_cd 17) 19 = .ok (.iconst 1, 1) := by decide +kernel
theorem rs_d_17_20 : decode (rs_cd 17) 20 = .ok (.ireturn, 1) := by decide +kernel
theorem rs_d_17_21 : decode (rs_cd 17) 21 = .ok (.aload_n 0, 1) := by decide +kernel
theorem rs_d_17_22 : decode (rs_cd 17) 22 = .ok (.getfield 51, 3) := by decide +kernel
theorem rs_d_17_25 : decode (rs_cd 17) 25 = .ok (.aload_n 0, 1) := by decide +kernel
theorem rs_d_17_26 : decode (rs_cd 17) 26 = .ok (.getfield 45, 3) := by decide +kernel
theorem rs_f_17_45 : rs_fd 17 45 = some (3, 1, 0) := by decide +kernel
theorem rs_d_17_29 : decode (rs_cd 17) 29 = .ok (.if_icmp .eq 26, 3) := by decide +kernel
theorem rs_d_17_32 : decode (rs_cd 17) 32 = .ok (.aload_n 1, 1) := by decide +kernel
theorem rs_d_17_33 : decode (rs_cd 17) 33 = .ok (.aload_n 0, 1) := by decide +kernel
theorem rs_d_17_34 : decode (rs_cd 17) 34 = .ok (.getfield 48, 3) := by decide +kernel
theorem rs_d_17_37 : decode (rs_cd 17) 37 = .ok (.invokevirtual 198, 3) := by decide +kernel
theorem rs_t_17_198 : rs_tg 17 198 = some 22 := by decide +kernel
theorem rs_d_17_40 : decode (rs_cd 17) 40 = .ok (.aload_n 1, 1) := by decide +kernel
theorem rs_d_17_41 : decode (rs_cd 17) 41 = .ok (.aload_n 0, 1) := by decide +kernel
theorem rs_d_17_42 : decode (rs_cd 17) 42 = .ok (.getfield 45, 3) := by decide +kernel
theorem rs_d_17_45 : decode (rs_cd 17) 45 = .ok (.invokevirtual 198, 3) := by decide +kernel
theorem rs_d_17_48 : decode (rs_cd 17) 48 = .ok (.if_icmp .ge 7, 3) := by decide +kernel
theorem rs_d_17_51 : decode (rs_cd 17) 51 = .ok (.iconst 1, 1) := by decide +kernel
theorem rs_d_17_52 : decode (rs_cd 17) 52 = .ok (.goto 4, 3) := by decide +kernel
theorem rs_d_17_55 : decode (rs_cd 17) 55 = .ok (.iconst 0, 1) := by decide +kernel
theorem rs_d_17_56 : decode (rs_cd 17) 56 = .ok (.ireturn, 1) := by decide +kernel
theorem rs_d_18_0 : decode (rs_cd 18) 0 = .ok (.iload_n 0, 1) := by decide +kernel
theorem rs_d_18_1 : decode (rs_cd 18) 1 = .ok (.tableswitch 162 0 9 #[55, 59, 97, 150, 162, 162, 162, 162, 162, 122], 55) := by decide +kernel
theorem rs_d_18_56 : decode (rs_cd 18) 56 = .ok (.iload_n 2, 1) := by decide +kernel
theorem rs_d_18_57 : decode (rs_cd 18) 57 = .ok (.iload_n 1, 1) := by decide +kernel
theorem rs_d_18_58 : decode (rs_cd 18) 58 = .ok (.isub, 1) := by decide +kernel
theorem rs_d_18_59 : decode (rs_cd 18) 59 = .ok (.ireturn, 1) := by decide +kernel
theorem rs_d_18_60 : decode (rs_cd 18) 60 = .ok (.iload_n 1, 1) := by decide +kernel
theorem rs_d_18_61 : decode (rs_cd 18) 61 = .ok (.ifCond .ne 20, 3) := by decide +kernel
theorem rs_d_18_64 : decode (rs_cd 18) 64 = .ok (.iload_n 2, 1) := by decide +kernel
theorem rs_d_18_65 : decode (rs_cd 18) 65 = .ok (.ifCond .gt 13, 3) := by decide +kernel
theorem rs_d_18_68 : decode (rs_cd 18) 68 = .ok (.iconst 0, 1) := by decide +kernel
theorem rs_d_18_69 : decode (rs_cd 18) 69 = .ok (.iload_n 3, 1) := by decide +kernel
theorem rs_d_18_70 : decode (rs_cd 18) 70 = .ok (.if_icmp .gt 8, 3) := by decide +kernel
theorem rs_d_18_73 : decode (rs_cd 18) 73 = .ok (.bipush (-101), 2) := by decide +kernel
theorem rs_d_18_75 : decode (rs_cd 18) 75 = .ok (.goto 5, 3) := by decide +kernel
theorem rs_d_18_78 : decode (rs_cd 18) 78 = .ok (.bipush 101, 2) := by decide +kernel
theorem rs_d_18_80 : decode (rs_cd 18) 80 = .ok (.ireturn, 1) := by decide +kernel
theorem rs_d_18_81 : decode (rs_cd 18) 81 = .ok (.iload_n 1, 1) := by decide +kernel
theorem rs_d_18_82 : decode (rs_cd 18) 82 = .ok (.ifCond .le 8, 3) := by decide +kernel
theorem rs_d_18_85 : decode (rs_cd 18) 85 = .ok (.iload_n 2, 1) := by decide +kernel
theorem rs_d_18_86 : decode (rs_cd 18) 86 = .ok (.ineg, 1) := by decide +kernel
theorem rs_d_18_87 : decode (rs_cd 18) 87 = .ok (.goto 5, 3) := by decide +kernel
theorem rs_d_18_90 : decode (rs_cd 18) 90 = .ok (.iload_n 3, 1) := by decide +kernel
theorem rs_d_18_91 : decode (rs_cd 18) 91 = .ok (.ineg, 1) := by decide +kernel
theorem rs_d_18_92 : decode (rs_cd 18) 92 = .ok (.iload_n 1, 1) := by decide +kernel
theorem rs_d_18_93 : decode (rs_cd 18) 93 = .ok (.invokestatic 54, 3) := by decide +kernel
theorem rs_t_18_54 : rs_tg 18 54 = some 115 := by decide +kernel
theorem rs_d_18_96 : decode (rs_cd 18) 96 = .ok (.ineg, 1) := by decide +kernel
theorem rs_d_18_97 : decode (rs_cd 18) 97 = .ok (.ireturn, 1) := by decide +kernel
theorem rs_d_18_98 : decode (rs_cd 18) 98 = .ok (.iload_n 1, 1) := by decide +kernel
theorem rs_d_18_99 : decode (rs_cd 18) 99 = .ok (.ifCond .ne 6, 3) := by decide +kernel
theorem rs_d_18_102 : decode (rs_cd 18) 102 = .ok (.bipush 101, 2) := by decide +kernel
theorem rs_d_18_104 : decode (rs_cd 18) 104 = .ok (.ireturn, 1) := by decide +kernel
theorem rs_d_18_105 : decode (rs_cd 18) 105 = .ok (.iload_n 1, 1) := by decide +kernel
theorem rs_d_18_106 : decode (rs_cd 18) 106 = .ok (.ifCond .le 9, 3) := by decide +kernel
theorem rs_d_18_109 : decode (rs_cd 18) 109 = .ok (.iload_n 2, 1) := by decide +kernel
theorem rs_d_18_110 : decode (rs_cd 18) 110 = .ok (.iload_n 1, 1) := by decide +kernel
theorem rs_d_18_111 : decode (rs_cd 18) 111 = .ok (.imul, 1) := by decide +kernel
theorem rs_d_18_112 : decode (rs_cd 18) 112 = .ok (.goto 10, 3) := by decide +kernel
theorem rs_d_18_115 : decode (rs_cd 18) 115 = .ok (.iload_n 3, 1) := by decide +kernel
theorem rs_d_18_116 : decode (rs_cd 18) 116 = .ok (.iconst 1, 1) := by decide +kernel
theorem rs_d_18_117 : decode (rs_cd 18) 117 = .ok (.iadd, 1) := by decide +kernel
theorem rs_d_18_118 : decode (rs_cd 18) 118 = .ok (.iload_n 1, 1) := by decide +kernel
theorem rs_d_18_119 : decode (rs_cd 18) 119 = .ok (.imul, 1) := by decide +kernel
theorem rs_d_18_120 : decode (rs_cd 18) 120 = .ok (.iconst 1, 1) := by decide +kernel
theorem rs_d_18_121 : decode (rs_cd 18) 121 = .ok (.iadd, 1) := by decide +kernel
theorem rs_d_18_122 : decode (rs_cd 18) 122 = .ok (.ireturn, 1) := by decide +kernel
theorem rs_d_18_123 : decode (rs_cd 18) 123 = .ok (.iload_n 1, 1) := by decide +kernel
theorem rs_d_18_124 : decode (rs_cd 18) 124 = .ok (.ifCond .ne 6, 3) := by decide +kernel
theorem rs_d_18_127 : decode (rs_cd 18) 127 = .ok (.bipush 101, 2) := by decide +kernel
theorem rs_d_18_129 : decode (rs_cd 18) 129 = .ok (.ireturn, 1) := by decide +kernel
theorem rs_d_18_130 : decode (rs_cd 18) 130 = .ok (.iload_n 1, 1) := by decide +kernel
theorem rs_d_18_131 : decode (rs_cd 18) 131 = .ok (.iconst 1, 1) := by decide +kernel
theorem rs_d_18_132 : decode (rs_cd 18) 132 = .ok (.if_icmp .ne 8, 3) := by decide +kernel
theorem rs_d_18_135 : decode (rs_cd 18) 135 = .ok (.bipush (-101), 2) := by decide +kernel
theorem rs_d_18_137 : decode (rs_cd 18) 137 = .ok (.goto 13, 3) := by decide +kernel
theorem rs_d_18_140 : decode (rs_cd 18) 140 = .ok (.iload_n 1, 1) := by decide +kernel
theorem rs_d_18_141 : decode (rs_cd 18) 141 = .ok (.iconst 1, 1) := by decide +kernel
theorem rs_d_18_142 : decode (rs_cd 18) 142 = .ok (.if_icmp .le 7, 3) := by decide +kernel
theorem rs_d_18_145 : decode (rs_cd 18) 145 = .ok (.iconst (-1), 1) := by decide +kernel
theorem rs_d_18_146 : decode (rs_cd 18) 146 = .ok (.goto 4, 3) := by decide +kernel
theorem rs_d_18_149 : decode (rs_cd 18) 149 = .ok (.iconst 0, 1) := by decide +kernel
theorem rs_d_18_150 : decode (rs_cd 18) 150 = .ok (.ireturn, 1) := by decide +kernel
theorem rs_d_18_151 : decode (rs_cd 18) 151 = .ok (.iload_n 1, 1) := by decide +kernel
theorem rs_d_18_152 : decode (rs_cd 18) 152 = .ok (.iload_n 2, 1) := by decide +kernel
theorem rs_d_18_153 : decode (rs_cd 18) 153 = .ok (.if_icmp .ge 8, 3) := by decide +kernel
theorem rs_d_18_156 : decode (rs_cd 18) 156 = .ok (.bipush 101, 2) := by decide +kernel
theorem rs_d_18_158 : decode (rs_cd 18) 158 = .ok (.goto 4, 3) := by decide +kernel
theorem rs_d_18_161 : decode (rs_cd 18) 161 = .ok (.iload_n 2, 1) := by decide +kernel
theorem rs_d_18_162 : decode (rs_cd 18) 162 = .ok (.ireturn, 1) := by decide +kernel
theorem rs_d_18_163 : decode (rs_cd 18) 163 = .ok (.iload_n 1, 1) := by decide +kernel
theorem rs_d_18_164 : decode (rs_cd 18) 164 = .ok (.iload_n 2, 1) := by decide +kernel
theorem rs_d_18_165 : decode (rs_cd 18) 165 = .ok (.if_icmp .ge 7, 3) := by decide +kernel
theorem rs_d_18_168 : decode (rs_cd 18) 168 = .ok (.iload_n 2, 1) := by decide +kernel
theorem rs_d_18_169 : decode (rs_cd 18) 169 = .ok (.goto 5, 3) := by decide +kernel
theorem rs_d_18_172 : decode (rs_cd 18) 172 = .ok (.bipush (-101), 2) := by decide +kernel
theorem rs_d_18_174 : decode (rs_cd 18) 174 = .ok (.ireturn, 1) := by decide +kernel
theorem rs_d_19_0 : decode (rs_cd 19) 0 = .ok (.iload_n 0, 1) := by decide +kernel
theorem rs_d_19_1 : decode (rs_cd 19) 1 = .ok (.tableswitch 122 0 9 #[55, 59, 80, 110, 122, 122, 122, 122, 122, 98], 55) := by decide +kernel
theorem rs_d_19_56 : decode (rs_cd 19) 56 = .ok (.iload_n 3, 1) := by decide +kernel
theorem rs_d_19_57 : decode (rs_cd 19) 57 = .ok (.iload_n 1, 1) := by decide +kernel
theorem rs_d_19_58 : decode (rs_cd 19) 58 = .ok (.isub, 1) := by decide +kernel
theorem rs_d_19_59 : decode (rs_cd 19) 59 = .ok (.ireturn, 1) := by decide +kernel
theorem rs_d_19_60 : decode (rs_cd 19) 60 = .ok (.iload_n 1, 1) := by decide +kernel
theorem rs_d_19_61 : decode (rs_cd 19) 61 = .ok (.ifCond .ne 6, 3) := by decide +kernel
theorem rs_d_19_64 : decode (rs_cd 19) 64 = .ok (.bipush 101, 2) := by decide +kernel
theorem rs_d_19_66 : decode (rs_cd 19) 66 = .ok (.ireturn, 1) := by decide +kernel
theorem rs_d_19_67 : decode (rs_cd 19) 67 = .ok (.iload_n 1, 1) := by decide +kernel
theorem rs_d_19_68 : decode (rs_cd 19) 68 = .ok (.ifCond .le 7, 3) := by decide +kernel
theorem rs_d_19_71 : decode (rs_cd 19) 71 = .ok (.iload_n 3, 1) := by decide +kernel
theorem rs_d_19_72 : decode (rs_cd 19) 72 = .ok (.goto 4, 3) := by decide +kernel
theorem rs_d_19_75 : decode (rs_cd 19) 75 = .ok (.iload_n 2, 1) := by decide +kernel
theorem rs_d_19_76 : decode (rs_cd 19) 76 = .ok (.iload_n 1, 1) := by decide +kernel
theorem rs_d_19_77 : decode (rs_cd 19) 77 = .ok (.invokestatic 54, 3) := by decide +kernel
theorem rs_t_19_54 : rs_tg 19 54 = some 115 := by decide +kernel
theorem rs_d_19_80 : decode (rs_cd 19) 80 = .ok (.ireturn, 1) := by decide +kernel
theorem rs_d_19_81 : decode (rs_cd 19) 81 = .ok (.iload_n 1, 1) := by decide +kernel
theorem rs_d_19_82 : decode (rs_cd 19) 82 = .ok (.ifCond .le 13, 3) := by decide +kernel
theorem rs_d_19_85 : decode (rs_cd 19) 85 = .ok (.iload_n 3, 1) := by decide +kernel
theorem rs_d_19_86 : decode (rs_cd 19) 86 = .ok (.iload_n 1, 1) := by decide +kernel
theorem rs_d_19_87 : decode (rs_cd 19) 87 = .ok (.imul, 1) := by decide +kernel
theorem rs_d_19_88 : decode (rs_cd 19) 88 = .ok (.iload_n 1, 1) := by decide +kernel
theorem rs_d_19_89 : decode (rs_cd 19) 89 = .ok (.iadd, 1) := by decide +kernel
theorem rs_d_19_90 : decode (rs_cd 19) 90 = .ok (.iconst 1, 1) := by decide +kernel
theorem rs_d_19_91 : decode (rs_cd 19) 91 = .ok (.isub, 1) := by decide +kernel
theorem rs_d_19_92 : decode (rs_cd 19) 92 = .ok (.goto 6, 3) := by decide +kernel
theorem rs_d_19_95 : decode (rs_cd 19) 95 = .ok (.iload_n 2, 1) := by decide +kernel
theorem rs_d_19_96 : decode (rs_cd 19) 96 = .ok (.iload_n 1, 1) := by decide +kernel
theorem rs_d_19_97 : decode (rs_cd 19) 97 = .ok (.imul, 1) := by decide +kernel
theorem rs_d_19_98 : decode (rs_cd 19) 98 = .ok (.ireturn, 1) := by decide +kernel
theorem rs_d_19_99 : decode (rs_cd 19) 99 = .ok (.iload_n 1, 1) := by decide +kernel
theorem rs_d_19_100 : decode (rs_cd 19) 100 = .ok (.iconst 1, 1) := by decide +kernel
theorem rs_d_19_101 : decode (rs_cd 19) 101 = .ok (.if_icmp .ne 8, 3) := by decide +kernel
theorem rs_d_19_104 : decode (rs_cd 19) 104 = .ok (.bipush 101, 2) := by decide +kernel
theorem rs_d_19_106 : decode (rs_cd 19) 106 = .ok (.goto 4, 3) := by decide +kernel
theorem rs_d_19_109 : decode (rs_cd 19) 109 = .ok (.iconst 0, 1) := by decide +kernel
theorem rs_d_19_110 : decode (rs_cd 19) 110 = .ok (.ireturn, 1) := by decide +kernel
theorem rs_d_19_111 : decode (rs_cd 19) 111 = .ok (.iload_n 1, 1) := by decide +kernel
theorem rs_d_19_112 : decode (rs_cd 19) 112 = .ok (.iload_n 3, 1) := by decide +kernel
theorem rs_d_19_113 : decode (rs_cd 19) 113 = .ok (.if_icmp .gt 8, 3) := by decide +kernel
theorem rs_d_19_116 : decode (rs_cd 19) 116 = .ok (.bipush 101, 2) := by decide +kernel
theorem rs_d_19_118 : decode (rs_cd 19) 118 = .ok (.goto 4, 3) := by decide +kernel
theorem rs_d_19_121 : decode (rs_cd 19) 121 = .ok (.iload_n 3, 1) := by decide +kernel
theorem rs_d_19_122 : decode (rs_cd 19) 122 = .ok (.ireturn, 1) := by decide +kernel
theorem rs_d_19_123 : decode (rs_cd 19) 123 = .ok (.iload_n 1, 1) := by decide +kernel
theorem rs_d_19_124 : decode (rs_cd 19) 124 = .ok (.iload_n 3, 1) := by decide +kernel
theorem rs_d_19_125 : decode (rs_cd 19) 125 = .ok (.if_icmp .le 8, 3) := by decide +kernel
theorem rs_d_19_128 : decode (rs_cd 19) 128 = .ok (.bipush (-101), 2) := by decide +kernel
theorem rs_d_19_130 : decode (rs_cd 19) 130 = .ok (.goto 4, 3) := by decide +kernel
theorem rs_d_19_133 : decode (rs_cd 19) 133 = .ok (.iload_n 3, 1) := by decide +kernel
theorem rs_d_19_134 : decode (rs_cd 19) 134 = .ok (.ireturn, 1) := by decide +kernel
theorem rs_d_20_0 : decode (rs_cd 20) 0 = .ok (.iload_n 0, 1) := by decide +kernel
theorem rs_d_20_1 : decode (rs_cd 20) 1 = .ok (.tableswitch 61 0 3 #[31, 35, 39, 55], 31) := by decide +kernel
theorem rs_d_20_32 : decode (rs_cd 20) 32 = .ok (.iload_n 1, 1) := by decide +kernel
theorem rs_d_20_33 : decode (rs_cd 20) 33 = .ok (.iload_n 2, 1) := by decide +kernel
theorem rs_d_20_34 : decode (rs_cd 20) 34 = .ok (.iadd, 1) := by decide +kernel
theorem rs_d_20_35 : decode (rs_cd 20) 35 = .ok (.ireturn, 1) := by decide +kernel
theorem rs_d_20_36 : decode (rs_cd 20) 36 = .ok (.iload_n 1, 1) := by decide +kernel
theorem rs_d_20_37 : decode (rs_cd 20) 37 = .ok (.iload_n 2, 1) := by decide +kernel
theorem rs_d_20_38 : decode (rs_cd 20) 38 = .ok (.imul, 1) := by decide +kernel
theorem rs_d_20_39 : decode (rs_cd 20) 39 = .ok (.ireturn, 1) := by decide +kernel
theorem rs_d_20_40 : decode (rs_cd 20) 40 = .ok (.iload_n 1, 1) := by decide +kernel
theorem rs_d_20_41 : decode (rs_cd 20) 41 = .ok (.ifCond .ne 9, 3) := by decide +kernel
theorem rs_d_20_44 : decode (rs_cd 20) 44 = .ok (.sipush (-1000), 3) := by decide +kernel
theorem rs_d_20_47 : decode (rs_cd 20) 47 = .ok (.goto 8, 3) := by decide +kernel
theorem rs_d_20_50 : decode (rs_cd 20) 50 = .ok (.iload_n 2, 1) := by decide +kernel
theorem rs_d_20_51 : decode (rs_cd 20) 51 = .ok (.iload_n 1, 1) := by decide +kernel
theorem rs_d_20_52 : decode (rs_cd 20) 52 = .ok (.invokestatic 54, 3) := by decide +kernel
theorem rs_t_20_54 : rs_tg 20 54 = some 115 := by decide +kernel
theorem rs_d_20_55 : decode (rs_cd 20) 55 = .ok (.ireturn, 1) := by decide +kernel
theorem rs_d_20_56 : decode (rs_cd 20) 56 = .ok (.iload_n 1, 1) := by decide +kernel
theorem rs_d_20_57 : decode (rs_cd 20) 57 = .ok (.iload_n 2, 1) := by decide +kernel
theorem rs_d_20_58 : decode (rs_cd 20) 58 = .ok (.invokestatic 60, 3) := by decide +kernel
theorem rs_t_20_60 : rs_tg 20 60 = none := by decide +kernel
theorem rs_s_20_60 : rs_sp 20 60 = some 1 := by decide +kernel
theorem rs_d_20_61 : decode (rs_cd 20) 61 = .ok (.ireturn, 1) := by decide +kernel
theorem rs_d_20_62 : decode (rs_cd 20) 62 = .ok (.iload_n 1, 1) := by decide +kernel
theorem rs_d_20_63 : decode (rs_cd 20) 63 = .ok (.iload_n 2, 1) := by decide +kernel
theorem rs_d_20_64 : decode (rs_cd 20) 64 = .ok (.invokestatic 63, 3) := by decide +kernel
theorem rs_t_20_63 : rs_tg 20 63 = none := by decide +kernel
theorem rs_s_20_63 : rs_sp 20 63 = some 0 := by decide +kernel
theorem rs_d_20_67 : decode (rs_cd 20) 67 = .ok (.ireturn, 1) := by decide +kernel
theorem rs_d_21_0 : decode (rs_cd 21) 0 = .ok (.aload_n 1, 1) := by decide +kernel
theorem rs_d_21_1 : decode (rs_cd 21) 1 = .ok (.getfield 9, 3) := by decide +kernel
theorem rs_f_21_9 : rs_fd 21 9 = some (2, 0, 2) := by decide +kernel
theorem rs_d_21_4 : decode (rs_cd 21) 4 = .ok (.iconst 0, 1) := by decide +kernel
theorem rs_d_21_5 : decode (rs_cd 21) 5 = .ok (.aload_n 0, 1) := by decide +kernel
theorem rs_d_21_6 : decode (rs_cd 21) 6 = .ok (.getfield 9, 3) := by decide +kernel
theorem rs_d_21_9 : decode (rs_cd 21) 9 = .ok (.iconst 0, 1) := by decide +kernel
theorem rs_d_21_10 : decode (rs_cd 21) 10 = .ok (.bipush 10, 2) := by decide +kernel
theorem rs_d_21_12 : decode (rs_cd 21) 12 = .ok (.invokestatic 18, 3) := by decide +kernel
theorem rs_t_21_18 : rs_tg 21 18 = none := by decide +kernel
theorem rs_s_21_18 : rs_sp 21 18 = some 2 := by decide +kernel
theorem rs_d_21_15 : decode (rs_cd 21) 15 = .ok (.aload_n 1, 1) := by decide +kernel
theorem rs_d_21_16 : decode (rs_cd 21) 16 = .ok (.getfield 15, 3) := by decide +kernel
theorem rs_f_21_15 : rs_fd 21 15 = some (2, 1, 2) := by decide +kernel
theorem rs_d_21_19 : decode (rs_cd 21) 19 = .ok (.iconst 0, 1) := by decide +kernel
theorem rs_d_21_20 : decode (rs_cd 21) 20 = .ok (.aload_n 0, 1) := by decide +kernel
theorem rs_d_21_21 : decode (rs_cd 21) 21 = .ok (.getfield 15, 3) := by decide +kernel
theorem rs_d_21_24 : decode (rs_cd 21) 24 = .ok (.iconst 0, 1) := by decide +kernel
theorem rs_d_21_25 : decode (rs_cd 21) 25 = .ok (.bipush 10, 2) := by decide +kernel
theorem rs_d_21_27 : decode (rs_cd 21) 27 = .ok (.invokestatic 18, 3) := by decide +kernel
theorem rs_d_21_30 : decode (rs_cd 21) 30 = .ok (.aload_n 0, 1) := by decide +kernel
theorem rs_d_21_31 : decode (rs_cd 21) 31 = .ok (.iconst 0, 1) := by decide +kernel
theorem rs_d_21_32 : decode (rs_cd 21) 32 = .ok (.putfield 24, 3) := by decide +kernel
theorem rs_f_21_24 : rs_fd 21 24 = some (2, 2, 0) := by decide +kernel
theorem rs_d_21_35 : decode (rs_cd 21) 35 = .ok (.aload_n 0, 1) := by decide +kernel
theorem rs_d_21_36 : decode (rs_cd 21) 36 = .ok (.iconst 0, 1) := by decide +kernel
theorem rs_d_21_37 : decode (rs_cd 21) 37 = .ok (.putfield 28, 3) := by decide +kernel
theorem rs_f_21_28 : rs_fd 21 28 = some (2, 3, 1) := by decide +kernel
theorem rs_d_21_40 : decode (rs_cd 21) 40 = .ok (.return_, 1) := by decide +kernel
theorem rs_d_22_0 : decode (rs_cd 22) 0 = .ok (.aload_n 0, 1) := by decide +kernel
theorem rs_d_22_1 : decode (rs_cd 22) 1 = .ok (.getfield 15, 3) := by decide +kernel
theorem rs_f_22_15 : rs_fd 22 15 = some (2, 1, 2) := by decide +kernel
theorem rs_d_22_4 : decode (rs_cd 22) 4 = .ok (.iload_n 1, 1) := by decide +kernel
theorem rs_d_22_5 : decode (rs_cd 22) 5 = .ok (.iaload, 1) := by decide +kernel
theorem rs_d_22_6 : decode (rs_cd 22) 6 = .ok (.aload_n 0, 1) := by decide +kernel
theorem rs_d_22_7 : decode (rs_cd 22) 7 = .ok (.getfield 9, 3) := by decide +kernel
theorem rs_f_22_9 : rs_fd 22 9 = some (2, 0, 2) := by decide +kernel
theorem rs_d_22_10 : decode (rs_cd 22) 10 = .ok (.iload_n 1, 1) := by decide +kernel
theorem rs_d_22_11 : decode (rs_cd 22) 11 = .ok (.iaload, 1) := by decide +kernel
theorem rs_d_22_12 : decode (rs_cd 22) 12 = .ok (.isub, 1) := by decide +kernel
theorem rs_d_22_13 : decode (rs_cd 22) 13 = .ok (.ireturn, 1) := by decide +kernel
theorem rs_d_23_0 : decode (rs_cd 23) 0 = .ok (.aload_n 0, 1) := by decide +kernel
theorem rs_d_23_1 : decode (rs_cd 23) 1 = .ok (.getfield 28, 3) := by decide +kernel
theorem rs_f_23_28 : rs_fd 23 28 = some (2, 3, 1) := by decide +kernel
theorem rs_d_23_4 : decode (rs_cd 23) 4 = .ok (.ifCond .eq 7, 3) := by decide +kernel
theorem rs_d_23_7 : decode (rs_cd 23) 7 = .ok (.sipush (-1000), 3) := by decide +kernel
theorem rs_d_23_10 : decode (rs_cd 23) 10 = .ok (.ireturn, 1) := by decide +kernel
theorem rs_d_23_11 : decode (rs_cd 23) 11 = .ok (.iload_n 2, 1) := by decide +kernel
theorem rs_d_23_12 : decode (rs_cd 23) 12 = .ok (.ifCond .eq 12, 3) := by decide +kernel
theorem rs_d_23_15 : decode (rs_cd 23) 15 = .ok (.aload_n 0, 1) := by decide +kernel
theorem rs_d_23_16 : decode (rs_cd 23) 16 = .ok (.getfield 15, 3) := by decide +kernel
theorem rs_f_23_15 : rs_fd 23 15 = some (2, 1, 2) := by decide +kernel
theorem rs_d_23_19 : decode (rs_cd 23) 19 = .ok (.iload_n 1, 1) := by decide +kernel
theorem rs_d_23_20 : decode (rs_cd 23) 20 = .ok (.iaload, 1) := by decide +kernel
theorem rs_d_23_21 : decode (rs_cd 23) 21 = .ok (.goto 9, 3) := by decide +kernel
theorem rs_d_23_24 : decode (rs_cd 23) 24 = .ok (.aload_n 0, 1) := by decide +kernel
theorem rs_d_23_25 : decode (rs_cd 23) 25 = .ok (.getfield 9, 3) := by decide +kernel
theorem rs_f_23_9 : rs_fd 23 9 = some (2, 0, 2) := by decide +kernel
theorem rs_d_23_28 : decode (rs_cd 23) 28 = .ok (.iload_n 1, 1) := by decide +kernel
theorem rs_d_23_29 : decode (rs_cd 23) 29 = .ok (.iaload, 1) := by decide +kernel
theorem rs_d_23_30 : decode (rs_cd 23) 30 = .ok (.ireturn, 1) := by decide +kernel
theorem rs_d_24_0 : decode (rs_cd 24) 0 = .ok (.iload_n 2, 1) := by decide +kernel
theorem rs_d_24_1 : decode (rs_cd 24) 1 = .ok (.aload_n 0, 1) := by decide +kernel
theorem rs_d_24_2 : decode (rs_cd 24) 2 = .ok (.getfield 9, 3) := by decide +kernel
theorem rs_f_24_9 : rs_fd 24 9 = some (2, 0, 2) := by decide +kernel
theorem rs_d_24_5 : decode (rs_cd 24) 5 = .ok (.iload_n 1, 1) := by decide +kernel
theorem rs_d_24_6 : decode (rs_cd 24) 6 = .ok (.iaload, 1) := by decide +kernel
theorem rs_d_24_7 : decode (rs_cd 24) 7 = .ok (.if_icmp .le 48, 3) := by decide +kernel
theorem rs_d_24_10 : decode (rs_cd 24) 10 = .ok (.aload_n 0, 1) := by decide +kernel
theorem rs_d_24_11 : decode (rs_cd 24) 11 = .ok (.getfield 9, 3) := by decide +kernel
theorem rs_d_24_14 : decode (rs_cd 24) 14 = .ok (.iload_n 1, 1) := by decide +kernel
theorem rs_d_24_15 : decode (rs_cd 24) 15 = .ok (.iload_n 2, 1) := by decide +kernel
theorem rs_d_24_16 : decode (rs_cd 24) 16 = .ok (.iastore, 1) := by decide +kernel
theorem rs_d_24_17 : decode (rs_cd 24) 17 = .ok (.aload_n 0, 1) := by decide +kernel
theorem rs_d_24_18 : decode (rs_cd 24) 18 = .ok (.dup, 1) := by decide +kernel
theorem rs_d_24_19 : decode (rs_cd 24) 19 = .ok (.getfield 24, 3) := by decide +kernel
theorem rs_f_24_24 : rs_fd 24 24 = some (2, 2, 0) := by decide +kernel
theorem rs_d_24_22 : decode (rs_cd 24) 22 = .ok (.iconst 1, 1) := by decide +kernel
theorem rs_d_24_23 : decode (rs_cd 24) 23 = .ok (.iload_n 1, 1) := by decide +kernel
theorem rs_d_24_24 : decode (rs_cd 24) 24 = .ok (.ishl, 1) := by decide +kernel
theorem rs_d_24_25 : decode (rs_cd 24) 25 = .ok (.ior, 1) := by decide +kernel
theorem rs_d_24_26 : decode (rs_cd 24) 26 = .ok (.putfield 24, 3) := by decide +kernel
theorem rs_d_24_29 : decode (rs_cd 24) 29 = .ok (.aload_n 0, 1) := by decide +kernel
theorem rs_d_24_30 : decode (rs_cd 24) 30 = .ok (.aload_n 0, 1) := by decide +kernel
theorem rs_d_24_31 : decode (rs_cd 24) 31 = .ok (.getfield 28, 3) := by decide +kernel
theorem rs_f_24_28 : rs_fd 24 28 = some (2, 3, 1) := by decide +kernel
theorem rs_d_24_34 : decode (rs_cd 24) 34 = .ok (.ifCond .ne 13, 3) := by decide +kernel
theorem rs_d_24_37 : decode (rs_cd 24) 37 = .ok (.iload_n 2, 1) := by decide +kernel
theorem rs_d_24_38 : decode (rs_cd 24) 38 = .ok (.aload_n 0, 1) := by decide +kernel
theorem rs_d_24_39 : decode (rs_cd 24) 39 = .ok (.getfield 15, 3) := by decide +kernel
theorem rs_f_24_15 : rs_fd 24 15 = some (2, 1, 2) := by decide +kernel
theorem rs_d_24_42 : decode (rs_cd 24) 42 = .ok (.iload_n 1, 1) := by decide +kernel
theorem rs_d_24_43 : decode (rs_cd 24) 43 = .ok (.iaload, 1) := by decide +kernel
theorem rs_d_24_44 : decode (rs_cd 24) 44 = .ok (.if_icmp .le 7, 3) := by decide +kernel
theorem rs_d_24_47 : decode (rs_cd 24) 47 = .ok (.iconst 1, 1) := by decide +kernel
theorem rs_d_24_48 : decode (rs_cd 24) 48 = .ok (.goto 4, 3) := by decide +kernel
theorem rs_d_24_51 : decode (rs_cd 24) 51 = .ok (.iconst 0, 1) := by decide +kernel
theorem rs_d_24_52 : decode (rs_cd 24) 52 = .ok (.putfield 28, 3) := by decide +kernel
theorem rs_d_24_55 : decode (rs_cd 24) 55 = .ok (.return_, 1) := by decide +kernel
theorem rs_d_25_0 : decode (rs_cd 25) 0 = .ok (.iload_n 2, 1) := by decide +kernel
theorem rs_d_25_1 : decode (rs_cd 25) 1 = .ok (.aload_n 0, 1) := by decide +kernel
theorem rs_d_25_2 : decode (rs_cd 25) 2 = .ok (.getfield 15, 3) := by decide +kernel
theorem rs_f_25_15 : rs_fd 25 15 = some (2, 1, 2) := by decide +kernel
theorem rs_d_25_5 : decode (rs_cd 25) 5 = .ok (.iload_n 1, 1) := by decide +kernel
theorem rs_d_25_6 : decode (rs_cd 25) 6 = .ok (.iaload, 1) := by decide +kernel
theorem rs_d_25_7 : decode (rs_cd 25) 7 = .ok (.if_icmp .ge 48, 3) := by decide +kernel
theorem rs_d_25_10 : decode (rs_cd 25) 10 = .ok (.aload_n 0, 1) := by decide +kernel
theorem rs_d_25_11 : decode (rs_cd 25) 11 = .ok (.getfield 15, 3) := by decide +kernel
theorem rs_d_25_14 : decode (rs_cd 25) 14 = .ok (.iload_n 1, 1) := by decide +kernel
theorem rs_d_25_15 : decode (rs_cd 25) 15 = .ok (.iload_n 2, 1) := by decide +kernel
theorem rs_d_25_16 : decode (rs_cd 25) 16 = .ok (.iastore, 1) := by decide +kernel
theorem rs_d_25_17 : decode (rs_cd 25) 17 = .ok (.aload_n 0, 1) := by decide +kernel
theorem rs_d_25_18 : decode (rs_cd 25) 18 = .ok (.dup, 1) := by decide +kernel
theorem rs_d_25_19 : decode (rs_cd 25) 19 = .ok (.getfield 24, 3) := by decide +kernel
theorem rs_f_25_24 : rs_fd 25 24 = some (2, 2, 0) := by decide +kernel
theorem rs_d_25_22 : decode (rs_cd 25) 22 = .ok (.iconst 1, 1) := by decide +kernel
theorem rs_d_25_23 : decode (rs_cd 25) 23 = .ok (.iload_n 1, 1) := by decide +kernel
theorem rs_d_25_24 : decode (rs_cd 25) 24 = .ok (.ishl, 1) := by decide +kernel
theorem rs_d_25_25 : decode (rs_cd 25) 25 = .ok (.ior, 1) := by decide +kernel
theorem rs_d_25_26 : decode (rs_cd 25) 26 = .ok (.putfield 24, 3) := by decide +kernel
theorem rs_d_25_29 : decode (rs_cd 25) 29 = .ok (.aload_n 0, 1) := by decide +kernel
theorem rs_d_25_30 : decode (rs_cd 25) 30 = .ok (.aload_n 0, 1) := by decide +kernel
theorem rs_d_25_31 : decode (rs_cd 25) 31 = .ok (.getfield 28, 3) := by decide +kernel
theorem rs_f_25_28 : rs_fd 25 28 = some (2, 3, 1) := by decide +kernel
theorem rs_d_25_34 : decode (rs_cd 25) 34 = .ok (.ifCond .ne 13, 3) := by decide +kernel
theorem rs_d_25_37 : decode (rs_cd 25) 37 = .ok (.iload_n 2, 1) := by decide +kernel
theorem rs_d_25_38 : decode (rs_cd 25) 38 = .ok (.aload_n 0, 1) := by decide +kernel
theorem rs_d_25_39 : decode (rs_cd 25) 39 = .ok (.getfield 9, 3) := by decide +kernel
theorem rs_f_25_9 : rs_fd 25 9 = some (2, 0, 2) := by decide +kernel
theorem rs_d_25_42 : decode (rs_cd 25) 42 = .ok (.iload_n 1, 1) := by decide +kernel
theorem rs_d_25_43 : decode (rs_cd 25) 43 = .ok (.iaload, 1) := by decide +kernel
theorem rs_d_25_44 : decode (rs_cd 25) 44 = .ok (.if_icmp .ge 7, 3) := by decide +kernel
theorem rs_d_25_47 : decode (rs_cd 25) 47 = .ok (.iconst 1, 1) := by decide +kernel
theorem rs_d_25_48 : decode (rs_cd 25) 48 = .ok (.goto 4, 3) := by decide +kernel
theorem rs_d_25_51 : decode (rs_cd 25) 51 = .ok (.iconst 0, 1) := by decide +kernel
theorem rs_d_25_52 : decode (rs_cd 25) 52 = .ok (.putfield 28, 3) := by decide +kernel
theorem rs_d_25_55 : decode (rs_cd 25) 55 = .ok (.return_, 1) := by decide +kernel
theorem rs_d_26_0 : decode (rs_cd 26) 0 = .ok (.aload_n 0, 1) := by decide +kernel
theorem rs_d_26_1 : decode (rs_cd 26) 1 = .ok (.iload_n 1, 1) := by decide +kernel
theorem rs_d_26_2 : decode (rs_cd 26) 2 = .ok (.iload_n 2, 1) := by decide +kernel
theorem rs_d_26_3 : decode (rs_cd 26) 3 = .ok (.invokevirtual 32, 3) := by decide +kernel
theorem rs_t_26_32 : rs_tg 26 32 = some 24 := by decide +kernel
theorem rs_d_26_6 : decode (rs_cd 26) 6 = .ok (.aload_n 0, 1) := by decide +kernel
theorem rs_d_26_7 : decode (rs_cd 26) 7 = .ok (.iload_n 1, 1) := by decide +kernel
theorem rs_d_26_8 : decode (rs_cd 26) 8 = .ok (.iload_n 3, 1) := by decide +kernel
theorem rs_d_26_9 : decode (rs_cd 26) 9 = .ok (.invokevirtual 36, 3) := by decide +kernel
theorem rs_t_26_36 : rs_tg 26 36 = some 25 := by decide +kernel
theorem rs_d_26_12 : decode (rs_cd 26) 12 = .ok (.return_, 1) := by decide +kernel
theorem rs_d_27_0 : decode (rs_cd 27) 0 = .ok (.aload_n 0, 1) := by decide +kernel
theorem rs_d_27_1 : decode (rs_cd 27) 1 = .ok (.iload_n 1, 1) := by decide +kernel
theorem rs_d_27_2 : decode (rs_cd 27) 2 = .ok (.putfield 9, 3) := by decide +kernel
theorem rs_f_27_9 : rs_fd 27 9 = some (3, 0, 0) := by decide +kernel
theorem rs_d_27_5 : decode (rs_cd 27) 5 = .ok (.aload_n 0, 1) := by decide +kernel
theorem rs_d_27_6 : decode (rs_cd 27) 6 = .ok (.iload_n 2, 1) := by decide +kernel
theorem rs_d_27_7 : decode (rs_cd 27) 7 = .ok (.putfield 15, 3) := by decide +kernel
theorem rs_f_27_15 : rs_fd 27 15 = some (3, 1, 0) := by decide +kernel
theorem rs_d_27_10 : decode (rs_cd 27) 10 = .ok (.aload_n 0, 1) := by decide +kernel
theorem rs_d_27_11 : decode (rs_cd 27) 11 = .ok (.iload_n 3, 1) := by decide +kernel
theorem rs_d_27_12 : decode (rs_cd 27) 12 = .ok (.putfield 18, 3) := by decide +kernel
theorem rs_f_27_18 : rs_fd 27 18 = some (3, 2, 0) := by decide +kernel
theorem rs_d_27_15 : decode (rs_cd 27) 15 = .ok (.aload_n 0, 1) := by decide +kernel
theorem rs_d_27_16 : decode (rs_cd 27) 16 = .ok (.iload 4, 2) := by decide +kernel
theorem rs_d_27_18 : decode (rs_cd 27) 18 = .ok (.putfield 21, 3) := by decide +kernel
theorem rs_f_27_21 : rs_fd 27 21 = some (3, 3, 0) := by decide +kernel
theorem rs_d_27_21 : decode (rs_cd 27) 21 = .ok (.aload_n 0, 1) := by decide +kernel
theorem rs_d_27_22 : decode (rs_cd 27) 22 = .ok (.iconst 1, 1) := by decide +kernel
theorem rs_d_27_23 : decode (rs_cd 27) 23 = .ok (.putfield 24, 3) := by decide +kernel
theorem rs_f_27_24 : rs_fd 27 24 = some (3, 5, 1) := by decide +kernel
theorem rs_d_27_26 : decode (rs_cd 27) 26 = .ok (.aload_n 0, 1) := by decide +kernel
theorem rs_d_27_27 : decode (rs_cd 27) 27 = .ok (.getfield 9, 3) := by decide +kernel
theorem rs_d_27_30 : decode (rs_cd 27) 30 = .ok (.bipush 7, 2) := by decide +kernel
theorem rs_d_27_32 : decode (rs_cd 27) 32 = .ok (.if_icmp .ne 14, 3) := by decide +kernel
theorem rs_d_27_35 : decode (rs_cd 27) 35 = .ok (.aload_n 0, 1) := by decide +kernel
theorem rs_d_27_36 : decode (rs_cd 27) 36 = .ok (.aload_n 0, 1) := by decide +kernel
theorem rs_d_27_37 : decode (rs_cd 27) 37 = .ok (.getfield 15, 3) := by decide +kernel
theorem rs_d_27_40 : decode (rs_cd 27) 40 = .ok (.putfield 28, 3) := by decide +kernel
theorem rs_f_27_28 : rs_fd 27 28 = some (3, 4, 0) := by decide +kernel
theorem rs_d_27_43 : decode (rs_cd 27) 43 = .ok (.goto 64, 3) := by decide +kernel
theorem rs_d_27_46 : decode (rs_cd 27) 46 = .ok (.aload_n 0, 1) := by decide +kernel
theorem rs_d_27_47 : decode (rs_cd 27) 47 = .ok (.getfield 9, 3) := by decide +kernel
theorem rs_d_27_50 : decode (rs_cd 27) 50 = .ok (.iconst 5, 1) := by decide +kernel
theorem rs_d_27_51 : decode (rs_cd 27) 51 = .ok (.if_icmp .eq 12, 3) := by decide +kernel
theorem rs_d_27_54 : decode (rs_cd 27) 54 = .ok (.aload_n 0, 1) := by decide +kernel
theorem rs_d_27_55 : decode (rs_cd 27) 55 = .ok (.getfield 9, 3) := by decide +kernel
theorem rs_d_27_58 : decode (rs_cd 27) 58 = .ok (.bipush 8, 2) := by decide +kernel
theorem rs_d_27_60 : decode (rs_cd 27) 60 = .ok (.if_icmp .ne 23, 3) := by decide +kernel
theorem rs_d_27_63 : decode (rs_cd 27) 63 = .ok (.aload_n 0, 1) := by decide +kernel
theorem rs_d_27_64 : decode (rs_cd 27) 64 = .ok (.iconst 1, 1) := by decide +kernel
theorem rs_d_27_65 : decode (rs_cd 27) 65 = .ok (.aload_n 0, 1) := by decide +kernel
theorem rs_d_27_66 : decode (rs_cd 27) 66 = .ok (.getfield 15, 3) := by decide +kernel
theorem rs_d_27_69 : decode (rs_cd 27) 69 = .ok (.ishl, 1) := by decide +kernel
theorem rs_d_27_70 : decode (rs_cd 27) 70 = .ok (.iconst 1, 1) := by decide +kernel
theorem rs_d_27_71 : decode (rs_cd 27) 71 = .ok (.aload_n 0, 1) := by decide +kernel
theorem rs_d_27_72 : decode (rs_cd 27) 72 = .ok (.getfield 18, 3) := by decide +kernel
theorem rs_d_27_75 : decode (rs_cd 27) 75 = .ok (.ishl, 1) := by decide +kernel
theorem rs_d_27_76 : decode (rs_cd 27) 76 = .ok (.ior, 1) := by decide +kernel
theorem rs_d_27_77 : decode (rs_cd 27) 77 = .ok (.putfield 28, 3) := by decide +kernel
theorem rs_d_27_80 : decode (rs_cd 27) 80 = .ok (.goto 27, 3) := by decide +kernel
theorem rs_d_27_83 : decode (rs_cd 27) 83 = .ok (.aload_n 0, 1) := by decide +kernel
theorem rs_d_27_84 : decode (rs_cd 27) 84 = .ok (.iconst 1, 1) := by decide +kernel
theorem rs_d_27_85 : decode (rs_cd 27) 85 = .ok (.aload_n 0, 1) := by decide +kernel
theorem rs_d_27_86 : decode (rs_cd 27) 86 = .ok (.getfield 15, 3) := by decide +kernel
theorem rs_d_27_89 : decode (rs_cd 27) 89 = .ok (.ishl, 1) := by decide +kernel
theorem rs_d_27_90 : decode (rs_cd 27) 90 = .ok (.iconst 1, 1) := by decide +kernel
theorem rs_d_27_91 : decode (rs_cd 27) 91 = .ok (.aload_n 0, 1) := by decide +kernel
theorem rs_d_27_92 : decode (rs_cd 27) 92 = .ok (.getfield 18, 3) := by decide +kernel
theorem rs_d_27_95 : decode (rs_cd 27) 95 = .ok (.ishl, 1) := by decide +kernel
theorem rs_d_27_96 : decode (rs_cd 27) 96 = .ok (.ior, 1) := by decide +kernel
theorem rs_d_27_97 : decode (rs_cd 27) 97 = .ok (.iconst 1, 1) := by decide +kernel
theorem rs_d_27_98 : decode (rs_cd 27) 98 = .ok (.aload_n 0, 1) := by decide +kernel
theorem rs_d_27_99 : decode (rs_cd 27) 99 = .ok (.getfield 21, 3) := by decide +kernel
theorem rs_d_27_102 : decode (rs_cd 27) 102 = .ok (.ishl, 1) := by decide +kernel
theorem rs_d_27_103 : decode (rs_cd 27) 103 = .ok (.ior, 1) := by decide +kernel
theorem rs_d_27_104 : decode (rs_cd 27) 104 = .ok (.putfield 28, 3) := by decide +kernel
theorem rs_d_27_107 : decode (rs_cd 27) 107 = .ok (.return_, 1) := by decide +kernel
theorem rs_d_28_0 : decode (rs_cd 28) 0 = .ok (.aload_n 0, 1) := by decide +kernel
theorem rs_d_28_1 : decode (rs_cd 28) 1 = .ok (.iload_n 1, 1) := by decide +kernel
theorem rs_d_28_2 : decode (rs_cd 28) 2 = .ok (.putfield 25, 3) := by decide +kernel
theorem rs_f_28_25 : rs_fd 28 25 = some (4, 5, 0) := by decide +kernel
theorem rs_d_28_5 : decode (rs_cd 28) 5 = .ok (.aload_n 0, 1) := by decide +kernel
theorem rs_d_28_6 : decode (rs_cd 28) 6 = .ok (.iload_n 3, 1) := by decide +kernel
theorem rs_d_28_7 : decode (rs_cd 28) 7 = .ok (.putfield 29, 3) := by decide +kernel
theorem rs_f_28_29 : rs_fd 28 29 = some (4, 6, 1) := by decide +kernel
theorem rs_d_28_10 : decode (rs_cd 28) 10 = .ok (.aload_n 0, 1) := by decide +kernel
theorem rs_d_28_11 : decode (rs_cd 28) 11 = .ok (.iload 4, 2) := by decide +kernel
theorem rs_d_28_13 : decode (rs_cd 28) 13 = .ok (.putfield 33, 3) := by decide +kernel
theorem rs_f_28_33 : rs_fd 28 33 = some (4, 7, 0) := by decide +kernel
theorem rs_d_28_16 : decode (rs_cd 28) 16 = .ok (.aload_n 0, 1) := by decide +kernel
theorem rs_d_28_17 : decode (rs_cd 28) 17 = .ok (.iconst 0, 1) := by decide +kernel
theorem rs_d_28_18 : decode (rs_cd 28) 18 = .ok (.putfield 36, 3) := by decide +kernel
theorem rs_f_28_36 : rs_fd 28 36 = some (4, 3, 0) := by decide +kernel
theorem rs_d_28_21 : decode (rs_cd 28) 21 = .ok (.aload_n 0, 1) := by decide +kernel
theorem rs_d_28_22 : decode (rs_cd 28) 22 = .ok (.getfield 21, 3) := by decide +kernel
theorem rs_f_28_21 : rs_fd 28 21 = some (4, 4, 2) := by decide +kernel
theorem rs_d_28_25 : decode (rs_cd 28) 25 = .ok (.iconst 0, 1) := by decide +kernel
theorem rs_d_28_26 : decode (rs_cd 28) 26 = .ok (.iload_n 2, 1) := by decide +kernel
theorem rs_d_28_27 : decode (rs_cd 28) 27 = .ok (.iastore, 1) := by decide +kernel
theorem rs_d_28_28 : decode (rs_cd 28) 28 = .ok (.iconst 1, 1) := by decide +kernel
theorem rs_d_28_29 : decode (rs_cd 28) 29 = .ok (.istore 5, 2) := by decide +kernel
theorem rs_d_28_31 : decode (rs_cd 28) 31 = .ok (.iconst 0, 1) := by decide +kernel
theorem rs_d_28_32 : decode (rs_cd 28) 32 = .ok (.istore 6, 2) := by decide +kernel
theorem rs_d_28_34 : decode (rs_cd 28) 34 = .ok (.iload 6, 2) := by decide +kernel
theorem rs_d_28_36 : decode (rs_cd 28) 36 = .ok (.aload_n 0, 1) := by decide +kernel
theorem rs_d_28_37 : decode (rs_cd 28) 37 = .ok (.getfield 25, 3) := by decide +kernel
theorem rs_d_28_40 : decode (rs_cd 28) 40 = .ok (.if_icmp .ge 27, 3) := by decide +kernel
theorem rs_d_28_43 : decode (rs_cd 28) 43 = .ok (.iload 6, 2) := by decide +kernel
theorem rs_d_28_45 : decode (rs_cd 28) 45 = .ok (.iload_n 2, 1) := by decide +kernel
theorem rs_d_28_46 : decode (rs_cd 28) 46 = .ok (.if_icmp .eq 15, 3) := by decide +kernel
theorem rs_d_28_49 : decode (rs_cd 28) 49 = .ok (.aload_n 0, 1) := by decide +kernel
theorem rs_d_28_50 : decode (rs_cd 28) 50 = .ok (.getfield 21, 3) := by decide +kernel
theorem rs_d_28_53 : decode (rs_cd 28) 53 = .ok (.iload 5, 2) := by decide +kernel
theorem rs_d_28_55 : decode (rs_cd 28) 55 = .ok (.iload 6, 2) := by decide +kernel
theorem rs_d_28_57 : decode (rs_cd 28) 57 = .ok (.iastore, 1) := by decide +kernel
theorem rs_d_28_58 : decode (rs_cd 28) 58 = .ok (.iinc 5 1, 3) := by decide +kernel
theorem rs_d_28_61 : decode (rs_cd 28) 61 = .ok (.iinc 6 1, 3) := by decide +kernel
theorem rs_d_28_64 : decode (rs_cd 28) 64 = .ok (.goto (-30), 3) := by decide +kernel
theorem rs_d_28_67 : decode (rs_cd 28) 67 = .ok (.return_, 1) := by decide +kernel
theorem rs_d_29_0 : decode (rs_cd 29) 0 = .ok (.aload_n 0, 1) := by decide +kernel
theorem rs_d_29_1 : decode (rs_cd 29) 1 = .ok (.getfield 11, 3) := by decide +kernel
theorem rs_f_29_11 : rs_fd 29 11 = some (4, 0, 2) := by decide +kernel
theorem rs_d_29_4 : decode (rs_cd 29) 4 = .ok (.iload_n 2, 1) := by decide +kernel
theorem rs_d_29_5 : decode (rs_cd 29) 5 = .ok (.aaload, 1) := by decide +kernel
theorem rs_d_29_6 : decode (rs_cd 29) 6 = .ok (.astore_n 3, 1) := by decide +kernel
theorem rs_d_29_7 : decode (rs_cd 29) 7 = .ok (.aload_n 3, 1) := by decide +kernel
theorem rs_d_29_8 : decode (rs_cd 29) 8 = .ok (.getfield 39, 3) := by decide +kernel
theorem rs_f_29_39 : rs_fd 29 39 = some (2, 3, 1) := by decide +kernel
theorem rs_d_29_11 : decode (rs_cd 29) 11 = .ok (.ifCond .eq 5, 3) := by decide +kernel
theorem rs_d_29_14 : decode (rs_cd 29) 14 = .ok (.iconst 0, 1) := by decide +kernel
theorem rs_d_29_15 : decode (rs_cd 29) 15 = .ok (.ireturn, 1) := by decide +kernel
theorem rs_d_29_16 : decode (rs_cd 29) 16 = .ok (.aload_n 0, 1) := by decide +kernel
theorem rs_d_29_17 : decode (rs_cd 29) 17 = .ok (.aload_n 3, 1) := by decide +kernel
theorem rs_d_29_18 : decode (rs_cd 29) 18 = .ok (.invokevirtual 42, 3) := by decide +kernel
theorem rs_t_29_42 : rs_tg 29 42 = some 30 := by decide +kernel
theorem rs_d_29_21 : decode (rs_cd 29) 21 = .ok (.istore 4, 2) := by decide +kernel
theorem rs_d_29_23 : decode (rs_cd 29) 23 = .ok (.iload 4, 2) := by decide +kernel
theorem rs_d_29_25 : decode (rs_cd 29) 25 = .ok (.sipush (-1000), 3) := by decide +kernel
theorem rs_d_29_28 : decode (rs_cd 29) 28 = .ok (.if_icmp .ne 28, 3) := by decide +kernel
theorem rs_d_29_31 : decode (rs_cd 29) 31 = .ok (.aload_n 3, 1) := by decide +kernel
theorem rs_d_29_32 : decode (rs_cd 29) 32 = .ok (.getfield 46, 3) := by decide +kernel
theorem rs_f_29_46 : rs_fd 29 46 = some (2, 0, 2) := by decide +kernel
theorem rs_d_29_35 : decode (rs_cd 29) 35 = .ok (.iconst 0, 1) := by decide +kernel
theorem rs_d_29_36 : decode (rs_cd 29) 36 = .ok (.aload_n 0, 1) := by decide +kernel
theorem rs_d_29_37 : decode (rs_cd 29) 37 = .ok (.getfield 17, 3) := by decide +kernel
theorem rs_f_29_17 : rs_fd 29 17 = some (4, 1, 2) := by decide +kernel
theorem rs_d_29_40 : decode (rs_cd 29) 40 = .ok (.iconst 0, 1) := by decide +kernel
theorem rs_d_29_41 : decode (rs_cd 29) 41 = .ok (.bipush 10, 2) := by decide +kernel
theorem rs_d_29_43 : decode (rs_cd 29) 43 = .ok (.invokestatic 49, 3) := by decide +kernel
theorem rs_t_29_49 : rs_tg 29 49 = none := by decide +kernel
theorem rs_s_29_49 : rs_sp 29 49 = some 2 := by decide +kernel
theorem rs_d_29_46 : decode (rs_cd 29) 46 = .ok (.aload_n 0, 1) := by decide +kernel
theorem rs_d_29_47 : decode (rs_cd 29) 47 = .ok (.aload_n 0, 1) := by decide +kernel
theorem rs_d_29_48 : decode (rs_cd 29) 48 = .ok (.getfield 25, 3) := by decide +kernel
theorem rs_f_29_25 : rs_fd 29 25 = some (4, 5, 0) := by decide +kernel
theorem rs_d_29_51 : decode (rs_cd 29) 51 = .ok (.putfield 55, 3) := by decide +kernel
theorem rs_f_29_55 : rs_fd 29 55 = some (4, 2, 0) := by decide +kernel
theorem rs_d_29_54 : decode (rs_cd 29) 54 = .ok (.iconst 1, 1) := by decide +kernel
theorem rs_d_29_55 : decode (rs_cd 29) 55 = .ok (.ireturn, 1) := by decide +kernel
theorem rs_d_29_56 : decode (rs_cd 29) 56 = .ok (.iload_n 2, 1) := by decide +kernel
theorem rs_d_29_57 : decode (rs_cd 29) 57 = .ok (.bipush 10, 2) := by decide +kernel
theorem rs_d_29_59 : decode (rs_cd 29) 59 = .ok (.if_icmp .lt 5, 3) := by decide +kernel
theorem rs_d_29_62 : decode (rs_cd 29) 62 = .ok (.iconst 0, 1) := by decide +kernel
theorem rs_d_29_63 : decode (rs_cd 29) 63 = .ok (.ireturn, 1) := by decide +kernel
theorem rs_d_29_64 : decode (rs_cd 29) 64 = .ok (.aload_n 0, 1) := by decide +kernel
theorem rs_d_29_65 : decode (rs_cd 29) 65 = .ok (.getfield 29, 3) := by decide +kernel
theorem rs_f_29_29 : rs_fd 29 29 = some (4, 6, 1) := by decide +kernel
theorem rs_d_29_68 : decode (rs_cd 29) 68 = .ok (.ifCond .eq 18, 3) := by decide +kernel
theorem rs_d_29_71 : decode (rs_cd 29) 71 = .ok (.iload 4, 2) := by decide +kernel
theorem rs_d_29_73 : decode (rs_cd 29) 73 = .ok (.aload_n 0, 1) := by decide +kernel
theorem rs_d_29_74 : decode (rs_cd 29) 74 = .ok (.getfield 21, 3) := by decide +kernel
theorem rs_f_29_21 : rs_fd 29 21 = some (4, 4, 2) := by decide +kernel
theorem rs_d_29_77 : decode (rs_cd 29) 77 = .ok (.iconst 0, 1) := by decide +kernel
theorem rs_d_29_78 : decode (rs_cd 29) 78 = .ok (.iaload, 1) := by decide +kernel
theorem rs_d_29_79 : decode (rs_cd 29) 79 = .ok (.if_icmp .ne 7, 3) := by decide +kernel
theorem rs_d_29_82 : decode (rs_cd 29) 82 = .ok (.iconst 1, 1) := by decide +kernel
theorem rs_d_29_83 : decode (rs_cd 29) 83 = .ok (.goto 4, 3) := by decide +kernel
theorem rs_d_29_86 : decode (rs_cd 29) 86 = .ok (.iconst 0, 1) := by decide +kernel
theorem rs_d_29_87 : decode (rs_cd 29) 87 = .ok (.istore 5, 2) := by decide +kernel
theorem rs_d_29_89 : decode (rs_cd 29) 89 = .ok (.aload_n 3, 1) := by decide +kernel
theorem rs_d_29_90 : decode (rs_cd 29) 90 = .ok (.iload 4, 2) := by decide +kernel
theorem rs_d_29_92 : decode (rs_cd 29) 92 = .ok (.invokevirtual 58, 3) := by decide +kernel
theorem rs_t_29_58 : rs_tg 29 58 = some 22 := by decide +kernel
theorem rs_d_29_95 : decode (rs_cd 29) 95 = .ok (.istore 6, 2) := by decide +kernel
theorem rs_d_29_97 : decode (rs_cd 29) 97 = .ok (.iconst 0, 1) := by decide +kernel
theorem rs_d_29_98 : decode (rs_cd 29) 98 = .ok (.istore 7, 2) := by decide +kernel
theorem rs_d_29_100 : decode (rs_cd 29) 100 = .ok (.iload 7, 2) := by decide +kernel
theorem rs_d_29_102 : decode (rs_cd 29) 102 = .ok (.iload 6, 2) := by decide +kernel
theorem rs_d_29_104 : decode (rs_cd 29) 104 = .ok (.if_icmp .gt 123, 3) := by decide +kernel
theorem rs_d_29_107 : decode (rs_cd 29) 107 = .ok (.aload_n 0, 1) := by decide +kernel
theorem rs_d_29_108 : decode (rs_cd 29) 108 = .ok (.getfield 36, 3) := by decide +kernel
theorem rs_f_29_36 : rs_fd 29 36 = some (4, 3, 0) := by decide +kernel
theorem rs_d_29_111 : decode (rs_cd 29) 111 = .ok (.aload_n 0, 1) := by decide +kernel
theorem rs_d_29_112 : decode (rs_cd 29) 112 = .ok (.getfield 33, 3) := by decide +kernel
theorem rs_f_29_33 : rs_fd 29 33 = some (4, 7, 0) := by decide +kernel
theorem rs_d_29_115 : decode (rs_cd 29) 115 = .ok (.if_icmp .lt 7, 3) := by decide +kernel
theorem rs_d_29_118 : decode (rs_cd 29) 118 = .ok (.sipush (-1000), 3) := by decide +kernel
theorem rs_d_29_121 : decode (rs_cd 29) 121 = .ok (.ireturn, 1) := by decide +kernel
theorem rs_d_29_122 : decode (rs_cd 29) 122 = .ok (.aload_n 0, 1) := by decide +kernel
theorem rs_d_29_123 : decode (rs_cd 29) 123 = .ok (.dup, 1) := by decide +kernel
theorem rs_d_29_124 : decode (rs_cd 29) 124 = .ok (.getfield 36, 3) := by decide +kernel
theorem rs_d_29_127 : decode (rs_cd 29) 127 = .ok (.iconst 1, 1) := by decide +kernel
theorem rs_d_29_128 : decode (rs_cd 29) 128 = .ok (.iadd, 1) := by decide +kernel
theorem rs_d_29_129 : decode (rs_cd 29) 129 = .ok (.putfield 36, 3) := by decide +kernel
theorem rs_d_29_132 : decode (rs_cd 29) 132 = .ok (.iload 5, 2) := by decide +kernel
theorem rs_d_29_134 : decode (rs_cd 29) 134 = .ok (.ifCond .eq 16, 3) := by decide +kernel
theorem rs_d_29_137 : decode (rs_cd 29) 137 = .ok (.aload_n 3, 1) := by decide +kernel
theorem rs_d_29_138 : decode (rs_cd 29) 138 = .ok (.getfield 62, 3) := by decide +kernel
theorem rs_f_29_62 : rs_fd 29 62 = some (2, 1, 2) := by decide +kernel
theorem rs_d_29_141 : decode (rs_cd 29) 141 = .ok (.iload 4, 2) := by decide +kernel
theorem rs_d_29_143 : decode (rs_cd 29) 143 = .ok (.iaload, 1) := by decide +kernel
theorem rs_d_29_144 : decode (rs_cd 29) 144 = .ok (.iload 7, 2) := by decide +kernel
theorem rs_d_29_146 : decode (rs_cd 29) 146 = .ok (.isub, 1) := by decide +kernel
theorem rs_d_29_147 : decode (rs_cd 29) 147 = .ok (.goto 13, 3) := by decide +kernel
theorem rs_d_29_150 : decode (rs_cd 29) 150 = .ok (.aload_n 3, 1) := by decide +kernel
theorem rs_d_29_151 : decode (rs_cd 29) 151 = .ok (.getfield 46, 3) := by decide +kernel
theorem rs_d_29_154 : decode (rs_cd 29) 154 = .ok (.iload 4, 2) := by decide +kernel
theorem rs_d_29_156 : decode (rs_cd 29) 156 = .ok (.iaload, 1) := by decide +kernel
theorem rs_d_29_157 : decode (rs_cd 29) 157 = .ok (.iload 7, 2) := by decide +kernel
theorem rs_d_29_159 : decode (rs_cd 29) 159 = .ok (.iadd, 1) := by decide +kernel
theorem rs_d_29_160 : decode (rs_cd 29) 160 = .ok (.istore 8, 2) := by decide +kernel
theorem rs_d_29_162 : decode (rs_cd 29) 162 = .ok (.aload_n 0, 1) := by decide +kernel
theorem rs_d_29_163 : decode (rs_cd 29) 163 = .ok (.getfield 11, 3) := by decide +kernel
theorem rs_d_29_166 : decode (rs_cd 29) 166 = .ok (.iload_n 2, 1) := by decide +kernel
theorem rs_d_29_167 : decode (rs_cd 29) 167 = .ok (.iconst 1, 1) := by decide +kernel
theorem rs_d_29_168 : decode (rs_cd 29) 168 = .ok (.iadd, 1) := by decide +kernel
theorem rs_d_29_169 : decode (rs_cd 29) 169 = .ok (.aaload, 1) := by decide +kernel
theorem rs_d_29_170 : decode (rs_cd 29) 170 = .ok (.aload_n 3, 1) := by decide +kernel
theorem rs_d_29_171 : decode (rs_cd 29) 171 = .ok (.invokevirtual 65, 3) := by decide +kernel
theorem rs_t_29_65 : rs_tg 29 65 = some 21 := by decide +kernel
theorem rs_d_29_174 : decode (rs_cd 29) 174 = .ok (.aload_n 0, 1) := by decide +kernel
theorem rs_d_29_175 : decode (rs_cd 29) 175 = .ok (.getfield 11, 3) := by decide +kernel
theorem rs_d_29_178 : decode (rs_cd 29) 178 = .ok (.iload_n 2, 1) := by decide +kernel
theorem rs_d_29_179 : decode (rs_cd 29) 179 = .ok (.iconst 1, 1) := by decide +kernel
theorem rs_d_29_180 : decode (rs_cd 29) 180 = .ok (.iadd, 1) := by decide +kernel
theorem rs_d_29_181 : decode (rs_cd 29) 181 = .ok (.aaload, 1) := by decide +kernel
theorem rs_d_29_182 : decode (rs_cd 29) 182 = .ok (.iload 4, 2) := by decide +kernel
theorem rs_d_29_184 : decode (rs_cd 29) 184 = .ok (.iload 8, 2) := by decide +kernel
theorem rs_d_29_186 : decode (rs_cd 29) 186 = .ok (.iload 8, 2) := by decide +kernel
theorem rs_d_29_188 : decode (rs_cd 29) 188 = .ok (.invokevirtual 69, 3) := by decide +kernel
theorem rs_t_29_69 : rs_tg 29 69 = some 26 := by decide +kernel
theorem rs_d_29_191 : decode (rs_cd 29) 191 = .ok (.aload_n 1, 1) := by decide +kernel
theorem rs_d_29_192 : decode (rs_cd 29) 192 = .ok (.aload_n 0, 1) := by decide +kernel
theorem rs_d_29_193 : decode (rs_cd 29) 193 = .ok (.getfield 11, 3) := by decide +kernel
theorem rs_d_29_196 : decode (rs_cd 29) 196 = .ok (.iload_n 2, 1) := by decide +kernel
theorem rs_d_29_197 : decode (rs_cd 29) 197 = .ok (.iconst 1, 1) := by decide +kernel
theorem rs_d_29_198 : decode (rs_cd 29) 198 = .ok (.iadd, 1) := by decide +kernel
theorem rs_d_29_199 : decode (rs_cd 29) 199 = .ok (.aaload, 1) := by decide +kernel
theorem rs_d_29_200 : decode (rs_cd 29) 200 = .ok (.invokevirtual 73, 3) := by decide +kernel
theorem rs_t_29_73 : rs_tg 29 73 = some 5 := by decide +kernel
theorem rs_d_29_203 : decode (rs_cd 29) 203 = .ok (.aload_n 0, 1) := by decide +kernel
theorem rs_d_29_204 : decode (rs_cd 29) 204 = .ok (.aload_n 1, 1) := by decide +kernel
theorem rs_d_29_205 : decode (rs_cd 29) 205 = .ok (.iload_n 2, 1) := by decide +kernel
theorem rs_d_29_206 : decode (rs_cd 29) 206 = .ok (.iconst 1, 1) := by decide +kernel
theorem rs_d_29_207 : decode (rs_cd 29) 207 = .ok (.iadd, 1) := by decide +kernel
theorem rs_d_29_208 : decode (rs_cd 29) 208 = .ok (.invokevirtual 78, 3) := by decide +kernel
theorem rs_t_29_78 : rs_tg 29 78 = some 29 := by decide +kernel
theorem rs_d_29_211 : decode (rs_cd 29) 211 = .ok (.istore 9, 2) := by decide +kernel
theorem rs_d_29_213 : decode (rs_cd 29) 213 = .ok (.iload 9, 2) := by decide +kernel
theorem rs_d_29_215 : decode (rs_cd 29) 215 = .ok (.ifCond .eq 6, 3) := by decide +kernel
theorem rs_d_29_218 : decode (rs_cd 29) 218 = .ok (.iload 9, 2) := by decide +kernel
theorem rs_d_29_220 : decode (rs_cd 29) 220 = .ok (.ireturn, 1) := by decide +kernel
theorem rs_d_29_221 : decode (rs_cd 29) 221 = .ok (.iinc 7 1, 3) := by decide +kernel
theorem rs_d_29_224 : decode (rs_cd 29) 224 = .ok (.goto (-124), 3) := by decide +kernel
theorem rs_d_29_227 : decode (rs_cd 29) 227 = .ok (.iconst 0, 1) := by decide +kernel
theorem rs_d_29_228 : decode (rs_cd 29) 228 = .ok (.ireturn, 1) := by decide +kernel
theorem rs_d_30_0 : decode (rs_cd 30) 0 = .ok (.iconst 0, 1) := by decide +kernel
theorem rs_d_30_1 : decode (rs_cd 30) 1 = .ok (.istore_n 2, 1) := by decide +kernel
theorem rs_d_30_2 : decode (rs_cd 30) 2 = .ok (.iload_n 2, 1) := by decide +kernel
theorem rs_d_30_3 : decode (rs_cd 30) 3 = .ok (.aload_n 0, 1) := by decide +kernel
theorem rs_d_30_4 : decode (rs_cd 30) 4 = .ok (.getfield 25, 3) := by decide +kernel
theorem rs_f_30_25 : rs_fd 30 25 = some (4, 5, 0) := by decide +kernel
theorem rs_d_30_7 : decode (rs_cd 30) 7 = .ok (.if_icmp .ge 29, 3) := by decide +kernel
theorem rs_d_30_10 : decode (rs_cd 30) 10 = .ok (.aload_n 1, 1) := by decide +kernel
theorem rs_d_30_11 : decode (rs_cd 30) 11 = .ok (.aload_n 0, 1) := by decide +kernel
theorem rs_d_30_12 : decode (rs_cd 30) 12 = .ok (.getfield 21, 3) := by decide +kernel
theorem rs_f_30_21 : rs_fd 30 21 = some (4, 4, 2) := by decide +kernel
theorem rs_d_30_15 : decode (rs_cd 30) 15 = .ok (.iload_n 2, 1) := by decide +kernel
theorem rs_d_30_16 : decode (rs_cd 30) 16 = .ok (.iaload, 1) := by decide +kernel
theorem rs_d_30_17 : decode (rs_cd 30) 17 = .ok (.invokevirtual 58, 3) := by decide +kernel
theorem rs_t_30_58 : rs_tg 30 58 = some 22 := by decide +kernel
theorem rs_d_30_20 : decode (rs_cd 30) 20 = .ok (.ifCond .le 10, 3) := by decide +kernel
theorem rs_d_30_23 : decode (rs_cd 30) 23 = .ok (.aload_n 0, 1) := by decide +kernel
theorem rs_d_30_24 : decode (rs_cd 30) 24 = .ok (.getfield 21, 3) := by decide +kernel
theorem rs_d_30_27 : decode (rs_cd 30) 27 = .ok (.iload_n 2, 1) := by decide +kernel
theorem rs_d_30_28 : decode (rs_cd 30) 28 = .ok (.iaload, 1) := by decide +kernel
theorem rs_d_30_29 : decode (rs_cd 30) 29 = .ok (.ireturn, 1) := by decide +kernel
theorem rs_d_30_30 : decode (rs_cd 30) 30 = .ok (.iinc 2 1, 3) := by decide +kernel
theorem rs_d_30_33 : decode (rs_cd 30) 33 = .ok (.goto (-31), 3) := by decide +kernel
theorem rs_d_30_36 : decode (rs_cd 30) 36 = .ok (.sipush (-1000), 3) := by decide +kernel
theorem rs_d_30_39 : decode (rs_cd 30) 39 = .ok (.ireturn, 1) := by decide +kernel
theorem rs_d_31_0 : decode (rs_cd 31) 0 = .ok (.aload_n 0, 1) := by decide +kernel
theorem rs_d_31_1 : decode (rs_cd 31) 1 = .ok (.bipush 101, 2) := by decide +kernel
theorem rs_d_31_3 : decode (rs_cd 31) 3 = .ok (.putfield 9, 3) := by decide +kernel
theorem rs_f_31_9 : rs_fd 31 9 = some (5, 0, 0) := by decide +kernel
theorem rs_d_31_6 : decode (rs_cd 31) 6 = .ok (.aload_n 0, 1) := by decide +kernel
theorem rs_d_31_7 : decode (rs_cd 31) 7 = .ok (.bipush (-101), 2) := by decide +kernel
theorem rs_d_31_9 : decode (rs_cd 31) 9 = .ok (.putfield 15, 3) := by decide +kernel
theorem rs_f_31_15 : rs_fd 31 15 = some (5, 1, 0) := by decide +kernel
theorem rs_d_31_12 : decode (rs_cd 31) 12 = .ok (.return_, 1) := by decide +kernel
theorem rs_d_32_0 : decode (rs_cd 32) 0 = .ok (.aload_n 0, 1) := by decide +kernel
theorem rs_d_32_1 : decode (rs_cd 32) 1 = .ok (.aload_n 0, 1) := by decide +kernel
theorem rs_d_32_2 : decode (rs_cd 32) 2 = .ok (.getfield 9, 3) := by decide +kernel
theorem rs_f_32_9 : rs_fd 32 9 = some (5, 0, 0) := by decide +kernel
theorem rs_d_32_5 : decode (rs_cd 32) 5 = .ok (.iload_n 1, 1) := by decide +kernel
theorem rs_d_32_6 : decode (rs_cd 32) 6 = .ok (.invokestatic 18, 3) := by decide +kernel
theorem rs_t_32_18 : rs_tg 32 18 = none := by decide +kernel
theorem rs_s_32_18 : rs_sp 32 18 = some 1 := by decide +kernel
theorem rs_d_32_9 : decode (rs_cd 32) 9 = .ok (.putfield 9, 3) := by decide +kernel
theorem rs_d_32_12 : decode (rs_cd 32) 12 = .ok (.aload_n 0, 1) := by decide +kernel
theorem rs_d_32_13 : decode (rs_cd 32) 13 = .ok (.aload_n 0, 1) := by decide +kernel
theorem rs_d_32_14 : decode (rs_cd 32) 14 = .ok (.getfield 15, 3) := by decide +kernel
theorem rs_f_32_15 : rs_fd 32 15 = some (5, 1, 0) := by decide +kernel
theorem rs_d_32_17 : decode (rs_cd 32) 17 = .ok (.iload_n 1, 1) := by decide +kernel
theorem rs_d_32_18 : decode (rs_cd 32) 18 = .ok (.invokestatic 24, 3) := by decide +kernel
theorem rs_t_32_24 : rs_tg 32 24 = none := by decide +kernel
theorem rs_s_32_24 : rs_sp 32 24 = some 0 := by decide +kernel
theorem rs_d_32_21 : decode (rs_cd 32) 21 = .ok (.putfield 15, 3) := by decide +kernel
theorem rs_d_32_24 : decode (rs_cd 32) 24 = .ok (.return_, 1) := by decide +kernel
theorem rs_d_33_0 : decode (rs_cd 33) 0 = .ok (.aload_n 0, 1) := by decide +kernel
theorem rs_d_33_1 : decode (rs_cd 33) 1 = .ok (.getfield 9, 3) := by decide +kernel
theorem rs_f_33_9 : rs_fd 33 9 = some (5, 0, 0) := by decide +kernel
theorem rs_d_33_4 : decode (rs_cd 33) 4 = .ok (.aload_n 0, 1) := by decide +kernel
theorem rs_d_33_5 : decode (rs_cd 33) 5 = .ok (.getfield 15, 3) := by decide +kernel
theorem rs_f_33_15 : rs_fd 33 15 = some (5, 1, 0) := by decide +kernel
theorem rs_d_33_8 : decode (rs_cd 33) 8 = .ok (.if_icmp .le 7, 3) := by decide +kernel
theorem rs_d_33_11 : decode (rs_cd 33) 11 = .ok (.iconst 1, 1) := by decide +kernel
theorem rs_d_33_12 : decode (rs_cd 33) 12 = .ok (.goto 4, 3) := by decide +kernel
theorem rs_d_33_15 : decode (rs_cd 33) 15 = .ok (.iconst 0, 1) := by decide +kernel
theorem rs_d_33_16 : decode (rs_cd 33) 16 = .ok (.ireturn, 1) := by decide +kernel
theorem rs_d_34_0 : decode (rs_cd 34) 0 = .ok (.iload_n 1, 1) := by decide +kernel
theorem rs_d_34_1 : decode (rs_cd 34) 1 = .ok (.iload_n 2, 1) := by decide +kernel
theorem rs_d_34_2 : decode (rs_cd 34) 2 = .ok (.invokestatic 43, 3) := by decide +kernel
theorem rs_t_34_43 : rs_tg 34 43 = some 53 := by decide +kernel
theorem rs_d_34_5 : decode (rs_cd 34) 5 = .ok (.ifCond .ne 13, 3) := by decide +kernel
theorem rs_d_34_8 : decode (rs_cd 34) 8 = .ok (.new 47, 3) := by decide +kernel
theorem rs_d_34_11 : decode (rs_cd 34) 11 = .ok (.dup, 1) := by decide +kernel
theorem rs_d_34_12 : decode (rs_cd 34) 12 = .ok (.ldc 49, 2) := by decide +kernel
theorem rs_d_34_14 : decode (rs_cd 34) 14 = .ok (.invokespecial 51, 3) := by decide +kernel
theorem rs_d_34_17 : decode (rs_cd 34) 17 = .ok (.athrow, 1) := by decide +kernel
theorem rs_d_34_18 : decode (rs_cd 34) 18 = .ok (.aload_n 0, 1) := by decide +kernel
theorem rs_d_34_19 : decode (rs_cd 34) 19 = .ok (.getfield 54, 3) := by decide +kernel
theorem rs_f_34_54 : rs_fd 34 54 = some (7, 6, 0) := by decide +kernel
theorem rs_d_34_22 : decode (rs_cd 34) 22 = .ok (.bipush 10, 2) := by decide +kernel
theorem rs_d_34_24 : decode (rs_cd 34) 24 = .ok (.if_icmp .lt 13, 3) := by decide +kernel
theorem rs_d_34_27 : decode (rs_cd 34) 27 = .ok (.new 58, 3) := by decide +kernel
theorem rs_d_34_30 : decode (rs_cd 34) 30 = .ok (.dup, 1) := by decide +kernel
theorem rs_d_34_31 : decode (rs_cd 34) 31 = .ok (.ldc 60, 2) := by decide +kernel
theorem rs_d_34_33 : decode (rs_cd 34) 33 = .ok (.invokespecial 62, 3) := by decide +kernel
theorem rs_d_34_36 : decode (rs_cd 34) 36 = .ok (.athrow, 1) := by decide +kernel
theorem rs_d_34_37 : decode (rs_cd 34) 37 = .ok (.aload_n 0, 1) := by decide +kernel
theorem rs_d_34_38 : decode (rs_cd 34) 38 = .ok (.getfield 12, 3) := by decide +kernel
theorem rs_f_34_12 : rs_fd 34 12 = some (7, 0, 2) := by decide +kernel
theorem rs_d_34_41 : decode (rs_cd 34) 41 = .ok (.getfield 63, 3) := by decide +kernel
theorem rs_f_34_63 : rs_fd 34 63 = some (2, 0, 2) := by decide +kernel
theorem rs_d_34_44 : decode (rs_cd 34) 44 = .ok (.aload_n 0, 1) := by decide +kernel
theorem rs_d_34_45 : decode (rs_cd 34) 45 = .ok (.getfield 54, 3) := by decide +kernel
theorem rs_d_34_48 : decode (rs_cd 34) 48 = .ok (.iload_n 1, 1) := by decide +kernel
theorem rs_d_34_49 : decode (rs_cd 34) 49 = .ok (.iastore, 1) := by decide +kernel
theorem rs_d_34_50 : decode (rs_cd 34) 50 = .ok (.aload_n 0, 1) := by decide +kernel
theorem rs_d_34_51 : decode (rs_cd 34) 51 = .ok (.getfield 12, 3) := by decide +kernel
theorem rs_d_34_54 : decode (rs_cd 34) 54 = .ok (.getfield 67, 3) := by decide +kernel
theorem rs_f_34_67 : rs_fd 34 67 = some (2, 1, 2) := by decide +kernel
theorem rs_d_34_57 : decode (rs_cd 34) 57 = .ok (.aload_n 0, 1) := by decide +kernel
theorem rs_d_34_58 : decode (rs_cd 34) 58 = .ok (.getfield 54, 3) := by decide +kernel
theorem rs_d_34_61 : decode (rs_cd 34) 61 = .ok (.iload_n 2, 1) := by decide +kernel
theorem rs_d_34_62 : decode (rs_cd 34) 62 = .ok (.iastore, 1) := by decide +kernel
theorem rs_d_34_63 : decode (rs_cd 34) 63 = .ok (.aload_n 0, 1) := by decide +kernel
theorem rs_d_34_64 : decode (rs_cd 34) 64 = .ok (.dup, 1) := by decide +kernel
theorem rs_d_34_65 : decode (rs_cd 34) 65 = .ok (.getfield 54, 3) := by decide +kernel
theorem rs_d_34_68 : decode (rs_cd 34) 68 = .ok (.iconst 1, 1) := by decide +kernel
theorem rs_d_34_69 : decode (rs_cd 34) 69 = .ok (.iadd, 1) := by decide +kernel
theorem rs_d_34_70 : decode (rs_cd 34) 70 = .ok (.putfield 54, 3) := by decide +kernel
theorem rs_d_34_73 : decode (rs_cd 34) 73 = .ok (.aload_n 0, 1) := by decide +kernel
theorem rs_d_34_74 : decode (rs_cd 34) 74 = .ok (.getfield 54, 3) := by decide +kernel
theorem rs_d_34_77 : decode (rs_cd 34) 77 = .ok (.iconst 1, 1) := by decide +kernel
theorem rs_d_34_78 : decode (rs_cd 34) 78 = .ok (.isub, 1) := by decide +kernel
theorem rs_d_34_79 : decode (rs_cd 34) 79 = .ok (.ireturn, 1) := by decide +kernel
theorem rs_d_35_0 : decode (rs_cd 35) 0 = .ok (.aload_n 0, 1) := by decide +kernel
theorem rs_d_35_1 : decode (rs_cd 35) 1 = .ok (.iload_n 1, 1) := by decide +kernel
theorem rs_d_35_2 : decode (rs_cd 35) 2 = .ok (.iload_n 2, 1) := by decide +kernel
theorem rs_d_35_3 : decode (rs_cd 35) 3 = .ok (.iload_n 3, 1) := by decide +kernel
theorem rs_d_35_4 : decode (rs_cd 35) 4 = .ok (.iload 4, 2) := by decide +kernel
theorem rs_d_35_6 : decode (rs_cd 35) 6 = .ok (.invokevirtual 70, 3) := by decide +kernel
theorem rs_t_35_70 : rs_tg 35 70 = some 55 := by decide +kernel
theorem rs_d_35_9 : decode (rs_cd 35) 9 = .ok (.ifCond .ne 13, 3) := by decide +kernel
theorem rs_d_35_12 : decode (rs_cd 35) 12 = .ok (.new 47, 3) := by decide +kernel
theorem rs_d_35_15 : decode (rs_cd 35) 15 = .ok (.dup, 1) := by decide +kernel
theorem rs_d_35_16 : decode (rs_cd 35) 16 = .ok (.ldc 74, 2) := by decide +kernel
theorem rs_d_35_18 : decode (rs_cd 35) 18 = .ok (.invokespecial 51, 3) := by decide +kernel
theorem rs_d_35_21 : decode (rs_cd 35) 21 = .ok (.athrow, 1) := by decide +kernel
theorem rs_d_35_22 : decode (rs_cd 35) 22 = .ok (.aload_n 0, 1) := by decide +kernel
theorem rs_d_35_23 : decode (rs_cd 35) 23 = .ok (.getfield 25, 3) := by decide +kernel
theorem rs_f_35_25 : rs_fd 35 25 = some (7, 2, 2) := by decide +kernel
theorem rs_d_35_26 : decode (rs_cd 35) 26 = .ok (.getfield 76, 3) := by decide +kernel
theorem rs_f_35_76 : rs_fd 35 76 = some (1, 2, 0) := by decide +kernel
theorem rs_d_35_29 : decode (rs_cd 35) 29 = .ok (.bipush 12, 2) := by decide +kernel
theorem rs_d_35_31 : decode (rs_cd 35) 31 = .ok (.if_icmp .lt 13, 3) := by decide +kernel
theorem rs_d_35_34 : decode (rs_cd 35) 34 = .ok (.new 58, 3) := by decide +kernel
theorem rs_d_35_37 : decode (rs_cd 35) 37 = .ok (.dup, 1) := by decide +kernel
theorem rs_d_35_38 : decode (rs_cd 35) 38 = .ok (.ldc 79, 2) := by decide +kernel
theorem rs_d_35_40 : decode (rs_cd 35) 40 = .ok (.invokespecial 62, 3) := by decide +kernel
theorem rs_d_35_43 : decode (rs_cd 35) 43 = .ok (.athrow, 1) := by decide +kernel
theorem rs_d_35_44 : decode (rs_cd 35) 44 = .ok (.aload_n 0, 1) := by decide +kernel
theorem rs_d_35_45 : decode (rs_cd 35) 45 = .ok (.getfield 25, 3) := by decide +kernel
theorem rs_d_35_48 : decode (rs_cd 35) 48 = .ok (.getfield 81, 3) := by decide +kernel
theorem rs_f_35_81 : rs_fd 35 81 = some (1, 0, 2) := by decide +kernel
theorem rs_d_35_51 : decode (rs_cd 35) 51 = .ok (.aload_n 0, 1) := by decide +kernel
theorem rs_d_35_52 : decode (rs_cd 35) 52 = .ok (.getfield 25, 3) := by decide +kernel
theorem rs_d_35_55 : decode (rs_cd 35) 55 = .ok (.getfield 76, 3) := by decide +kernel
theorem rs_d_35_58 : decode (rs_cd 35) 58 = .ok (.aaload, 1) := by decide +kernel
theorem rs_d_35_59 : decode (rs_cd 35) 59 = .ok (.iload_n 1, 1) := by decide +kernel
theorem rs_d_35_60 : decode (rs_cd 35) 60 = .ok (.iload_n 2, 1) := by decide +kernel
theorem rs_d_35_61 : decode (rs_cd 35) 61 = .ok (.iload_n 3, 1) := by decide +kernel
theorem rs_d_35_62 : decode (rs_cd 35) 62 = .ok (.iload 4, 2) := by decide +kernel
theorem rs_d_35_64 : decode (rs_cd 35) 64 = .ok (.invokevirtual 85, 3) := by decide +kernel
theorem rs_t_35_85 : rs_tg 35 85 = some 27 := by decide +kernel
theorem rs_d_35_67 : decode (rs_cd 35) 67 = .ok (.aload_n 0, 1) := by decide +kernel
theorem rs_d_35_68 : decode (rs_cd 35) 68 = .ok (.getfield 25, 3) := by decide +kernel
theorem rs_d_35_71 : decode (rs_cd 35) 71 = .ok (.dup, 1) := by decide +kernel
theorem rs_d_35_72 : decode (rs_cd 35) 72 = .ok (.getfield 76, 3) := by decide +kernel
theorem rs_d_35_75 : decode (rs_cd 35) 75 = .ok (.iconst 1, 1) := by decide +kernel
theorem rs_d_35_76 : decode (rs_cd 35) 76 = .ok (.iadd, 1) := by decide +kernel
theorem rs_d_35_77 : decode (rs_cd 35) 77 = .ok (.putfield 76, 3) := by decide +kernel
theorem rs_d_35_80 : decode (rs_cd 35) 80 = .ok (.aload_n 0, 1) := by decide +kernel
theorem rs_d_35_81 : decode (rs_cd 35) 81 = .ok (.getfield 25, 3) := by decide +kernel
theorem rs_d_35_84 : decode (rs_cd 35) 84 = .ok (.getfield 76, 3) := by decide +kernel
theorem rs_d_35_87 : decode (rs_cd 35) 87 = .ok (.iconst 1, 1) := by decide +kernel
theorem rs_d_35_88 : decode (rs_cd 35) 88 = .ok (.isub, 1) := by decide +kernel
theorem rs_d_35_89 : decode (rs_cd 35) 89 = .ok (.ireturn, 1) := by decide +kernel
