theorem rs_d_0_0 : decode (rs_cd 0) 0 = .ok (.iload_n 1, 1) := by decide +kernel
theorem rs_d_0_1 : decode (rs_cd 0) 1 = .ok (.ifCond .lt 15, 3) := by decide +kernel
theorem rs_d_0_4 : decode (rs_cd 0) 4 = .ok (.iload_n 1, 1) := by decide +kernel
theorem rs_d_0_5 : decode (rs_cd 0) 5 = .ok (.aload_n 0, 1) := by decide +kernel
theorem rs_d_0_6 : decode (rs_cd 0) 6 = .ok (.getfield 38, 3) := by decide +kernel
theorem rs_f_0_38 : rs_fd 0 38 = some (1, 2, 0) := by decide +kernel
theorem rs_d_0_9 : decode (rs_cd 0) 9 = .ok (.if_icmp .ge 7, 3) := by decide +kernel
theorem rs_d_0_12 : decode (rs_cd 0) 12 = .ok (.iconst 1, 1) := by decide +kernel
theorem rs_d_0_13 : decode (rs_cd 0) 13 = .ok (.goto 4, 3) := by decide +kernel
theorem rs_d_0_16 : decode (rs_cd 0) 16 = .ok (.iconst 0, 1) := by decide +kernel
theorem rs_d_0_17 : decode (rs_cd 0) 17 = .ok (.ireturn, 1) := by decide +kernel
theorem rs_d_1_0 : decode (rs_cd 1) 0 = .ok (.aload_n 1, 1) := by decide +kernel
theorem rs_d_1_1 : decode (rs_cd 1) 1 = .ok (.getfield 42, 3) := by decide +kernel
theorem rs_f_1_42 : rs_fd 1 42 = some (3, 0, 0) := by decide +kernel
theorem rs_d_1_4 : decode (rs_cd 1) 4 = .ok (.tableswitch 298 0 8 #[52, 80, 108, 147, 177, 207, 233, 264, 273], 52) := by decide +kernel
theorem rs_d_1_56 : decode (rs_cd 1) 56 = .ok (.aload_n 2, 1) := by decide +kernel
theorem rs_d_1_57 : decode (rs_cd 1) 57 = .ok (.aload_n 1, 1) := by decide +kernel
theorem rs_d_1_58 : decode (rs_cd 1) 58 = .ok (.getfield 45, 3) := by decide +kernel
theorem rs_f_1_45 : rs_fd 1 45 = some (3, 1, 0) := by decide +kernel
theorem rs_d_1_61 : decode (rs_cd 1) 61 = .ok (.iaload, 1) := by decide +kernel
theorem rs_d_1_62 : decode (rs_cd 1) 62 = .ok (.aload_n 2, 1) := by decide +kernel
theorem rs_d_1_63 : decode (rs_cd 1) 63 = .ok (.aload_n 1, 1) := by decide +kernel
theorem rs_d_1_64 : decode (rs_cd 1) 64 = .ok (.getfield 48, 3) := by decide +kernel
theorem rs_f_1_48 : rs_fd 1 48 = some (3, 2, 0) := by decide +kernel
theorem rs_d_1_67 : decode (rs_cd 1) 67 = .ok (.iaload, 1) := by decide +kernel
theorem rs_d_1_68 : decode (rs_cd 1) 68 = .ok (.iadd, 1) := by decide +kernel
theorem rs_d_1_69 : decode (rs_cd 1) 69 = .ok (.aload_n 2, 1) := by decide +kernel
theorem rs_d_1_70 : decode (rs_cd 1) 70 = .ok (.aload_n 1, 1) := by decide +kernel
theorem rs_d_1_71 : decode (rs_cd 1) 71 = .ok (.getfield 51, 3) := by decide +kernel
theorem rs_f_1_51 : rs_fd 1 51 = some (3, 3, 0) := by decide +kernel
theorem rs_d_1_74 : decode (rs_cd 1) 74 = .ok (.iaload, 1) := by decide +kernel
theorem rs_d_1_75 : decode (rs_cd 1) 75 = .ok (.if_icmp .ne 7, 3) := by decide +kernel
theorem rs_d_1_78 : decode (rs_cd 1) 78 = .ok (.iconst 1, 1) := by decide +kernel
theorem rs_d_1_79 : decode (rs_cd 1) 79 = .ok (.goto 4, 3) := by decide +kernel
theorem rs_d_1_82 : decode (rs_cd 1) 82 = .ok (.iconst 0, 1) := by decide +kernel
theorem rs_d_1_83 : decode (rs_cd 1) 83 = .ok (.ireturn, 1) := by decide +kernel
theorem rs_d_1_84 : decode (rs_cd 1) 84 = .ok (.aload_n 2, 1) := by decide +kernel
theorem rs_d_1_85 : decode (rs_cd 1) 85 = .ok (.aload_n 1, 1) := by decide +kernel
theorem rs_d_1_86 : decode (rs_cd 1) 86 = .ok (.getfield 45, 3) := by decide +kernel
theorem rs_d_1_89 : decode (rs_cd 1) 89 = .ok (.iaload, 1) := by decide +kernel
theorem rs_d_1_90 : decode (rs_cd 1) 90 = .ok (.aload_n 2, 1) := by decide +kernel
theorem rs_d_1_91 : decode (rs_cd 1) 91 = .ok (.aload_n 1, 1) := by decide +kernel
theorem rs_d_1_92 : decode (rs_cd 1) 92 = .ok (.getfield 48, 3) := by decide +kernel
theorem rs_d_1_95 : decode (rs_cd 1) 95 = .ok (.iaload, 1) := by decide +kernel
theorem rs_d_1_96 : decode (rs_cd 1) 96 = .ok (.imul, 1) := by decide +kernel
theorem rs_d_1_97 : decode (rs_cd 1) 97 = .ok (.aload_n 2, 1) := by decide +kernel
theorem rs_d_1_98 : decode (rs_cd 1) 98 = .ok (.aload_n 1, 1) := by decide +kernel
theorem rs_d_1_99 : decode (rs_cd 1) 99 = .ok (.getfield 51, 3) := by decide +kernel
theorem rs_d_1_102 : decode (rs_cd 1) 102 = .ok (.iaload, 1) := by decide +kernel
theorem rs_d_1_103 : decode (rs_cd 1) 103 = .ok (.if_icmp .ne 7, 3) := by decide +kernel
theorem rs_d_1_106 : decode (rs_cd 1) 106 = .ok (.iconst 1, 1) := by decide +kernel
theorem rs_d_1_107 : decode (rs_cd 1) 107 = .ok (.goto 4, 3) := by decide +kernel
theorem rs_d_1_110 : decode (rs_cd 1) 110 = .ok (.iconst 0, 1) := by decide +kernel
theorem rs_d_1_111 : decode (rs_cd 1) 111 = .ok (.ireturn, 1) := by decide +kernel
theorem rs_d_1_112 : decode (rs_cd 1) 112 = .ok (.aload_n 2, 1) := by decide +kernel
theorem rs_d_1_113 : decode (rs_cd 1) 113 = .ok (.aload_n 1, 1) := by decide +kernel
theorem rs_d_1_114 : decode (rs_cd 1) 114 = .ok (.getfield 48, 3) := by decide +kernel
theorem rs_d_1_117 : decode (rs_cd 1) 117 = .ok (.iaload, 1) := by decide +kernel
theorem rs_d_1_118 : decode (rs_cd 1) 118 = .ok (.ifCond .eq 31, 3) := by decide +kernel
theorem rs_d_1_121 : decode (rs_cd 1) 121 = .ok (.aload_n 2, 1) := by decide +kernel
theorem rs_d_1_122 : decode (rs_cd 1) 122 = .ok (.aload_n 1, 1) := by decide +kernel
theorem rs_d_1_123 : decode (rs_cd 1) 123 = .ok (.getfield 45, 3) := by decide +kernel
theorem rs_d_1_126 : decode (rs_cd 1) 126 = .ok (.iaload, 1) := by decide +kernel
theorem rs_d_1_127 : decode (rs_cd 1) 127 = .ok (.aload_n 2, 1) := by decide +kernel
theorem rs_d_1_128 : decode (rs_cd 1) 128 = .ok (.aload_n 1, 1) := by decide +kernel
theorem rs_d_1_129 : decode (rs_cd 1) 129 = .ok (.getfield 48, 3) := by decide +kernel
theorem rs_d_1_132 : decode (rs_cd 1) 132 = .ok (.iaload, 1) := by decide +kernel
theorem rs_d_1_133 : decode (rs_cd 1) 133 = .ok (.invokestatic 54, 3) := by decide +kernel
theorem rs_t_1_54 : rs_tg 1 54 = some 115 := by decide +kernel
theorem rs_d_1_136 : decode (rs_cd 1) 136 = .ok (.aload_n 2, 1) := by decide +kernel
theorem rs_d_1_137 : decode (rs_cd 1) 137 = .ok (.aload_n 1, 1) := by decide +kernel
theorem rs_d_1_138 : decode (rs_cd 1) 138 = .ok (.getfield 51, 3) := by decide +kernel
theorem rs_d_1_141 : decode (rs_cd 1) 141 = .ok (.iaload, 1) := by decide +kernel
theorem rs_d_1_142 : decode (rs_cd 1) 142 = .ok (.if_icmp .ne 7, 3) := by decide +kernel
theorem rs_d_1_145 : decode (rs_cd 1) 145 = .ok (.iconst 1, 1) := by decide +kernel
theorem rs_d_1_146 : decode (rs_cd 1) 146 = .ok (.goto 4, 3) := by decide +kernel
theorem rs_d_1_149 : decode (rs_cd 1) 149 = .ok (.iconst 0, 1) := by decide +kernel
theorem rs_d_1_150 : decode (rs_cd 1) 150 = .ok (.ireturn, 1) := by decide +kernel
theorem rs_d_1_151 : decode (rs_cd 1) 151 = .ok (.aload_n 2, 1) := by decide +kernel
theorem rs_d_1_152 : decode (rs_cd 1) 152 = .ok (.aload_n 1, 1) := by decide +kernel
theorem rs_d_1_153 : decode (rs_cd 1) 153 = .ok (.getfield 45, 3) := by decide +kernel
theorem rs_d_1_156 : decode (rs_cd 1) 156 = .ok (.iaload, 1) := by decide +kernel
theorem rs_d_1_157 : decode (rs_cd 1) 157 = .ok (.aload_n 2, 1) := by decide +kernel
theorem rs_d_1_158 : decode (rs_cd 1) 158 = .ok (.aload_n 1, 1) := by decide +kernel
theorem rs_d_1_159 : decode (rs_cd 1) 159 = .ok (.getfield 48, 3) := by decide +kernel
theorem rs_d_1_162 : decode (rs_cd 1) 162 = .ok (.iaload, 1) := by decide +kernel
theorem rs_d_1_163 : decode (rs_cd 1) 163 = .ok (.invokestatic 60, 3) := by decide +kernel
theorem rs_t_1_60 : rs_tg 1 60 = none := by decide +kernel
theorem rs_s_1_60 : rs_sp 1 60 = some 1 := by decide +kernel
theorem rs_d_1_166 : decode (rs_cd 1) 166 = .ok (.aload_n 2, 1) := by decide +kernel
theorem rs_d_1_167 : decode (rs_cd 1) 167 = .ok (.aload_n 1, 1) := by decide +kernel
theorem rs_d_1_168 : decode (rs_cd 1) 168 = .ok (.getfield 51, 3) := by decide +kernel
theorem rs_d_1_171 : decode (rs_cd 1) 171 = .ok (.iaload, 1) := by decide +kernel
theorem rs_d_1_172 : decode (rs_cd 1) 172 = .ok (.if_icmp .ne 7, 3) := by decide +kernel
theorem rs_d_1_175 : decode (rs_cd 1) 175 = .ok (.iconst 1, 1) := by decide +kernel
theorem rs_d_1_176 : decode (rs_cd 1) 176 = .ok (.goto 4, 3) := by decide +kernel
theorem rs_d_1_179 : decode (rs_cd 1) 179 = .ok (.iconst 0, 1) := by decide +kernel
theorem rs_d_1_180 : decode (rs_cd 1) 180 = .ok (.ireturn, 1) := by decide +kernel
theorem rs_d_1_181 : decode (rs_cd 1) 181 = .ok (.aload_n 2, 1) := by decide +kernel
theorem rs_d_1_182 : decode (rs_cd 1) 182 = .ok (.aload_n 1, 1) := by decide +kernel
theorem rs_d_1_183 : decode (rs_cd 1) 183 = .ok (.getfield 45, 3) := by decide +kernel
theorem rs_d_1_186 : decode (rs_cd 1) 186 = .ok (.iaload, 1) := by decide +kernel
theorem rs_d_1_187 : decode (rs_cd 1) 187 = .ok (.aload_n 2, 1) := by decide +kernel
theorem rs_d_1_188 : decode (rs_cd 1) 188 = .ok (.aload_n 1, 1) := by decide +kernel
theorem rs_d_1_189 : decode (rs_cd 1) 189 = .ok (.getfield 48, 3) := by decide +kernel
theorem rs_d_1_192 : decode (rs_cd 1) 192 = .ok (.iaload, 1) := by decide +kernel
theorem rs_d_1_193 : decode (rs_cd 1) 193 = .ok (.invokestatic 63, 3) := by decide +kernel
theorem rs_t_1_63 : rs_tg 1 63 = none := by decide +kernel
theorem rs_s_1_63 : rs_sp 1 63 = some 0 := by decide +kernel
theorem rs_d_1_196 : decode (rs_cd 1) 196 = .ok (.aload_n 2, 1) := by decide +kernel
theorem rs_d_1_197 : decode (rs_cd 1) 197 = .ok (.aload_n 1, 1) := by decide +kernel
theorem rs_d_1_198 : decode (rs_cd 1) 198 = .ok (.getfield 51, 3) := by decide +kernel
theorem rs_d_1_201 : decode (rs_cd 1) 201 = .ok (.iaload, 1) := by decide +kernel
theorem rs_d_1_202 : decode (rs_cd 1) 202 = .ok (.if_icmp .ne 7, 3) := by decide +kernel
theorem rs_d_1_205 : decode (rs_cd 1) 205 = .ok (.iconst 1, 1) := by decide +kernel
theorem rs_d_1_206 : decode (rs_cd 1) 206 = .ok (.goto 4, 3) := by decide +kernel
theorem rs_d_1_209 : decode (rs_cd 1) 209 = .ok (.iconst 0, 1) := by decide +kernel
theorem rs_d_1_210 : decode (rs_cd 1) 210 = .ok (.ireturn, 1) := by decide +kernel
theorem rs_d_1_211 : decode (rs_cd 1) 211 = .ok (.aload_n 2, 1) := by decide +kernel
theorem rs_d_1_212 : decode (rs_cd 1) 212 = .ok (.aload_n 1, 1) := by decide +kernel
theorem rs_d_1_213 : decode (rs_cd 1) 213 = .ok (.getfield 45, 3) := by decide +kernel
theorem rs_d_1_216 : decode (rs_cd 1) 216 = .ok (.iaload, 1) := by decide +kernel
theorem rs_d_1_217 : decode (rs_cd 1) 217 = .ok (.aload_n 1, 1) := by decide +kernel
theorem rs_d_1_218 : decode (rs_cd 1) 218 = .ok (.getfield 51, 3) := by decide +kernel
theorem rs_d_1_221 : decode (rs_cd 1) 221 = .ok (.iadd, 1) := by decide +kernel
theorem rs_d_1_222 : decode (rs_cd 1) 222 = .ok (.aload_n 2, 1) := by decide +kernel
theorem rs_d_1_223 : decode (rs_cd 1) 223 = .ok (.aload_n 1, 1) := by decide +kernel
theorem rs_d_1_224 : decode (rs_cd 1) 224 = .ok (.getfield 48, 3) := by decide +kernel
theorem rs_d_1_227 : decode (rs_cd 1) 227 = .ok (.iaload, 1) := by decide +kernel
theorem rs_d_1_228 : decode (rs_cd 1) 228 = .ok (.if_icmp .gt 7, 3) := by decide +kernel
theorem rs_d_1_231 : decode (rs_cd 1) 231 = .ok (.iconst 1, 1) := by decide +kernel
theorem rs_d_1_232 : decode (rs_cd 1) 232 = .ok (.goto 4, 3) := by decide +kernel
theorem rs_d_1_235 : decode (rs_cd 1) 235 = .ok (.iconst 0, 1) := by decide +kernel
theorem rs_d_1_236 : decode (rs_cd 1) 236 = .ok (.ireturn, 1) := by decide +kernel
theorem rs_d_1_237 : decode (rs_cd 1) 237 = .ok (.aload_n 2, 1) := by decide +kernel
theorem rs_d_1_238 : decode (rs_cd 1) 238 = .ok (.aload_n 1, 1) := by decide +kernel
theorem rs_d_1_239 : decode (rs_cd 1) 239 = .ok (.getfield 45, 3) := by decide +kernel
theorem rs_d_1_242 : decode (rs_cd 1) 242 = .ok (.iaload, 1) := by decide +kernel
theorem rs_d_1_243 : decode (rs_cd 1) 243 = .ok (.iconst 1, 1) := by decide +kernel
theorem rs_d_1_244 : decode (rs_cd 1) 244 = .ok (.if_icmp .lt 18, 3) := by decide +kernel
theorem rs_d_1_247 : decode (rs_cd 1) 247 = .ok (.aload_n 2, 1) := by decide +kernel
theorem rs_d_1_248 : decode (rs_cd 1) 248 = .ok (.aload_n 1, 1) := by decide +kernel
theorem rs_d_1_249 : decode (rs_cd 1) 249 = .ok (.getfield 48, 3) := by decide +kernel
theorem rs_d_1_252 : decode (rs_cd 1) 252 = .ok (.iaload, 1) := by decide +kernel
theorem rs_d_1_253 : decode (rs_cd 1) 253 = .ok (.aload_n 2, 1) := by decide +kernel
theorem rs_d_1_254 : decode (rs_cd 1) 254 = .ok (.aload_n 1, 1) := by decide +kernel
theorem rs_d_1_255 : decode (rs_cd 1) 255 = .ok (.getfield 51, 3) := by decide +kernel
theorem rs_d_1_258 : decode (rs_cd 1) 258 = .ok (.iaload, 1) := by decide +kernel
theorem rs_d_1_259 : decode (rs_cd 1) 259 = .ok (.if_icmp .gt 7, 3) := by decide +kernel
theorem rs_d_1_262 : decode (rs_cd 1) 262 = .ok (.iconst 1, 1) := by decide +kernel
theorem rs_d_1_263 : decode (rs_cd 1) 263 = .ok (.goto 4, 3) := by decide +kernel
theorem rs_d_1_266 : decode (rs_cd 1) 266 = .ok (.iconst 0, 1) := by decide +kernel
theorem rs_d_1_267 : decode (rs_cd 1) 267 = .ok (.ireturn, 1) := by decide +kernel
theorem rs_d_1_268 : decode (rs_cd 1) 268 = .ok (.aload_n 1, 1) := by decide +kernel
theorem rs_d_1_269 : decode (rs_cd 1) 269 = .ok (.getfield 66, 3) := by decide +kernel
theorem rs_f_1_66 : rs_fd 1 66 = some (3, 4, 0) := by decide +kernel
theorem rs_d_1_272 : decode (rs_cd 1) 272 = .ok (.aload_n 2, 1) := by decide +kernel
theorem rs_d_1_273 : decode (rs_cd 1) 273 = .ok (.invokestatic 69, 3) := by decide +kernel
theorem rs_t_1_69 : rs_tg 1 69 = some 2 := by decide +kernel
theorem rs_d_1_276 : decode (rs_cd 1) 276 = .ok (.ireturn, 1) := by decide +kernel
theorem rs_d_1_277 : decode (rs_cd 1) 277 = .ok (.aload_n 0, 1) := by decide +kernel
theorem rs_d_1_278 : decode (rs_cd 1) 278 = .ok (.getfield 19, 3) := by decide +kernel
theorem rs_f_1_19 : rs_fd 1 19 = some (1, 1, 2) := by decide +kernel
theorem rs_d_1_281 : decode (rs_cd 1) 281 = .ok (.aload_n 1, 1) := by decide +kernel
theorem rs_d_1_282 : decode (rs_cd 1) 282 = .ok (.getfield 51, 3) := by decide +kernel
theorem rs_d_1_285 : decode (rs_cd 1) 285 = .ok (.aaload, 1) := by decide +kernel
theorem rs_d_1_286 : decode (rs_cd 1) 286 = .ok (.aload_n 2, 1) := by decide +kernel
theorem rs_d_1_287 : decode (rs_cd 1) 287 = .ok (.aload_n 1, 1) := by decide +kernel
theorem rs_d_1_288 : decode (rs_cd 1) 288 = .ok (.getfield 45, 3) := by decide +kernel
theorem rs_d_1_291 : decode (rs_cd 1) 291 = .ok (.iaload, 1) := by decide +kernel
theorem rs_d_1_292 : decode (rs_cd 1) 292 = .ok (.aload_n 2, 1) := by decide +kernel
theorem rs_d_1_293 : decode (rs_cd 1) 293 = .ok (.aload_n 1, 1) := by decide +kernel
theorem rs_d_1_294 : decode (rs_cd 1) 294 = .ok (.getfield 48, 3) := by decide +kernel
theorem rs_d_1_297 : decode (rs_cd 1) 297 = .ok (.iaload, 1) := by decide +kernel
theorem rs_d_1_298 : decode (rs_cd 1) 298 = .ok (.invokestatic 73, 3) := by decide +kernel
theorem rs_t_1_73 : rs_tg 1 73 = some 3 := by decide +kernel
theorem rs_d_1_301 : decode (rs_cd 1) 301 = .ok (.ireturn, 1) := by decide +kernel
theorem rs_d_1_302 : decode (rs_cd 1) 302 = .ok (.iconst 0, 1) := by decide +kernel
theorem rs_d_1_303 : decode (rs_cd 1) 303 = .ok (.ireturn, 1) := by decide +kernel
theorem rs_d_2_0 : decode (rs_cd 2) 0 = .ok (.iconst 0, 1) := by decide +kernel
theorem rs_d_2_1 : decode (rs_cd 2) 1 = .ok (.istore_n 2, 1) := by decide +kernel
theorem rs_d_2_2 : decode (rs_cd 2) 2 = .ok (.iload_n 2, 1) := by decide +kernel
theorem rs_d_2_3 : decode (rs_cd 2) 3 = .ok (.bipush 10, 2) := by decide +kernel
theorem rs_d_2_5 : decode (rs_cd 2) 5 = .ok (.if_icmp .ge 61, 3) := by decide +kernel
theorem rs_d_2_8 : decode (rs_cd 2) 8 = .ok (.iload_n 2, 1) := by decide +kernel
theorem rs_d_2_9 : decode (rs_cd 2) 9 = .ok (.iconst 1, 1) := by decide +kernel
theorem rs_d_2_10 : decode (rs_cd 2) 10 = .ok (.iadd, 1) := by decide +kernel
theorem rs_d_2_11 : decode (rs_cd 2) 11 = .ok (.istore_n 3, 1) := by decide +kernel
theorem rs_d_2_12 : decode (rs_cd 2) 12 = .ok (.iload_n 3, 1) := by decide +kernel
theorem rs_d_2_13 : decode (rs_cd 2) 13 = .ok (.bipush 10, 2) := by decide +kernel
theorem rs_d_2_15 : decode (rs_cd 2) 15 = .ok (.if_icmp .ge 45, 3) := by decide +kernel
theorem rs_d_2_18 : decode (rs_cd 2) 18 = .ok (.iload_n 0, 1) := by decide +kernel
theorem rs_d_2_19 : decode (rs_cd 2) 19 = .ok (.iload_n 2, 1) := by decide +kernel
theorem rs_d_2_20 : decode (rs_cd 2) 20 = .ok (.ishr, 1) := by decide +kernel
theorem rs_d_2_21 : decode (rs_cd 2) 21 = .ok (.iload_n 0, 1) := by decide +kernel
theorem rs_d_2_22 : decode (rs_cd 2) 22 = .ok (.iload_n 3, 1) := by decide +kernel
theorem rs_d_2_23 : decode (rs_cd 2) 23 = .ok (.ishr, 1) := by decide +kernel
theorem rs_d_2_24 : decode (rs_cd 2) 24 = .ok (.iand, 1) := by decide +kernel
theorem rs_d_2_25 : decode (rs_cd 2) 25 = .ok (.iconst 1, 1) := by decide +kernel
theorem rs_d_2_26 : decode (rs_cd 2) 26 = .ok (.iand, 1) := by decide +kernel
theorem rs_d_2_27 : decode (rs_cd 2) 27 = .ok (.iconst 1, 1) := by decide +kernel
theorem rs_d_2_28 : decode (rs_cd 2) 28 = .ok (.if_icmp .ne 7, 3) := by decide +kernel
theorem rs_d_2_31 : decode (rs_cd 2) 31 = .ok (.iconst 1, 1) := by decide +kernel
theorem rs_d_2_32 : decode (rs_cd 2) 32 = .ok (.goto 4, 3) := by decide +kernel
theorem rs_d_2_35 : decode (rs_cd 2) 35 = .ok (.iconst 0, 1) := by decide +kernel
theorem rs_d_2_36 : decode (rs_cd 2) 36 = .ok (.istore 4, 2) := by decide +kernel
theorem rs_d_2_38 : decode (rs_cd 2) 38 = .ok (.iload 4, 2) := by decide +kernel
theorem rs_d_2_40 : decode (rs_cd 2) 40 = .ok (.ifCond .eq 14, 3) := by decide +kernel
theorem rs_d_2_43 : decode (rs_cd 2) 43 = .ok (.aload_n 1, 1) := by decide +kernel
theorem rs_d_2_44 : decode (rs_cd 2) 44 = .ok (.iload_n 2, 1) := by decide +kernel
theorem rs_d_2_45 : decode (rs_cd 2) 45 = .ok (.iaload, 1) := by decide +kernel
theorem rs_d_2_46 : decode (rs_cd 2) 46 = .ok (.aload_n 1, 1) := by decide +kernel
theorem rs_d_2_47 : decode (rs_cd 2) 47 = .ok (.iload_n 3, 1) := by decide +kernel
theorem rs_d_2_48 : decode (rs_cd 2) 48 = .ok (.iaload, 1) := by decide +kernel
theorem rs_d_2_49 : decode (rs_cd 2) 49 = .ok (.if_icmp .ne 5, 3) := by decide +kernel
theorem rs_d_2_52 : decode (rs_cd 2) 52 = .ok (.iconst 0, 1) := by decide +kernel
theorem rs_d_2_53 : decode (rs_cd 2) 53 = .ok (.ireturn, 1) := by decide +kernel
theorem rs_d_2_54 : decode (rs_cd 2) 54 = .ok (.iinc 3 1, 3) := by decide +kernel
theorem rs_d_2_57 : decode (rs_cd 2) 57 = .ok (.goto (-45), 3) := by decide +kernel
theorem rs_d_2_60 : decode (rs_cd 2) 60 = .ok (.iinc 2 1, 3) := by decide +kernel
theorem rs_d_2_63 : decode (rs_cd 2) 63 = .ok (.goto (-61), 3) := by decide +kernel
theorem rs_d_2_66 : decode (rs_cd 2) 66 = .ok (.iconst 1, 1) := by decide +kernel
theorem rs_d_2_67 : decode (rs_cd 2) 67 = .ok (.ireturn, 1) := by decide +kernel
theorem rs_d_3_0 : decode (rs_cd 3) 0 = .ok (.iconst 0, 1) := by decide +kernel
theorem rs_d_3_1 : decode (rs_cd 3) 1 = .ok (.istore_n 3, 1) := by decide +kernel
theorem rs_d_3_2 : decode (rs_cd 3) 2 = .ok (.iload_n 3, 1) := by decide +kernel
theorem rs_d_3_3 : decode (rs_cd 3) 3 = .ok (.aload_n 0, 1) := by decide +kernel
theorem rs_d_3_4 : decode (rs_cd 3) 4 = .ok (.getfield 77, 3) := by decide +kernel
theorem rs_f_3_77 : rs_fd 3 77 = some (6, 2, 0) := by decide +kernel
theorem rs_d_3_7 : decode (rs_cd 3) 7 = .ok (.if_icmp .ge 31, 3) := by decide +kernel
theorem rs_d_3_10 : decode (rs_cd 3) 10 = .ok (.aload_n 0, 1) := by decide +kernel
theorem rs_d_3_11 : decode (rs_cd 3) 11 = .ok (.getfield 80, 3) := by decide +kernel
theorem rs_f_3_80 : rs_fd 3 80 = some (6, 0, 2) := by decide +kernel
theorem rs_d_3_14 : decode (rs_cd 3) 14 = .ok (.iload_n 3, 1) := by decide +kernel
theorem rs_d_3_15 : decode (rs_cd 3) 15 = .ok (.iaload, 1) := by decide +kernel
theorem rs_d_3_16 : decode (rs_cd 3) 16 = .ok (.iload_n 1, 1) := by decide +kernel
theorem rs_d_3_17 : decode (rs_cd 3) 17 = .ok (.if_icmp .ne 15, 3) := by decide +kernel
theorem rs_d_3_20 : decode (rs_cd 3) 20 = .ok (.aload_n 0, 1) := by decide +kernel
theorem rs_d_3_21 : decode (rs_cd 3) 21 = .ok (.getfield 84, 3) := by decide +kernel
theorem rs_f_3_84 : rs_fd 3 84 = some (6, 1, 2) := by decide +kernel
theorem rs_d_3_24 : decode (rs_cd 3) 24 = .ok (.iload_n 3, 1) := by decide +kernel
theorem rs_d_3_25 : decode (rs_cd 3) 25 = .ok (.iaload, 1) := by decide +kernel
theorem rs_d_3_26 : decode (rs_cd 3) 26 = .ok (.iload_n 2, 1) := by decide +kernel
theorem rs_d_3_27 : decode (rs_cd 3) 27 = .ok (.if_icmp .ne 5, 3) := by decide +kernel
theorem rs_d_3_30 : decode (rs_cd 3) 30 = .ok (.iconst 1, 1) := by decide +kernel
theorem rs_d_3_31 : decode (rs_cd 3) 31 = .ok (.ireturn, 1) := by decide +kernel
theorem rs_d_3_32 : decode (rs_cd 3) 32 = .ok (.iinc 3 1, 3) := by decide +kernel
theorem rs_d_3_35 : decode (rs_cd 3) 35 = .ok (.goto (-33), 3) := by decide +kernel
theorem rs_d_3_38 : decode (rs_cd 3) 38 = .ok (.iconst 0, 1) := by decide +kernel
theorem rs_d_3_39 : decode (rs_cd 3) 39 = .ok (.ireturn, 1) := by decide +kernel
theorem rs_d_4_0 : decode (rs_cd 4) 0 = .ok (.iconst 0, 1) := by decide +kernel
theorem rs_d_4_1 : decode (rs_cd 4) 1 = .ok (.istore_n 2, 1) := by decide +kernel
theorem rs_d_4_2 : decode (rs_cd 4) 2 = .ok (.iconst 0, 1) := by decide +kernel
theorem rs_d_4_3 : decode (rs_cd 4) 3 = .ok (.istore_n 3, 1) := by decide +kernel
theorem rs_d_4_4 : decode (rs_cd 4) 4 = .ok (.iload_n 3, 1) := by decide +kernel
theorem rs_d_4_5 : decode (rs_cd 4) 5 = .ok (.aload_n 0, 1) := by decide +kernel
theorem rs_d_4_6 : decode (rs_cd 4) 6 = .ok (.getfield 38, 3) := by decide +kernel
theorem rs_f_4_38 : rs_fd 4 38 = some (1, 2, 0) := by decide +kernel
theorem rs_d_4_9 : decode (rs_cd 4) 9 = .ok (.if_icmp .ge 41, 3) := by decide +kernel
theorem rs_d_4_12 : decode (rs_cd 4) 12 = .ok (.aload_n 0, 1) := by decide +kernel
theorem rs_d_4_13 : decode (rs_cd 4) 13 = .ok (.getfield 11, 3) := by decide +kernel
theorem rs_f_4_11 : rs_fd 4 11 = some (1, 0, 2) := by decide +kernel
theorem rs_d_4_16 : decode (rs_cd 4) 16 = .ok (.iload_n 3, 1) := by decide +kernel
theorem rs_d_4_17 : decode (rs_cd 4) 17 = .ok (.aaload, 1) := by decide +kernel
theorem rs_d_4_18 : decode (rs_cd 4) 18 = .ok (.getfield 87, 3) := by decide +kernel
theorem rs_f_4_87 : rs_fd 4 87 = some (3, 5, 1) := by decide +kernel
theorem rs_d_4_21 : decode (rs_cd 4) 21 = .ok (.ifCond .eq 23, 3) := by decide +kernel
theorem rs_d_4_24 : decode (rs_cd 4) 24 = .ok (.aload_n 0, 1) := by decide +kernel
theorem rs_d_4_25 : decode (rs_cd 4) 25 = .ok (.getfield 11, 3) := by decide +kernel
theorem rs_d_4_28 : decode (rs_cd 4) 28 = .ok (.iload_n 3, 1) := by decide +kernel
theorem rs_d_4_29 : decode (rs_cd 4) 29 = .ok (.aaload, 1) := by decide +kernel
theorem rs_d_4_30 : decode (rs_cd 4) 30 = .ok (.getfield 66, 3) := by decide +kernel
theorem rs_f_4_66 : rs_fd 4 66 = some (3, 4, 0) := by decide +kernel
theorem rs_d_4_33 : decode (rs_cd 4) 33 = .ok (.iload_n 1, 1) := by decide +kernel
theorem rs_d_4_34 : decode (rs_cd 4) 34 = .ok (.iand, 1) := by decide +kernel
theorem rs_d_4_35 : decode (rs_cd 4) 35 = .ok (.ifCond .eq 9, 3) := by decide +kernel
theorem rs_d_4_38 : decode (rs_cd 4) 38 = .ok (.iload_n 2, 1) := by decide +kernel
theorem rs_d_4_39 : decode (rs_cd 4) 39 = .ok (.iconst 1, 1) := by decide +kernel
theorem rs_d_4_40 : decode (rs_cd 4) 40 = .ok (.iload_n 3, 1) := by decide +kernel
theorem rs_d_4_41 : decode (rs_cd 4) 41 = .ok (.ishl, 1) := by decide +kernel
theorem rs_d_4_42 : decode (rs_cd 4) 42 = .ok (.ior, 1) := by decide +kernel
theorem rs_d_4_43 : decode (rs_cd 4) 43 = .ok (.istore_n 2, 1) := by decide +kernel
theorem rs_d_4_44 : decode (rs_cd 4) 44 = .ok (.iinc 3 1, 3) := by decide +kernel
theorem rs_d_4_47 : decode (rs_cd 4) 47 = .ok (.goto (-43), 3) := by decide +kernel
theorem rs_d_4_50 : decode (rs_cd 4) 50 = .ok (.iload_n 2, 1) := by decide +kernel
theorem rs_d_4_51 : decode (rs_cd 4) 51 = .ok (.ireturn, 1) := by decide +kernel
theorem rs_d_5_0 : decode (rs_cd 5) 0 = .ok (.aload_n 0, 1) := by decide +kernel
theorem rs_d_5_1 : decode (rs_cd 5) 1 = .ok (.aload_n 1, 1) := by decide +kernel
theorem rs_d_5_2 : decode (rs_cd 5) 2 = .ok (.getfield 91, 3) := by decide +kernel
theorem rs_f_5_91 : rs_fd 5 91 = some (2, 2, 0) := by decide +kernel
theorem rs_d_5_5 : decode (rs_cd 5) 5 = .ok (.invokevirtual 96, 3) := by decide +kernel
theorem rs_t_5_96 : rs_tg 5 96 = some 4 := by decide +kernel
theorem rs_d_5_8 : decode (rs_cd 5) 8 = .ok (.istore_n 2, 1) := by decide +kernel
theorem rs_d_5_9 : decode (rs_cd 5) 9 = .ok (.iconst 0, 1) := by decide +kernel
theorem rs_d_5_10 : decode (rs_cd 5) 10 = .ok (.istore_n 3, 1) := by decide +kernel
theorem rs_d_5_11 : decode (rs_cd 5) 11 = .ok (.iload_n 3, 1) := by decide +kernel
theorem rs_d_5_12 : decode (rs_cd 5) 12 = .ok (.ldc 100, 2) := by decide +kernel
theorem rs_c_5_100 : rs_cst 5 100 = some 1000000 := by decide +kernel
theorem rs_d_5_14 : decode (rs_cd 5) 14 = .ok (.if_icmp .ge 91, 3) := by decide +kernel
theorem rs_d_5_17 : decode (rs_cd 5) 17 = .ok (.iload_n 2, 1) := by decide +kernel
theorem rs_d_5_18 : decode (rs_cd 5) 18 = .ok (.ifCond .eq 87, 3) := by decide +kernel
theorem rs_d_5_21 : decode (rs_cd 5) 21 = .ok (.aload_n 1, 1) := by decide +kernel
theorem rs_d_5_22 : decode (rs_cd 5) 22 = .ok (.getfield 101, 3) := by decide +kernel
theorem rs_f_5_101 : rs_fd 5 101 = some (2, 3, 1) := by decide +kernel
theorem rs_d_5_25 : decode (rs_cd 5) 25 = .ok (.ifCond .ne 80, 3) := by decide +kernel
theorem rs_d_5_28 : decode (rs_cd 5) 28 = .ok (.iconst 0, 1) := by decide +kernel
theorem rs_d_5_29 : decode (rs_cd 5) 29 = .ok (.istore 4, 2) := by decide +kernel
theorem rs_d_5_31 : decode (rs_cd 5) 31 = .ok (.iload 4, 2) := by decide +kernel
theorem rs_d_5_33 : decode (rs_cd 5) 33 = .ok (.aload_n 0, 1) := by decide +kernel
theorem rs_d_5_34 : decode (rs_cd 5) 34 = .ok (.getfield 38, 3) := by decide +kernel
theorem rs_f_5_38 : rs_fd 5 38 = some (1, 2, 0) := by decide +kernel
theorem rs_d_5_37 : decode (rs_cd 5) 37 = .ok (.if_icmp .ge 62, 3) := by decide +kernel
theorem rs_d_5_40 : decode (rs_cd 5) 40 = .ok (.aload_n 1, 1) := by decide +kernel
theorem rs_d_5_41 : decode (rs_cd 5) 41 = .ok (.getfield 101, 3) := by decide +kernel
theorem rs_d_5_44 : decode (rs_cd 5) 44 = .ok (.ifCond .ne 55, 3) := by decide +kernel
theorem rs_d_5_47 : decode (rs_cd 5) 47 = .ok (.iconst 1, 1) := by decide +kernel
theorem rs_d_5_48 : decode (rs_cd 5) 48 = .ok (.iload 4, 2) := by decide +kernel
theorem rs_d_5_50 : decode (rs_cd 5) 50 = .ok (.ishl, 1) := by decide +kernel
theorem rs_d_5_51 : decode (rs_cd 5) 51 = .ok (.istore 5, 2) := by decide +kernel
theorem rs_d_5_53 : decode (rs_cd 5) 53 = .ok (.iload_n 2, 1) := by decide +kernel
theorem rs_d_5_54 : decode (rs_cd 5) 54 = .ok (.iload 5, 2) := by decide +kernel
theorem rs_d_5_56 : decode (rs_cd 5) 56 = .ok (.iand, 1) := by decide +kernel
theorem rs_d_5_57 : decode (rs_cd 5) 57 = .ok (.ifCond .eq 36, 3) := by decide +kernel
theorem rs_d_5_60 : decode (rs_cd 5) 60 = .ok (.aload_n 1, 1) := by decide +kernel
theorem rs_d_5_61 : decode (rs_cd 5) 61 = .ok (.iconst 0, 1) := by decide +kernel
theorem rs_d_5_62 : decode (rs_cd 5) 62 = .ok (.putfield 91, 3) := by decide +kernel
theorem rs_d_5_65 : decode (rs_cd 5) 65 = .ok (.aload_n 0, 1) := by decide +kernel
theorem rs_d_5_66 : decode (rs_cd 5) 66 = .ok (.aload_n 0, 1) := by decide +kernel
theorem rs_d_5_67 : decode (rs_cd 5) 67 = .ok (.getfield 11, 3) := by decide +kernel
theorem rs_f_5_11 : rs_fd 5 11 = some (1, 0, 2) := by decide +kernel
theorem rs_d_5_70 : decode (rs_cd 5) 70 = .ok (.iload 4, 2) := by decide +kernel
theorem rs_d_5_72 : decode (rs_cd 5) 72 = .ok (.aaload, 1) := by decide +kernel
theorem rs_d_5_73 : decode (rs_cd 5) 73 = .ok (.aload_n 1, 1) := by decide +kernel
theorem rs_d_5_74 : decode (rs_cd 5) 74 = .ok (.invokevirtual 104, 3) := by decide +kernel
theorem rs_t_5_104 : rs_tg 5 104 = some 6 := by decide +kernel
theorem rs_d_5_77 : decode (rs_cd 5) 77 = .ok (.iload_n 2, 1) := by decide +kernel
theorem rs_d_5_78 : decode (rs_cd 5) 78 = .ok (.aload_n 0, 1) := by decide +kernel
theorem rs_d_5_79 : decode (rs_cd 5) 79 = .ok (.aload_n 1, 1) := by decide +kernel
theorem rs_d_5_80 : decode (rs_cd 5) 80 = .ok (.getfield 91, 3) := by decide +kernel
theorem rs_d_5_83 : decode (rs_cd 5) 83 = .ok (.invokevirtual 96, 3) := by decide +kernel
theorem rs_d_5_86 : decode (rs_cd 5) 86 = .ok (.ior, 1) := by decide +kernel
theorem rs_d_5_87 : decode (rs_cd 5) 87 = .ok (.iload 5, 2) := by decide +kernel
theorem rs_d_5_89 : decode (rs_cd 5) 89 = .ok (.iconst (-1), 1) := by decide +kernel
theorem rs_d_5_90 : decode (rs_cd 5) 90 = .ok (.ixor, 1) := by decide +kernel
theorem rs_d_5_91 : decode (rs_cd 5) 91 = .ok (.iand, 1) := by decide +kernel
theorem rs_d_5_92 : decode (rs_cd 5) 92 = .ok (.istore_n 2, 1) := by decide +kernel
theorem rs_d_5_93 : decode (rs_cd 5) 93 = .ok (.iinc 4 1, 3) := by decide +kernel
theorem rs_d_5_96 : decode (rs_cd 5) 96 = .ok (.goto (-65), 3) := by decide +kernel
theorem rs_d_5_99 : decode (rs_cd 5) 99 = .ok (.iinc 3 1, 3) := by decide +kernel
theorem rs_d_5_102 : decode (rs_cd 5) 102 = .ok (.goto (-91), 3) := by decide +kernel
theorem rs_d_5_105 : decode (rs_cd 5) 105 = .ok (.return_, 1) := by decide +kernel
theorem rs_d_6_0 : decode (rs_cd 6) 0 = .ok (.aload_n 1, 1) := by decide +kernel
theorem rs_d_6_1 : decode (rs_cd 6) 1 = .ok (.getfield 42, 3) := by decide +kernel
theorem rs_f_6_42 : rs_fd 6 42 = some (3, 0, 0) := by decide +kernel
theorem rs_d_6_4 : decode (rs_cd 6) 4 = .ok (.tableswitch 88 5 8 #[32, 51, 59, 70], 32) := by decide +kernel
theorem rs_d_6_36 : decode (rs_cd 6) 36 = .ok (.aload_n 1, 1) := by decide +kernel
theorem rs_d_6_37 : decode (rs_cd 6) 37 = .ok (.getfield 45, 3) := by decide +kernel
theorem rs_f_6_45 : rs_fd 6 45 = some (3, 1, 0) := by decide +kernel
theorem rs_d_6_40 : decode (rs_cd 6) 40 = .ok (.aload_n 1, 1) := by decide +kernel
theorem rs_d_6_41 : decode (rs_cd 6) 41 = .ok (.getfield 48, 3) := by decide +kernel
theorem rs_f_6_48 : rs_fd 6 48 = some (3, 2, 0) := by decide +kernel
theorem rs_d_6_44 : decode (rs_cd 6) 44 = .ok (.aload_n 1, 1) := by decide +kernel
theorem rs_d_6_45 : decode (rs_cd 6) 45 = .ok (.getfield 51, 3) := by decide +kernel
theorem rs_f_6_51 : rs_fd 6 51 = some (3, 3, 0) := by decide +kernel
theorem rs_d_6_48 : decode (rs_cd 6) 48 = .ok (.aload_n 2, 1) := by decide +kernel
theorem rs_d_6_49 : decode (rs_cd 6) 49 = .ok (.invokestatic 108, 3) := by decide +kernel
theorem rs_t_6_108 : rs_tg 6 108 = some 9 := by decide +kernel
theorem rs_d_6_52 : decode (rs_cd 6) 52 = .ok (.goto 75, 3) := by decide +kernel
theorem rs_d_6_55 : decode (rs_cd 6) 55 = .ok (.aload_n 1, 1) := by decide +kernel
theorem rs_d_6_56 : decode (rs_cd 6) 56 = .ok (.aload_n 2, 1) := by decide +kernel
theorem rs_d_6_57 : decode (rs_cd 6) 57 = .ok (.invokestatic 112, 3) := by decide +kernel
theorem rs_t_6_112 : rs_tg 6 112 = some 10 := by decide +kernel
theorem rs_d_6_60 : decode (rs_cd 6) 60 = .ok (.goto 67, 3) := by decide +kernel
theorem rs_d_6_63 : decode (rs_cd 6) 63 = .ok (.aload_n 1, 1) := by decide +kernel
theorem rs_d_6_64 : decode (rs_cd 6) 64 = .ok (.getfield 66, 3) := by decide +kernel
theorem rs_f_6_66 : rs_fd 6 66 = some (3, 4, 0) := by decide +kernel
theorem rs_d_6_67 : decode (rs_cd 6) 67 = .ok (.aload_n 2, 1) := by decide +kernel
theorem rs_d_6_68 : decode (rs_cd 6) 68 = .ok (.invokestatic 115, 3) := by decide +kernel
theorem rs_t_6_115 : rs_tg 6 115 = some 12 := by decide +kernel
theorem rs_d_6_71 : decode (rs_cd 6) 71 = .ok (.goto 56, 3) := by decide +kernel
theorem rs_d_6_74 : decode (rs_cd 6) 74 = .ok (.aload_n 0, 1) := by decide +kernel
theorem rs_d_6_75 : decode (rs_cd 6) 75 = .ok (.aload_n 1, 1) := by decide +kernel
theorem rs_d_6_76 : decode (rs_cd 6) 76 = .ok (.aload_n 0, 1) := by decide +kernel
theorem rs_d_6_77 : decode (rs_cd 6) 77 = .ok (.getfield 19, 3) := by decide +kernel
theorem rs_f_6_19 : rs_fd 6 19 = some (1, 1, 2) := by decide +kernel
theorem rs_d_6_80 : decode (rs_cd 6) 80 = .ok (.aload_n 1, 1) := by decide +kernel
theorem rs_d_6_81 : decode (rs_cd 6) 81 = .ok (.getfield 51, 3) := by decide +kernel
theorem rs_d_6_84 : decode (rs_cd 6) 84 = .ok (.aaload, 1) := by decide +kernel
theorem rs_d_6_85 : decode (rs_cd 6) 85 = .ok (.aload_n 2, 1) := by decide +kernel
theorem rs_d_6_86 : decode (rs_cd 6) 86 = .ok (.invokevirtual 119, 3) := by decide +kernel
theorem rs_t_6_119 : rs_tg 6 119 = some 11 := by decide +kernel
theorem rs_d_6_89 : decode (rs_cd 6) 89 = .ok (.goto 38, 3) := by decide +kernel
theorem rs_d_6_92 : decode (rs_cd 6) 92 = .ok (.aload_n 1, 1) := by decide +kernel
theorem rs_d_6_93 : decode (rs_cd 6) 93 = .ok (.getfield 42, 3) := by decide +kernel
theorem rs_d_6_96 : decode (rs_cd 6) 96 = .ok (.invokestatic 123, 3) := by decide +kernel
theorem rs_t_6_123 : rs_tg 6 123 = some 7 := by decide +kernel
theorem rs_d_6_99 : decode (rs_cd 6) 99 = .ok (.ifCond .eq 22, 3) := by decide +kernel
theorem rs_d_6_102 : decode (rs_cd 6) 102 = .ok (.aload_n 1, 1) := by decide +kernel
theorem rs_d_6_103 : decode (rs_cd 6) 103 = .ok (.getfield 66, 3) := by decide +kernel
theorem rs_d_6_106 : decode (rs_cd 6) 106 = .ok (.invokestatic 127, 3) := by decide +kernel
theorem rs_t_6_127 : rs_tg 6 127 = some 114 := by decide +kernel
theorem rs_d_6_109 : decode (rs_cd 6) 109 = .ok (.iconst 3, 1) := by decide +kernel
theorem rs_d_6_110 : decode (rs_cd 6) 110 = .ok (.if_icmp .ne 11, 3) := by decide +kernel
theorem rs_d_6_113 : decode (rs_cd 6) 113 = .ok (.aload_n 1, 1) := by decide +kernel
theorem rs_d_6_114 : decode (rs_cd 6) 114 = .ok (.aload_n 2, 1) := by decide +kernel
theorem rs_d_6_115 : decode (rs_cd 6) 115 = .ok (.invokestatic 132, 3) := by decide +kernel
theorem rs_t_6_132 : rs_tg 6 132 = some 8 := by decide +kernel
theorem rs_d_6_118 : decode (rs_cd 6) 118 = .ok (.goto 9, 3) := by decide +kernel
theorem rs_d_6_121 : decode (rs_cd 6) 121 = .ok (.aload_n 0, 1) := by decide +kernel
theorem rs_d_6_122 : decode (rs_cd 6) 122 = .ok (.aload_n 1, 1) := by decide +kernel
theorem rs_d_6_123 : decode (rs_cd 6) 123 = .ok (.aload_n 2, 1) := by decide +kernel
theorem rs_d_6_124 : decode (rs_cd 6) 124 = .ok (.invokevirtual 135, 3) := by decide +kernel
theorem rs_t_6_135 : rs_tg 6 135 = some 15 := by decide +kernel
theorem rs_d_6_127 : decode (rs_cd 6) 127 = .ok (.return_, 1) := by decide +kernel
theorem rs_d_7_0 : decode (rs_cd 7) 0 = .ok (.iload_n 0, 1) := by decide +kernel
theorem rs_d_7_1 : decode (rs_cd 7) 1 = .ok (.ifCond .eq 13, 3) := by decide +kernel
theorem rs_d_7_4 : decode (rs_cd 7) 4 = .ok (.iload_n 0, 1) := by decide +kernel
theorem rs_d_7_5 : decode (rs_cd 7) 5 = .ok (.iconst 3, 1) := by decide +kernel
theorem rs_d_7_6 : decode (rs_cd 7) 6 = .ok (.if_icmp .eq 8, 3) := by decide +kernel
theorem rs_d_7_9 : decode (rs_cd 7) 9 = .ok (.iload_n 0, 1) := by decide +kernel
theorem rs_d_7_10 : decode (rs_cd 7) 10 = .ok (.iconst 4, 1) := by decide +kernel
theorem rs_d_7_11 : decode (rs_cd 7) 11 = .ok (.if_icmp .ne 7, 3) := by decide +kernel
theorem rs_d_7_14 : decode (rs_cd 7) 14 = .ok (.iconst 1, 1) := by decide +kernel
theorem rs_d_7_15 : decode (rs_cd 7) 15 = .ok (.goto 4, 3) := by decide +kernel
theorem rs_d_7_18 : decode (rs_cd 7) 18 = .ok (.iconst 0, 1) := by decide +kernel
theorem rs_d_7_19 : decode (rs_cd 7) 19 = .ok (.ireturn, 1) := by decide +kernel
theorem rs_d_8_0 : decode (rs_cd 8) 0 = .ok (.aload_n 1, 1) := by decide +kernel
theorem rs_d_8_1 : decode (rs_cd 8) 1 = .ok (.getfield 138, 3) := by decide +kernel
theorem rs_f_8_138 : rs_fd 8 138 = some (2, 0, 2) := by decide +kernel
theorem rs_d_8_4 : decode (rs_cd 8) 4 = .ok (.astore_n 2, 1) := by decide +kernel
theorem rs_d_8_5 : decode (rs_cd 8) 5 = .ok (.aload_n 1, 1) := by decide +kernel
theorem rs_d_8_6 : decode (rs_cd 8) 6 = .ok (.getfield 141, 3) := by decide +kernel
theorem rs_f_8_141 : rs_fd 8 141 = some (2, 1, 2) := by decide +kernel
theorem rs_d_8_9 : decode (rs_cd 8) 9 = .ok (.astore_n 3, 1) := by decide +kernel
theorem rs_d_8_10 : decode (rs_cd 8) 10 = .ok (.aload_n 2, 1) := by decide +kernel
theorem rs_d_8_11 : decode (rs_cd 8) 11 = .ok (.aload_n 0, 1) := by decide +kernel
theorem rs_d_8_12 : decode (rs_cd 8) 12 = .ok (.getfield 51, 3) := by decide +kernel
theorem rs_f_8_51 : rs_fd 8 51 = some (3, 3, 0) := by decide +kernel
theorem rs_d_8_15 : decode (rs_cd 8) 15 = .ok (.iaload, 1) := by decide +kernel
theorem rs_d_8_16 : decode (rs_cd 8) 16 = .ok (.istore 4, 2) := by decide +kernel
theorem rs_d_8_18 : decode (rs_cd 8) 18 = .ok (.aload_n 3, 1) := by decide +kernel
theorem rs_d_8_19 : decode (rs_cd 8) 19 = .ok (.aload_n 0, 1) := by decide +kernel
theorem rs_d_8_20 : decode (rs_cd 8) 20 = .ok (.getfield 51, 3) := by decide +kernel
theorem rs_d_8_23 : decode (rs_cd 8) 23 = .ok (.iaload, 1) := by decide +kernel
theorem rs_d_8_24 : decode (rs_cd 8) 24 = .ok (.istore 5, 2) := by decide +kernel
theorem rs_d_8_26 : decode (rs_cd 8) 26 = .ok (.aload_n 1, 1) := by decide +kernel
theorem rs_d_8_27 : decode (rs_cd 8) 27 = .ok (.aload_n 0, 1) := by decide +kernel
theorem rs_d_8_28 : decode (rs_cd 8) 28 = .ok (.getfield 45, 3) := by decide +kernel
theorem rs_f_8_45 : rs_fd 8 45 = some (3, 1, 0) := by decide +kernel
theorem rs_d_8_31 : decode (rs_cd 8) 31 = .ok (.aload_n 0, 1) := by decide +kernel
theorem rs_d_8_32 : decode (rs_cd 8) 32 = .ok (.getfield 42, 3) := by decide +kernel
theorem rs_f_8_42 : rs_fd 8 42 = some (3, 0, 0) := by decide +kernel
theorem rs_d_8_35 : decode (rs_cd 8) 35 = .ok (.aload_n 3, 1) := by decide +kernel
theorem rs_d_8_36 : decode (rs_cd 8) 36 = .ok (.aload_n 0, 1) := by decide +kernel
theorem rs_d_8_37 : decode (rs_cd 8) 37 = .ok (.getfield 48, 3) := by decide +kernel
theorem rs_f_8_48 : rs_fd 8 48 = some (3, 2, 0) := by decide +kernel
theorem rs_d_8_40 : decode (rs_cd 8) 40 = .ok (.iaload, 1) := by decide +kernel
theorem rs_d_8_41 : decode (rs_cd 8) 41 = .ok (.iload 4, 2) := by decide +kernel
theorem rs_d_8_43 : decode (rs_cd 8) 43 = .ok (.iload 5, 2) := by decide +kernel
theorem rs_d_8_45 : decode (rs_cd 8) 45 = .ok (.invokestatic 144, 3) := by decide +kernel
theorem rs_t_8_144 : rs_tg 8 144 = some 18 := by decide +kernel
theorem rs_d_8_48 : decode (rs_cd 8) 48 = .ok (.aload_n 0, 1) := by decide +kernel
theorem rs_d_8_49 : decode (rs_cd 8) 49 = .ok (.getfield 42, 3) := by decide +kernel
theorem rs_d_8_52 : decode (rs_cd 8) 52 = .ok (.aload_n 2, 1) := by decide +kernel
theorem rs_d_8_53 : decode (rs_cd 8) 53 = .ok (.aload_n 0, 1) := by decide +kernel
theorem rs_d_8_54 : decode (rs_cd 8) 54 = .ok (.getfield 48, 3) := by decide +kernel
theorem rs_d_8_57 : decode (rs_cd 8) 57 = .ok (.iaload, 1) := by decide +kernel
theorem rs_d_8_58 : decode (rs_cd 8) 58 = .ok (.iload 4, 2) := by decide +kernel
theorem rs_d_8_60 : decode (rs_cd 8) 60 = .ok (.iload 5, 2) := by decide +kernel
theorem rs_d_8_62 : decode (rs_cd 8) 62 = .ok (.invokestatic 148, 3) := by decide +kernel
theorem rs_t_8_148 : rs_tg 8 148 = some 19 := by decide +kernel
theorem rs_d_8_65 : decode (rs_cd 8) 65 = .ok (.invokevirtual 151, 3) := by decide +kernel
theorem rs_t_8_151 : rs_tg 8 151 = some 26 := by decide +kernel
theorem rs_d_8_68 : decode (rs_cd 8) 68 = .ok (.aload_n 1, 1) := by decide +kernel
theorem rs_d_8_69 : decode (rs_cd 8) 69 = .ok (.aload_n 0, 1) := by decide +kernel
theorem rs_d_8_70 : decode (rs_cd 8) 70 = .ok (.getfield 48, 3) := by decide +kernel
theorem rs_d_8_73 : decode (rs_cd 8) 73 = .ok (.aload_n 0, 1) := by decide +kernel
theorem rs_d_8_74 : decode (rs_cd 8) 74 = .ok (.getfield 42, 3) := by decide +kernel
theorem rs_d_8_77 : decode (rs_cd 8) 77 = .ok (.aload_n 3, 1) := by decide +kernel
theorem rs_d_8_78 : decode (rs_cd 8) 78 = .ok (.aload_n 0, 1) := by decide +kernel
theorem rs_d_8_79 : decode (rs_cd 8) 79 = .ok (.getfield 45, 3) := by decide +kernel
theorem rs_d_8_82 : decode (rs_cd 8) 82 = .ok (.iaload, 1) := by decide +kernel
theorem rs_d_8_83 : decode (rs_cd 8) 83 = .ok (.iload 4, 2) := by decide +kernel
theorem rs_d_8_85 : decode (rs_cd 8) 85 = .ok (.iload 5, 2) := by decide +kernel
theorem rs_d_8_87 : decode (rs_cd 8) 87 = .ok (.invokestatic 144, 3) := by decide +kernel
theorem rs_d_8_90 : decode (rs_cd 8) 90 = .ok (.aload_n 0, 1) := by decide +kernel
theorem rs_d_8_91 : decode (rs_cd 8) 91 = .ok (.getfield 42, 3) := by decide +kernel
theorem rs_d_8_94 : decode (rs_cd 8) 94 = .ok (.aload_n 2, 1) := by decide +kernel
theorem rs_d_8_95 : decode (rs_cd 8) 95 = .ok (.aload_n 0, 1) := by decide +kernel
theorem rs_d_8_96 : decode (rs_cd 8) 96 = .ok (.getfield 45, 3) := by decide +kernel
theorem rs_d_8_99 : decode (rs_cd 8) 99 = .ok (.iaload, 1) := by decide +kernel
theorem rs_d_8_100 : decode (rs_cd 8) 100 = .ok (.iload 4, 2) := by decide +kernel
theorem rs_d_8_102 : decode (rs_cd 8) 102 = .ok (.iload 5, 2) := by decide +kernel
theorem rs_d_8_104 : decode (rs_cd 8) 104 = .ok (.invokestatic 148, 3) := by decide +kernel
theorem rs_d_8_107 : decode (rs_cd 8) 107 = .ok (.invokevirtual 151, 3) := by decide +kernel
theorem rs_d_8_110 : decode (rs_cd 8) 110 = .ok (.aload_n 1, 1) := by decide +kernel
theorem rs_d_8_111 : decode (rs_cd 8) 111 = .ok (.aload_n 0, 1) := by decide +kernel
theorem rs_d_8_112 : decode (rs_cd 8) 112 = .ok (.getfield 51, 3) := by decide +kernel
theorem rs_d_8_115 : decode (rs_cd 8) 115 = .ok (.aload_n 0, 1) := by decide +kernel
theorem rs_d_8_116 : decode (rs_cd 8) 116 = .ok (.getfield 42, 3) := by decide +kernel
theorem rs_d_8_119 : decode (rs_cd 8) 119 = .ok (.aload_n 2, 1) := by decide +kernel
theorem rs_d_8_120 : decode (rs_cd 8) 120 = .ok (.aload_n 0, 1) := by decide +kernel
theorem rs_d_8_121 : decode (rs_cd 8) 121 = .ok (.getfield 45, 3) := by decide +kernel
theorem rs_d_8_124 : decode (rs_cd 8) 124 = .ok (.iaload, 1) := by decide +kernel
theorem rs_d_8_125 : decode (rs_cd 8) 125 = .ok (.aload_n 2, 1) := by decide +kernel
theorem rs_d_8_126 : decode (rs_cd 8) 126 = .ok (.aload_n 0, 1) := by decide +kernel
theorem rs_d_8_127 : decode (rs_cd 8) 127 = .ok (.getfield 48, 3) := by decide +kernel
theorem rs_d_8_130 : decode (rs_cd 8) 130 = .ok (.iaload, 1) := by decide +kernel
theorem rs_d_8_131 : decode (rs_cd 8) 131 = .ok (.invokestatic 155, 3) := by decide +kernel
theorem rs_t_8_155 : rs_tg 8 155 = some 20 := by decide +kernel
theorem rs_d_8_134 : decode (rs_cd 8) 134 = .ok (.aload_n 0, 1) := by decide +kernel
theorem rs_d_8_135 : decode (rs_cd 8) 135 = .ok (.getfield 42, 3) := by decide +kernel
theorem rs_d_8_138 : decode (rs_cd 8) 138 = .ok (.aload_n 3, 1) := by decide +kernel
theorem rs_d_8_139 : decode (rs_cd 8) 139 = .ok (.aload_n 0, 1) := by decide +kernel
theorem rs_d_8_140 : decode (rs_cd 8) 140 = .ok (.getfield 45, 3) := by decide +kernel
theorem rs_d_8_143 : decode (rs_cd 8) 143 = .ok (.iaload, 1) := by decide +kernel
theorem rs_d_8_144 : decode (rs_cd 8) 144 = .ok (.aload_n 3, 1) := by decide +kernel
theorem rs_d_8_145 : decode (rs_cd 8) 145 = .ok (.aload_n 0, 1) := by decide +kernel
theorem rs_d_8_146 : decode (rs_cd 8) 146 = .ok (.getfield 48, 3) := by decide +kernel
theorem rs_d_8_149 : decode (rs_cd 8) 149 = .ok (.iaload, 1) := by decide +kernel
theorem rs_d_8_150 : decode (rs_cd 8) 150 = .ok (.invokestatic 155, 3) := by decide +kernel
theorem rs_d_8_153 : decode (rs_cd 8) 153 = .ok (.invokevirtual 151, 3) := by decide +kernel
theorem rs_d_8_156 : decode (rs_cd 8) 156 = .ok (.return_, 1) := by decide +kernel
theorem rs_d_9_0 : decode (rs_cd 9) 0 = .ok (.iload_n 0, 1) := by decide +kernel
theorem rs_d_9_1 : decode (rs_cd 9) 1 = .ok (.iload_n 1, 1) := by decide +kernel
theorem rs_d_9_2 : decode (rs_cd 9) 2 = .ok (.if_icmp .ne 26, 3) := by decide +kernel
theorem rs_d_9_5 : decode (rs_cd 9) 5 = .ok (.aload_n 3, 1) := by decide +kernel
theorem rs_d_9_6 : decode (rs_cd 9) 6 = .ok (.aload_n 3, 1) := by decide +kernel
theorem rs_d_9_7 : decode (rs_cd 9) 7 = .ok (.getfield 101, 3) := by decide +kernel
theorem rs_f_9_101 : rs_fd 9 101 = some (2, 3, 1) := by decide +kernel
theorem rs_d_9_10 : decode (rs_cd 9) 10 = .ok (.ifCond .ne 7, 3) := by decide +kernel
theorem rs_d_9_13 : decode (rs_cd 9) 13 = .ok (.iload_n 2, 1) := by decide +kernel
theorem rs_d_9_14 : decode (rs_cd 9) 14 = .ok (.ifCond .le 7, 3) := by decide +kernel
theorem rs_d_9_17 : decode (rs_cd 9) 17 = .ok (.iconst 1, 1) := by decide +kernel
theorem rs_d_9_18 : decode (rs_cd 9) 18 = .ok (.goto 4, 3) := by decide +kernel
theorem rs_d_9_21 : decode (rs_cd 9) 21 = .ok (.iconst 0, 1) := by decide +kernel
theorem rs_d_9_22 : decode (rs_cd 9) 22 = .ok (.putfield 101, 3) := by decide +kernel
theorem rs_d_9_25 : decode (rs_cd 9) 25 = .ok (.goto 29, 3) := by decide +kernel
theorem rs_d_9_28 : decode (rs_cd 9) 28 = .ok (.aload_n 3, 1) := by decide +kernel
theorem rs_d_9_29 : decode (rs_cd 9) 29 = .ok (.iload_n 0, 1) := by decide +kernel
theorem rs_d_9_30 : decode (rs_cd 9) 30 = .ok (.aload_n 3, 1) := by decide +kernel
theorem rs_d_9_31 : decode (rs_cd 9) 31 = .ok (.getfield 141, 3) := by decide +kernel
theorem rs_f_9_141 : rs_fd 9 141 = some (2, 1, 2) := by decide +kernel
theorem rs_d_9_34 : decode (rs_cd 9) 34 = .ok (.iload_n 1, 1) := by decide +kernel
theorem rs_d_9_35 : decode (rs_cd 9) 35 = .ok (.iaload, 1) := by decide +kernel
theorem rs_d_9_36 : decode (rs_cd 9) 36 = .ok (.iload_n 2, 1) := by decide +kernel
theorem rs_d_9_37 : decode (rs_cd 9) 37 = .ok (.isub, 1) := by decide +kernel
theorem rs_d_9_38 : decode (rs_cd 9) 38 = .ok (.invokevirtual 159, 3) := by decide +kernel
theorem rs_t_9_159 : rs_tg 9 159 = some 25 := by decide +kernel
theorem rs_d_9_41 : decode (rs_cd 9) 41 = .ok (.aload_n 3, 1) := by decide +kernel
theorem rs_d_9_42 : decode (rs_cd 9) 42 = .ok (.iload_n 1, 1) := by decide +kernel
theorem rs_d_9_43 : decode (rs_cd 9) 43 = .ok (.aload_n 3, 1) := by decide +kernel
theorem rs_d_9_44 : decode (rs_cd 9) 44 = .ok (.getfield 138, 3) := by decide +kernel
theorem rs_f_9_138 : rs_fd 9 138 = some (2, 0, 2) := by decide +kernel
theorem rs_d_9_47 : decode (rs_cd 9) 47 = .ok (.iload_n 0, 1) := by decide +kernel
theorem rs_d_9_48 : decode (rs_cd 9) 48 = .ok (.iaload, 1) := by decide +kernel
theorem rs_d_9_49 : decode (rs_cd 9) 49 = .ok (.iload_n 2, 1) := by decide +kernel
theorem rs_d_9_50 : decode (rs_cd 9) 50 = .ok (.iadd, 1) := by decide +kernel
theorem rs_d_9_51 : decode (rs_cd 9) 51 = .ok (.invokevirtual 163, 3) := by decide +kernel
theorem rs_t_9_163 : rs_tg 9 163 = some 24 := by decide +kernel
theorem rs_d_9_54 : decode (rs_cd 9) 54 = .ok (.return_, 1) := by decide +kernel
theorem rs_d_10_0 : decode (rs_cd 10) 0 = .ok (.aload_n 1, 1) := by decide +kernel
theorem rs_d_10_1 : decode (rs_cd 10) 1 = .ok (.getfield 138, 3) := by decide +kernel
theorem rs_f_10_138 : rs_fd 10 138 = some (2, 0, 2) := by decide +kernel
theorem rs_d_10_4 : decode (rs_cd 10) 4 = .ok (.aload_n 0, 1) := by decide +kernel
theorem rs_d_10_5 : decode (rs_cd 10) 5 = .ok (.getfield 45, 3) := by decide +kernel
theorem rs_f_10_45 : rs_fd 10 45 = some (3, 1, 0) := by decide +kernel
theorem rs_d_10_8 : decode (rs_cd 10) 8 = .ok (.iaload, 1) := by decide +kernel
theorem rs_d_10_9 : decode (rs_cd 10) 9 = .ok (.iconst 1, 1) := by decide +kernel
theorem rs_d_10_10 : decode (rs_cd 10) 10 = .ok (.if_icmp .lt 17, 3) := by decide +kernel
theorem rs_d_10_13 : decode (rs_cd 10) 13 = .ok (.aload_n 0, 1) := by decide +kernel
theorem rs_d_10_14 : decode (rs_cd 10) 14 = .ok (.getfield 48, 3) := by decide +kernel
theorem rs_f_10_48 : rs_fd 10 48 = some (3, 2, 0) := by decide +kernel
theorem rs_d_10_17 : decode (rs_cd 10) 17 = .ok (.aload_n 0, 1) := by decide +kernel
theorem rs_d_10_18 : decode (rs_cd 10) 18 = .ok (.getfield 51, 3) := by decide +kernel
theorem rs_f_10_51 : rs_fd 10 51 = some (3, 3, 0) := by decide +kernel
theorem rs_d_10_21 : decode (rs_cd 10) 21 = .ok (.iconst 0, 1) := by decide +kernel
theorem rs_d_10_22 : decode (rs_cd 10) 22 = .ok (.aload_n 1, 1) := by decide +kernel
theorem rs_d_10_23 : decode (rs_cd 10) 23 = .ok (.invokestatic 108, 3) := by decide +kernel
theorem rs_t_10_108 : rs_tg 10 108 = some 9 := by decide +kernel
theorem rs_d_10_26 : decode (rs_cd 10) 26 = .ok (.return_, 1) := by decide +kernel
theorem rs_d_10_27 : decode (rs_cd 10) 27 = .ok (.aload_n 1, 1) := by decide +kernel
theorem rs_d_10_28 : decode (rs_cd 10) 28 = .ok (.getfield 141, 3) := by decide +kernel
theorem rs_f_10_141 : rs_fd 10 141 = some (2, 1, 2) := by decide +kernel
theorem rs_d_10_31 : decode (rs_cd 10) 31 = .ok (.aload_n 0, 1) := by decide +kernel
theorem rs_d_10_32 : decode (rs_cd 10) 32 = .ok (.getfield 45, 3) := by decide +kernel
theorem rs_d_10_35 : decode (rs_cd 10) 35 = .ok (.iaload, 1) := by decide +kernel
theorem rs_d_10_36 : decode (rs_cd 10) 36 = .ok (.istore_n 2, 1) := by decide +kernel
theorem rs_d_10_37 : decode (rs_cd 10) 37 = .ok (.aload_n 0, 1) := by decide +kernel
theorem rs_d_10_38 : decode (rs_cd 10) 38 = .ok (.getfield 48, 3) := by decide +kernel
theorem rs_d_10_41 : decode (rs_cd 10) 41 = .ok (.aload_n 0, 1) := by decide +kernel
theorem rs_d_10_42 : decode (rs_cd 10) 42 = .ok (.getfield 51, 3) := by decide +kernel
theorem rs_d_10_45 : decode (rs_cd 10) 45 = .ok (.if_icmp .eq 50, 3) := by decide +kernel
theorem rs_d_10_48 : decode (rs_cd 10) 48 = .ok (.aload_n 0, 1) := by decide +kernel
theorem rs_d_10_49 : decode (rs_cd 10) 49 = .ok (.getfield 45, 3) := by decide +kernel
theorem rs_d_10_52 : decode (rs_cd 10) 52 = .ok (.aload_n 0, 1) := by decide +kernel
theorem rs_d_10_53 : decode (rs_cd 10) 53 = .ok (.getfield 48, 3) := by decide +kernel
theorem rs_d_10_56 : decode (rs_cd 10) 56 = .ok (.if_icmp .ne 16, 3) := by decide +kernel
theorem rs_d_10_59 : decode (rs_cd 10) 59 = .ok (.aload_n 1, 1) := by decide +kernel
theorem rs_d_10_60 : decode (rs_cd 10) 60 = .ok (.getfield 141, 3) := by decide +kernel
theorem rs_d_10_63 : decode (rs_cd 10) 63 = .ok (.aload_n 0, 1) := by decide +kernel
theorem rs_d_10_64 : decode (rs_cd 10) 64 = .ok (.getfield 51, 3) := by decide +kernel
theorem rs_d_10_67 : decode (rs_cd 10) 67 = .ok (.iaload, 1) := by decide +kernel
theorem rs_d_10_68 : decode (rs_cd 10) 68 = .ok (.istore_n 2, 1) := by decide +kernel
theorem rs_d_10_69 : decode (rs_cd 10) 69 = .ok (.goto 26, 3) := by decide +kernel
theorem rs_d_10_72 : decode (rs_cd 10) 72 = .ok (.aload_n 1, 1) := by decide +kernel
theorem rs_d_10_73 : decode (rs_cd 10) 73 = .ok (.getfield 138, 3) := by decide +kernel
theorem rs_d_10_76 : decode (rs_cd 10) 76 = .ok (.aload_n 0, 1) := by decide +kernel
theorem rs_d_10_77 : decode (rs_cd 10) 77 = .ok (.getfield 48, 3) := by decide +kernel
theorem rs_d_10_80 : decode (rs_cd 10) 80 = .ok (.iaload, 1) := by decide +kernel
theorem rs_d_10_81 : decode (rs_cd 10) 81 = .ok (.aload_n 1, 1) := by decide +kernel
theorem rs_d_10_82 : decode (rs_cd 10) 82 = .ok (.getfield 141, 3) := by decide +kernel
theorem rs_d_10_85 : decode (rs_cd 10) 85 = .ok (.aload_n 0, 1) := by decide +kernel
theorem rs_d_10_86 : decode (rs_cd 10) 86 = .ok (.getfield 51, 3) := by decide +kernel
theorem rs_d_10_89 : decode (rs_cd 10) 89 = .ok (.iaload, 1) := by decide +kernel
theorem rs_d_10_90 : decode (rs_cd 10) 90 = .ok (.if_icmp .le 5, 3) := by decide +kernel
theorem rs_d_10_93 : decode (rs_cd 10) 93 = .ok (.iconst 0, 1) := by decide +kernel
theorem rs_d_10_94 : decode (rs_cd 10) 94 = .ok (.istore_n 2, 1) := by decide +kernel
theorem rs_d_10_95 : decode (rs_cd 10) 95 = .ok (.aload_n 1, 1) := by decide +kernel
theorem rs_d_10_96 : decode (rs_cd 10) 96 = .ok (.aload_n 0, 1) := by decide +kernel
theorem rs_d_10_97 : decode (rs_cd 10) 97 = .ok (.getfield 45, 3) := by decide +kernel
theorem rs_d_10_100 : decode (rs_cd 10) 100 = .ok (.iload_n 2, 1) := by decide +kernel
theorem rs_d_10_101 : decode (rs_cd 10) 101 = .ok (.iconst 0, 1) := by decide +kernel
theorem rs_d_10_102 : decode (rs_cd 10) 102 = .ok (.invokestatic 63, 3) := by decide +kernel
theorem rs_t_10_63 : rs_tg 10 63 = none := by decide +kernel
theorem rs_s_10_63 : rs_sp 10 63 = some 0 := by decide +kernel
theorem rs_d_10_105 : decode (rs_cd 10) 105 = .ok (.invokevirtual 159, 3) := by decide +kernel
theorem rs_t_10_159 : rs_tg 10 159 = some 25 := by decide +kernel
theorem rs_d_10_108 : decode (rs_cd 10) 108 = .ok (.return_, 1) := by decide +kernel
theorem rs_d_11_0 : decode (rs_cd 11) 0 = .ok (.aload_n 0, 1) := by decide +kernel
theorem rs_d_11_1 : decode (rs_cd 11) 1 = .ok (.getfield 26, 3) := by decide +kernel
theorem rs_f_11_26 : rs_fd 11 26 = some (1, 3, 2) := by decide +kernel
theorem rs_d_11_4 : decode (rs_cd 11) 4 = .ok (.invokevirtual 166, 3) := by decide +kernel
theorem rs_t_11_166 : rs_tg 11 166 = some 31 := by decide +kernel
theorem rs_d_11_7 : decode (rs_cd 11) 7 = .ok (.aload_n 0, 1) := by decide +kernel
theorem rs_d_11_8 : decode (rs_cd 11) 8 = .ok (.getfield 30, 3) := by decide +kernel
theorem rs_f_11_30 : rs_fd 11 30 = some (1, 4, 2) := by decide +kernel
theorem rs_d_11_11 : decode (rs_cd 11) 11 = .ok (.invokevirtual 166, 3) := by decide +kernel
theorem rs_d_11_14 : decode (rs_cd 11) 14 = .ok (.iconst 0, 1) := by decide +kernel
theorem rs_d_11_15 : decode (rs_cd 11) 15 = .ok (.istore 4, 2) := by decide +kernel
theorem rs_d_11_17 : decode (rs_cd 11) 17 = .ok (.iload 4, 2) := by decide +kernel
theorem rs_d_11_19 : decode (rs_cd 11) 19 = .ok (.aload_n 2, 1) := by decide +kernel
theorem rs_d_11_20 : decode (rs_cd 11) 20 = .ok (.getfield 77, 3) := by decide +kernel
theorem rs_f_11_77 : rs_fd 11 77 = some (6, 2, 0) := by decide +kernel
theorem rs_d_11_23 : decode (rs_cd 11) 23 = .ok (.if_icmp .ge 131, 3) := by decide +kernel
theorem rs_d_11_26 : decode (rs_cd 11) 26 = .ok (.aload_n 2, 1) := by decide +kernel
theorem rs_d_11_27 : decode (rs_cd 11) 27 = .ok (.getfield 80, 3) := by decide +kernel
theorem rs_f_11_80 : rs_fd 11 80 = some (6, 0, 2) := by decide +kernel
theorem rs_d_11_30 : decode (rs_cd 11) 30 = .ok (.iload 4, 2) := by decide +kernel
theorem rs_d_11_32 : decode (rs_cd 11) 32 = .ok (.iaload, 1) := by decide +kernel
theorem rs_d_11_33 : decode (rs_cd 11) 33 = .ok (.istore 5, 2) := by decide +kernel
theorem rs_d_11_35 : decode (rs_cd 11) 35 = .ok (.aload_n 2, 1) := by decide +kernel
theorem rs_d_11_36 : decode (rs_cd 11) 36 = .ok (.getfield 84, 3) := by decide +kernel
theorem rs_f_11_84 : rs_fd 11 84 = some (6, 1, 2) := by decide +kernel
theorem rs_d_11_39 : decode (rs_cd 11) 39 = .ok (.iload 4, 2) := by decide +kernel
theorem rs_d_11_41 : decode (rs_cd 11) 41 = .ok (.iaload, 1) := by decide +kernel
theorem rs_d_11_42 : decode (rs_cd 11) 42 = .ok (.istore 6, 2) := by decide +kernel
theorem rs_d_11_44 : decode (rs_cd 11) 44 = .ok (.aload_n 3, 1) := by decide +kernel
theorem rs_d_11_45 : decode (rs_cd 11) 45 = .ok (.getfield 138, 3) := by decide +kernel
theorem rs_f_11_138 : rs_fd 11 138 = some (2, 0, 2) := by decide +kernel
theorem rs_d_11_48 : decode (rs_cd 11) 48 = .ok (.aload_n 1, 1) := by decide +kernel
theorem rs_d_11_49 : decode (rs_cd 11) 49 = .ok (.getfield 45, 3) := by decide +kernel
theorem rs_f_11_45 : rs_fd 11 45 = some (3, 1, 0) := by decide +kernel
theorem rs_d_11_52 : decode (rs_cd 11) 52 = .ok (.iaload, 1) := by decide +kernel
theorem rs_d_11_53 : decode (rs_cd 11) 53 = .ok (.iload 5, 2) := by decide +kernel
theorem rs_d_11_55 : decode (rs_cd 11) 55 = .ok (.if_icmp .gt 49, 3) := by decide +kernel
theorem rs_d_11_58 : decode (rs_cd 11) 58 = .ok (.iload 5, 2) := by decide +kernel
theorem rs_d_11_60 : decode (rs_cd 11) 60 = .ok (.aload_n 3, 1) := by decide +kernel
theorem rs_d_11_61 : decode (rs_cd 11) 61 = .ok (.getfield 141, 3) := by decide +kernel
theorem rs_f_11_141 : rs_fd 11 141 = some (2, 1, 2) := by decide +kernel
theorem rs_d_11_64 : decode (rs_cd 11) 64 = .ok (.aload_n 1, 1) := by decide +kernel
theorem rs_d_11_65 : decode (rs_cd 11) 65 = .ok (.getfield 45, 3) := by decide +kernel
theorem rs_d_11_68 : decode (rs_cd 11) 68 = .ok (.iaload, 1) := by decide +kernel
theorem rs_d_11_69 : decode (rs_cd 11) 69 = .ok (.if_icmp .gt 35, 3) := by decide +kernel
theorem rs_d_11_72 : decode (rs_cd 11) 72 = .ok (.aload_n 3, 1) := by decide +kernel
theorem rs_d_11_73 : decode (rs_cd 11) 73 = .ok (.getfield 138, 3) := by decide +kernel
theorem rs_d_11_76 : decode (rs_cd 11) 76 = .ok (.aload_n 1, 1) := by decide +kernel
theorem rs_d_11_77 : decode (rs_cd 11) 77 = .ok (.getfield 48, 3) := by decide +kernel
theorem rs_f_11_48 : rs_fd 11 48 = some (3, 2, 0) := by decide +kernel
theorem rs_d_11_80 : decode (rs_cd 11) 80 = .ok (.iaload, 1) := by decide +kernel
theorem rs_d_11_81 : decode (rs_cd 11) 81 = .ok (.iload 6, 2) := by decide +kernel
theorem rs_d_11_83 : decode (rs_cd 11) 83 = .ok (.if_icmp .gt 21, 3) := by decide +kernel
theorem rs_d_11_86 : decode (rs_cd 11) 86 = .ok (.iload 6, 2) := by decide +kernel
theorem rs_d_11_88 : decode (rs_cd 11) 88 = .ok (.aload_n 3, 1) := by decide +kernel
theorem rs_d_11_89 : decode (rs_cd 11) 89 = .ok (.getfield 141, 3) := by decide +kernel
theorem rs_d_11_92 : decode (rs_cd 11) 92 = .ok (.aload_n 1, 1) := by decide +kernel
theorem rs_d_11_93 : decode (rs_cd 11) 93 = .ok (.getfield 48, 3) := by decide +kernel
theorem rs_d_11_96 : decode (rs_cd 11) 96 = .ok (.iaload, 1) := by decide +kernel
theorem rs_d_11_97 : decode (rs_cd 11) 97 = .ok (.if_icmp .gt 7, 3) := by decide +kernel
theorem rs_d_11_100 : decode (rs_cd 11) 100 = .ok (.iconst 1, 1) := by decide +kernel
theorem rs_d_11_101 : decode (rs_cd 11) 101 = .ok (.goto 4, 3) := by decide +kernel
theorem rs_d_11_104 : decode (rs_cd 11) 104 = .ok (.iconst 0, 1) := by decide +kernel
theorem rs_d_11_105 : decode (rs_cd 11) 105 = .ok (.istore 7, 2) := by decide +kernel
theorem rs_d_11_107 : decode (rs_cd 11) 107 = .ok (.iload 7, 2) := by decide +kernel
theorem rs_d_11_109 : decode (rs_cd 11) 109 = .ok (.ifCond .eq 39, 3) := by decide +kernel
theorem rs_d_11_112 : decode (rs_cd 11) 112 = .ok (.aload_n 1, 1) := by decide +kernel
theorem rs_d_11_113 : decode (rs_cd 11) 113 = .ok (.getfield 45, 3) := by decide +kernel
theorem rs_d_11_116 : decode (rs_cd 11) 116 = .ok (.aload_n 1, 1) := by decide +kernel
theorem rs_d_11_117 : decode (rs_cd 11) 117 = .ok (.getfield 48, 3) := by decide +kernel
theorem rs_d_11_120 : decode (rs_cd 11) 120 = .ok (.if_icmp .ne 10, 3) := by decide +kernel
theorem rs_d_11_123 : decode (rs_cd 11) 123 = .ok (.iload 5, 2) := by decide +kernel
theorem rs_d_11_125 : decode (rs_cd 11) 125 = .ok (.iload 6, 2) := by decide +kernel
theorem rs_d_11_127 : decode (rs_cd 11) 127 = .ok (.if_icmp .ne 21, 3) := by decide +kernel
theorem rs_d_11_130 : decode (rs_cd 11) 130 = .ok (.aload_n 0, 1) := by decide +kernel
theorem rs_d_11_131 : decode (rs_cd 11) 131 = .ok (.getfield 26, 3) := by decide +kernel
theorem rs_d_11_134 : decode (rs_cd 11) 134 = .ok (.iload 5, 2) := by decide +kernel
theorem rs_d_11_136 : decode (rs_cd 11) 136 = .ok (.invokevirtual 169, 3) := by decide +kernel
theorem rs_t_11_169 : rs_tg 11 169 = some 32 := by decide +kernel
theorem rs_d_11_139 : decode (rs_cd 11) 139 = .ok (.aload_n 0, 1) := by decide +kernel
theorem rs_d_11_140 : decode (rs_cd 11) 140 = .ok (.getfield 30, 3) := by decide +kernel
theorem rs_d_11_143 : decode (rs_cd 11) 143 = .ok (.iload 6, 2) := by decide +kernel
theorem rs_d_11_145 : decode (rs_cd 11) 145 = .ok (.invokevirtual 169, 3) := by decide +kernel
theorem rs_d_11_148 : decode (rs_cd 11) 148 = .ok (.iinc 4 1, 3) := by decide +kernel
theorem rs_d_11_151 : decode (rs_cd 11) 151 = .ok (.goto (-134), 3) := by decide +kernel
theorem rs_d_11_154 : decode (rs_cd 11) 154 = .ok (.aload_n 0, 1) := by decide +kernel
theorem rs_d_11_155 : decode (rs_cd 11) 155 = .ok (.getfield 26, 3) := by decide +kernel
theorem rs_d_11_158 : decode (rs_cd 11) 158 = .ok (.invokevirtual 173, 3) := by decide +kernel
theorem rs_t_11_173 : rs_tg 11 173 = some 33 := by decide +kernel
theorem rs_d_11_161 : decode (rs_cd 11) 161 = .ok (.ifCond .eq 11, 3) := by decide +kernel
theorem rs_d_11_164 : decode (rs_cd 11) 164 = .ok (.aload_n 3, 1) := by decide +kernel
theorem rs_d_11_165 : decode (rs_cd 11) 165 = .ok (.iconst 1, 1) := by decide +kernel
theorem rs_d_11_166 : decode (rs_cd 11) 166 = .ok (.putfield 101, 3) := by decide +kernel
theorem rs_f_11_101 : rs_fd 11 101 = some (2, 3, 1) := by decide +kernel
theorem rs_d_11_169 : decode (rs_cd 11) 169 = .ok (.goto 47, 3) := by decide +kernel
theorem rs_d_11_172 : decode (rs_cd 11) 172 = .ok (.aload_n 3, 1) := by decide +kernel
theorem rs_d_11_173 : decode (rs_cd 11) 173 = .ok (.aload_n 1, 1) := by decide +kernel
theorem rs_d_11_174 : decode (rs_cd 11) 174 = .ok (.getfield 45, 3) := by decide +kernel
theorem rs_d_11_177 : decode (rs_cd 11) 177 = .ok (.aload_n 0, 1) := by decide +kernel
theorem rs_d_11_178 : decode (rs_cd 11) 178 = .ok (.getfield 26, 3) := by decide +kernel
theorem rs_d_11_181 : decode (rs_cd 11) 181 = .ok (.getfield 177, 3) := by decide +kernel
theorem rs_f_11_177 : rs_fd 11 177 = some (5, 0, 0) := by decide +kernel
theorem rs_d_11_184 : decode (rs_cd 11) 184 = .ok (.aload_n 0, 1) := by decide +kernel
theorem rs_d_11_185 : decode (rs_cd 11) 185 = .ok (.getfield 26, 3) := by decide +kernel
theorem rs_d_11_188 : decode (rs_cd 11) 188 = .ok (.getfield 180, 3) := by decide +kernel
theorem rs_f_11_180 : rs_fd 11 180 = some (5, 1, 0) := by decide +kernel
theorem rs_d_11_191 : decode (rs_cd 11) 191 = .ok (.invokevirtual 151, 3) := by decide +kernel
theorem rs_t_11_151 : rs_tg 11 151 = some 26 := by decide +kernel
theorem rs_d_11_194 : decode (rs_cd 11) 194 = .ok (.aload_n 3, 1) := by decide +kernel
theorem rs_d_11_195 : decode (rs_cd 11) 195 = .ok (.aload_n 1, 1) := by decide +kernel
theorem rs_d_11_196 : decode (rs_cd 11) 196 = .ok (.getfield 48, 3) := by decide +kernel
theorem rs_d_11_199 : decode (rs_cd 11) 199 = .ok (.aload_n 0, 1) := by decide +kernel
theorem rs_d_11_200 : decode (rs_cd 11) 200 = .ok (.getfield 30, 3) := by decide +kernel
theorem rs_d_11_203 : decode (rs_cd 11) 203 = .ok (.getfield 177, 3) := by decide +kernel
theorem rs_d_11_206 : decode (rs_cd 11) 206 = .ok (.aload_n 0, 1) := by decide +kernel
theorem rs_d_11_207 : decode (rs_cd 11) 207 = .ok (.getfield 30, 3) := by decide +kernel
theorem rs_d_11_210 : decode (rs_cd 11) 210 = .ok (.getfield 180, 3) := by decide +kernel
theorem rs_d_11_213 : decode (rs_cd 11) 213 = .ok (.invokevirtual 151, 3) := by decide +kernel
theorem rs_d_11_216 : decode (rs_cd 11) 216 = .ok (.return_, 1) := by decide +kernel
theorem rs_d_12_0 : decode (rs_cd 12) 0 = .ok (.iconst 1, 1) := by decide +kernel
theorem rs_d_12_1 : decode (rs_cd 12) 1 = .ok (.istore_n 2, 1) := by decide +kernel
theorem rs_d_12_2 : decode (rs_cd 12) 2 = .ok (.iconst 0, 1) := by decide +kernel
theorem rs_d_12_3 : decode (rs_cd 12) 3 = .ok (.istore_n 3, 1) := by decide +kernel
theorem rs_d_12_4 : decode (rs_cd 12) 4 = .ok (.iload_n 3, 1) := by decide +kernel
theorem rs_d_12_5 : decode (rs_cd 12) 5 = .ok (.ldc 100, 2) := by decide +kernel
theorem rs_c_12_100 : rs_cst 12 100 = some 1000000 := by decide +kernel
theorem rs_d_12_7 : decode (rs_cd 12) 7 = .ok (.if_icmp .ge 91, 3) := by decide +kernel
theorem rs_d_12_10 : decode (rs_cd 12) 10 = .ok (.iload_n 2, 1) := by decide +kernel
theorem rs_d_12_11 : decode (rs_cd 12) 11 = .ok (.ifCond .eq 87, 3) := by decide +kernel
theorem rs_d_12_14 : decode (rs_cd 12) 14 = .ok (.aload_n 1, 1) := by decide +kernel
theorem rs_d_12_15 : decode (rs_cd 12) 15 = .ok (.getfield 101, 3) := by decide +kernel
theorem rs_f_12_101 : rs_fd 12 101 = some (2, 3, 1) := by decide +kernel
theorem rs_d_12_18 : decode (rs_cd 12) 18 = .ok (.ifCond .ne 80, 3) := by decide +kernel
theorem rs_d_12_21 : decode (rs_cd 12) 21 = .ok (.iconst 0, 1) := by decide +kernel
theorem rs_d_12_22 : decode (rs_cd 12) 22 = .ok (.istore_n 2, 1) := by decide +kernel
theorem rs_d_12_23 : decode (rs_cd 12) 23 = .ok (.iconst 0, 1) := by decide +kernel
theorem rs_d_12_24 : decode (rs_cd 12) 24 = .ok (.istore 4, 2) := by decide +kernel
theorem rs_d_12_26 : decode (rs_cd 12) 26 = .ok (.iload 4, 2) := by decide +kernel
theorem rs_d_12_28 : decode (rs_cd 12) 28 = .ok (.bipush 10, 2) := by decide +kernel
theorem rs_d_12_30 : decode (rs_cd 12) 30 = .ok (.if_icmp .ge 62, 3) := by decide +kernel
theorem rs_d_12_33 : decode (rs_cd 12) 33 = .ok (.iconst 0, 1) := by decide +kernel
theorem rs_d_12_34 : decode (rs_cd 12) 34 = .ok (.istore 5, 2) := by decide +kernel
theorem rs_d_12_36 : decode (rs_cd 12) 36 = .ok (.iload 5, 2) := by decide +kernel
theorem rs_d_12_38 : decode (rs_cd 12) 38 = .ok (.bipush 10, 2) := by decide +kernel
theorem rs_d_12_40 : decode (rs_cd 12) 40 = .ok (.if_icmp .ge 46, 3) := by decide +kernel
theorem rs_d_12_43 : decode (rs_cd 12) 43 = .ok (.iload_n 0, 1) := by decide +kernel
theorem rs_d_12_44 : decode (rs_cd 12) 44 = .ok (.iload 4, 2) := by decide +kernel
theorem rs_d_12_46 : decode (rs_cd 12) 46 = .ok (.ishr, 1) := by decide +kernel
theorem rs_d_12_47 : decode (rs_cd 12) 47 = .ok (.iload_n 0, 1) := by decide +kernel
theorem rs_d_12_48 : decode (rs_cd 12) 48 = .ok (.iload 5, 2) := by decide +kernel
theorem rs_d_12_50 : decode (rs_cd 12) 50 = .ok (.ishr, 1) := by decide +kernel
theorem rs_d_12_51 : decode (rs_cd 12) 51 = .ok (.iand, 1) := by decide +kernel
theorem rs_d_12_52 : decode (rs_cd 12) 52 = .ok (.iconst 1, 1) := by decide +kernel
theorem rs_d_12_53 : decode (rs_cd 12) 53 = .ok (.iand, 1) := by decide +kernel
theorem rs_d_12_54 : decode (rs_cd 12) 54 = .ok (.iconst 1, 1) := by decide +kernel
theorem rs_d_12_55 : decode (rs_cd 12) 55 = .ok (.if_icmp .ne 25, 3) := by decide +kernel
theorem rs_d_12_58 : decode (rs_cd 12) 58 = .ok (.iload_n 2, 1) := by decide +kernel
theorem rs_d_12_59 : decode (rs_cd 12) 59 = .ok (.iload_n 0, 1) := by decide +kernel
theorem rs_d_12_60 : decode (rs_cd 12) 60 = .ok (.aload_n 1, 1) := by decide +kernel
theorem rs_d_12_61 : decode (rs_cd 12) 61 = .ok (.getfield 138, 3) := by decide +kernel
theorem rs_f_12_138 : rs_fd 12 138 = some (2, 0, 2) := by decide +kernel
theorem rs_d_12_64 : decode (rs_cd 12) 64 = .ok (.iload 4, 2) := by decide +kernel
theorem rs_d_12_66 : decode (rs_cd 12) 66 = .ok (.iaload, 1) := by decide +kernel
theorem rs_d_12_67 : decode (rs_cd 12) 67 = .ok (.aload_n 1, 1) := by decide +kernel
theorem rs_d_12_68 : decode (rs_cd 12) 68 = .ok (.getfield 141, 3) := by decide +kernel
theorem rs_f_12_141 : rs_fd 12 141 = some (2, 1, 2) := by decide +kernel
theorem rs_d_12_71 : decode (rs_cd 12) 71 = .ok (.iload 5, 2) := by decide +kernel
theorem rs_d_12_73 : decode (rs_cd 12) 73 = .ok (.iaload, 1) := by decide +kernel
theorem rs_d_12_74 : decode (rs_cd 12) 74 = .ok (.aload_n 1, 1) := by decide +kernel
theorem rs_d_12_75 : decode (rs_cd 12) 75 = .ok (.invokestatic 183, 3) := by decide +kernel
theorem rs_t_12_183 : rs_tg 12 183 = some 13 := by decide +kernel
theorem rs_d_12_78 : decode (rs_cd 12) 78 = .ok (.ior, 1) := by decide +kernel
theorem rs_d_12_79 : decode (rs_cd 12) 79 = .ok (.istore_n 2, 1) := by decide +kernel
theorem rs_d_12_80 : decode (rs_cd 12) 80 = .ok (.iinc 5 1, 3) := by decide +kernel
theorem rs_d_12_83 : decode (rs_cd 12) 83 = .ok (.goto (-47), 3) := by decide +kernel
theorem rs_d_12_86 : decode (rs_cd 12) 86 = .ok (.iinc 4 1, 3) := by decide +kernel
theorem rs_d_12_89 : decode (rs_cd 12) 89 = .ok (.goto (-63), 3) := by decide +kernel
theorem rs_d_12_92 : decode (rs_cd 12) 92 = .ok (.iinc 3 1, 3) := by decide +kernel
theorem rs_d_12_95 : decode (rs_cd 12) 95 = .ok (.goto (-91), 3) := by decide +kernel
theorem rs_d_12_98 : decode (rs_cd 12) 98 = .ok (.return_, 1) := by decide +kernel
theorem rs_d_13_0 : decode (rs_cd 13) 0 = .ok (.iload_n 2, 1) := by decide +kernel
theorem rs_d_13_1 : decode (rs_cd 13) 1 = .ok (.iload_n 1, 1) := by decide +kernel
theorem rs_d_13_2 : decode (rs_cd 13) 2 = .ok (.isub, 1) := by decide +kernel
theorem rs_d_13_3 : decode (rs_cd 13) 3 = .ok (.iconst 1, 1) := by decide +kernel
theorem rs_d_13_4 : decode (rs_cd 13) 4 = .ok (.iadd, 1) := by decide +kernel
theorem rs_d_13_5 : decode (rs_cd 13) 5 = .ok (.istore 4, 2) := by decide +kernel
theorem rs_d_13_7 : decode (rs_cd 13) 7 = .ok (.iload 4, 2) := by decide +kernel
theorem rs_d_13_9 : decode (rs_cd 13) 9 = .ok (.iconst 1, 1) := by decide +kernel
theorem rs_d_13_10 : decode (rs_cd 13) 10 = .ok (.if_icmp .lt 12, 3) := by decide +kernel
theorem rs_d_13_13 : decode (rs_cd 13) 13 = .ok (.iload 4, 2) := by decide +kernel
theorem rs_d_13_15 : decode (rs_cd 13) 15 = .ok (.iload_n 0, 1) := by decide +kernel
theorem rs_d_13_16 : decode (rs_cd 13) 16 = .ok (.invokestatic 127, 3) := by decide +kernel
theorem rs_t_13_127 : rs_tg 13 127 = some 114 := by decide +kernel
theorem rs_d_13_19 : decode (rs_cd 13) 19 = .ok (.if_icmp .le 5, 3) := by decide +kernel
theorem rs_d_13_22 : decode (rs_cd 13) 22 = .ok (.iconst 0, 1) := by decide +kernel
theorem rs_d_13_23 : decode (rs_cd 13) 23 = .ok (.ireturn, 1) := by decide +kernel
theorem rs_d_13_24 : decode (rs_cd 13) 24 = .ok (.iload_n 0, 1) := by decide +kernel
theorem rs_d_13_25 : decode (rs_cd 13) 25 = .ok (.iload_n 1, 1) := by decide +kernel
theorem rs_d_13_26 : decode (rs_cd 13) 26 = .ok (.iload_n 2, 1) := by decide +kernel
theorem rs_d_13_27 : decode (rs_cd 13) 27 = .ok (.aload_n 3, 1) := by decide +kernel
theorem rs_d_13_28 : decode (rs_cd 13) 28 = .ok (.invokestatic 187, 3) := by decide +kernel
theorem rs_t_13_187 : rs_tg 13 187 = some 14 := by decide +kernel
theorem rs_d_13_31 : decode (rs_cd 13) 31 = .ok (.istore 5, 2) := by decide +kernel
theorem rs_d_13_33 : decode (rs_cd 13) 33 = .ok (.iload 5, 2) := by decide +kernel
theorem rs_d_13_35 : decode (rs_cd 13) 35 = .ok (.invokestatic 127, 3) := by decide +kernel
theorem rs_d_13_38 : decode (rs_cd 13) 38 = .ok (.istore 6, 2) := by decide +kernel
theorem rs_d_13_40 : decode (rs_cd 13) 40 = .ok (.aload_n 3, 1) := by decide +kernel
theorem rs_d_13_41 : decode (rs_cd 13) 41 = .ok (.aload_n 3, 1) := by decide +kernel
theorem rs_d_13_42 : decode (rs_cd 13) 42 = .ok (.getfield 101, 3) := by decide +kernel
theorem rs_f_13_101 : rs_fd 13 101 = some (2, 3, 1) := by decide +kernel
theorem rs_d_13_45 : decode (rs_cd 13) 45 = .ok (.ifCond .ne 10, 3) := by decide +kernel
theorem rs_d_13_48 : decode (rs_cd 13) 48 = .ok (.iload 6, 2) := by decide +kernel
theorem rs_d_13_50 : decode (rs_cd 13) 50 = .ok (.iload 4, 2) := by decide +kernel
theorem rs_d_13_52 : decode (rs_cd 13) 52 = .ok (.if_icmp .le 7, 3) := by decide +kernel
theorem rs_d_13_55 : decode (rs_cd 13) 55 = .ok (.iconst 1, 1) := by decide +kernel
theorem rs_d_13_56 : decode (rs_cd 13) 56 = .ok (.goto 4, 3) := by decide +kernel
theorem rs_d_13_59 : decode (rs_cd 13) 59 = .ok (.iconst 0, 1) := by decide +kernel
theorem rs_d_13_60 : decode (rs_cd 13) 60 = .ok (.putfield 101, 3) := by decide +kernel
theorem rs_d_13_63 : decode (rs_cd 13) 63 = .ok (.iload 6, 2) := by decide +kernel
theorem rs_d_13_65 : decode (rs_cd 13) 65 = .ok (.iload 4, 2) := by decide +kernel
theorem rs_d_13_67 : decode (rs_cd 13) 67 = .ok (.if_icmp .eq 5, 3) := by decide +kernel
theorem rs_d_13_70 : decode (rs_cd 13) 70 = .ok (.iconst 0, 1) := by decide +kernel
theorem rs_d_13_71 : decode (rs_cd 13) 71 = .ok (.ireturn, 1) := by decide +kernel
theorem rs_d_13_72 : decode (rs_cd 13) 72 = .ok (.iconst 0, 1) := by decide +kernel
theorem rs_d_13_73 : decode (rs_cd 13) 73 = .ok (.istore 7, 2) := by decide +kernel
theorem rs_d_13_75 : decode (rs_cd 13) 75 = .ok (.iconst 0, 1) := by decide +kernel
theorem rs_d_13_76 : decode (rs_cd 13) 76 = .ok (.istore 8, 2) := by decide +kernel
theorem rs_d_13_78 : decode (rs_cd 13) 78 = .ok (.iload 8, 2) := by decide +kernel
theorem rs_d_13_80 : decode (rs_cd 13) 80 = .ok (.bipush 10, 2) := by decide +kernel
theorem rs_d_13_82 : decode (rs_cd 13) 82 = .ok (.if_icmp .ge 114, 3) := by decide +kernel
theorem rs_d_13_85 : decode (rs_cd 13) 85 = .ok (.iload_n 0, 1) := by decide +kernel
theorem rs_d_13_86 : decode (rs_cd 13) 86 = .ok (.iload 8, 2) := by decide +kernel
theorem rs_d_13_88 : decode (rs_cd 13) 88 = .ok (.ishr, 1) := by decide +kernel
theorem rs_d_13_89 : decode (rs_cd 13) 89 = .ok (.iconst 1, 1) := by decide +kernel
theorem rs_d_13_90 : decode (rs_cd 13) 90 = .ok (.iand, 1) := by decide +kernel
theorem rs_d_13_91 : decode (rs_cd 13) 91 = .ok (.iconst 1, 1) := by decide +kernel
theorem rs_d_13_92 : decode (rs_cd 13) 92 = .ok (.if_icmp .ne 17, 3) := by decide +kernel
theorem rs_d_13_95 : decode (rs_cd 13) 95 = .ok (.iload 5, 2) := by decide +kernel
theorem rs_d_13_97 : decode (rs_cd 13) 97 = .ok (.iload 8, 2) := by decide +kernel
theorem rs_d_13_99 : decode (rs_cd 13) 99 = .ok (.ishr, 1) := by decide +kernel
theorem rs_d_13_100 : decode (rs_cd 13) 100 = .ok (.iconst 1, 1) := by decide +kernel
theorem rs_d_13_101 : decode (rs_cd 13) 101 = .ok (.iand, 1) := by decide +kernel
theorem rs_d_13_102 : decode (rs_cd 13) 102 = .ok (.ifCond .ne 7, 3) := by decide +kernel
theorem rs_d_13_105 : decode (rs_cd 13) 105 = .ok (.iconst 1, 1) := by decide +kernel
theorem rs_d_13_106 : decode (rs_cd 13) 106 = .ok (.goto 4, 3) := by decide +kernel
theorem rs_d_13_109 : decode (rs_cd 13) 109 = .ok (.iconst 0, 1) := by decide +kernel
theorem rs_d_13_110 : decode (rs_cd 13) 110 = .ok (.istore 9, 2) := by decide +kernel
theorem rs_d_13_112 : decode (rs_cd 13) 112 = .ok (.iload 9, 2) := by decide +kernel
theorem rs_d_13_114 : decode (rs_cd 13) 114 = .ok (.ifCond .eq 37, 3) := by decide +kernel
theorem rs_d_13_117 : decode (rs_cd 13) 117 = .ok (.iload_n 1, 1) := by decide +kernel
theorem rs_d_13_118 : decode (rs_cd 13) 118 = .ok (.aload_n 3, 1) := by decide +kernel
theorem rs_d_13_119 : decode (rs_cd 13) 119 = .ok (.getfield 138, 3) := by decide +kernel
theorem rs_f_13_138 : rs_fd 13 138 = some (2, 0, 2) := by decide +kernel
theorem rs_d_13_122 : decode (rs_cd 13) 122 = .ok (.iload 8, 2) := by decide +kernel
theorem rs_d_13_124 : decode (rs_cd 13) 124 = .ok (.iaload, 1) := by decide +kernel
theorem rs_d_13_125 : decode (rs_cd 13) 125 = .ok (.if_icmp .gt 26, 3) := by decide +kernel
theorem rs_d_13_128 : decode (rs_cd 13) 128 = .ok (.aload_n 3, 1) := by decide +kernel
theorem rs_d_13_129 : decode (rs_cd 13) 129 = .ok (.getfield 138, 3) := by decide +kernel
theorem rs_d_13_132 : decode (rs_cd 13) 132 = .ok (.iload 8, 2) := by decide +kernel
theorem rs_d_13_134 : decode (rs_cd 13) 134 = .ok (.iaload, 1) := by decide +kernel
theorem rs_d_13_135 : decode (rs_cd 13) 135 = .ok (.iload_n 2, 1) := by decide +kernel
theorem rs_d_13_136 : decode (rs_cd 13) 136 = .ok (.if_icmp .gt 15, 3) := by decide +kernel
theorem rs_d_13_139 : decode (rs_cd 13) 139 = .ok (.aload_n 3, 1) := by decide +kernel
theorem rs_d_13_140 : decode (rs_cd 13) 140 = .ok (.iload 8, 2) := by decide +kernel
theorem rs_d_13_142 : decode (rs_cd 13) 142 = .ok (.iload_n 2, 1) := by decide +kernel
theorem rs_d_13_143 : decode (rs_cd 13) 143 = .ok (.iconst 1, 1) := by decide +kernel
theorem rs_d_13_144 : decode (rs_cd 13) 144 = .ok (.iadd, 1) := by decide +kernel
theorem rs_d_13_145 : decode (rs_cd 13) 145 = .ok (.invokevirtual 163, 3) := by decide +kernel
theorem rs_t_13_163 : rs_tg 13 163 = some 24 := by decide +kernel
theorem rs_d_13_148 : decode (rs_cd 13) 148 = .ok (.iconst 1, 1) := by decide +kernel
theorem rs_d_13_149 : decode (rs_cd 13) 149 = .ok (.istore 7, 2) := by decide +kernel
theorem rs_d_13_151 : decode (rs_cd 13) 151 = .ok (.iload 9, 2) := by decide +kernel
theorem rs_d_13_153 : decode (rs_cd 13) 153 = .ok (.ifCond .eq 37, 3) := by decide +kernel
theorem rs_d_13_156 : decode (rs_cd 13) 156 = .ok (.iload_n 1, 1) := by decide +kernel
theorem rs_d_13_157 : decode (rs_cd 13) 157 = .ok (.aload_n 3, 1) := by decide +kernel
theorem rs_d_13_158 : decode (rs_cd 13) 158 = .ok (.getfield 141, 3) := by decide +kernel
theorem rs_f_13_141 : rs_fd 13 141 = some (2, 1, 2) := by decide +kernel
theorem rs_d_13_161 : decode (rs_cd 13) 161 = .ok (.iload 8, 2) := by decide +kernel
theorem rs_d_13_163 : decode (rs_cd 13) 163 = .ok (.iaload, 1) := by decide +kernel
theorem rs_d_13_164 : decode (rs_cd 13) 164 = .ok (.if_icmp .gt 26, 3) := by decide +kernel
theorem rs_d_13_167 : decode (rs_cd 13) 167 = .ok (.aload_n 3, 1) := by decide +kernel
theorem rs_d_13_168 : decode (rs_cd 13) 168 = .ok (.getfield 141, 3) := by decide +kernel
theorem rs_d_13_171 : decode (rs_cd 13) 171 = .ok (.iload 8, 2) := by decide +kernel
theorem rs_d_13_173 : decode (rs_cd 13) 173 = .ok (.iaload, 1) := by decide +kernel
theorem rs_d_13_174 : decode (rs_cd 13) 174 = .ok (.iload_n 2, 1) := by decide +kernel
theorem rs_d_13_175 : decode (rs_cd 13) 175 = .ok (.if_icmp .gt 15, 3) := by decide +kernel
theorem rs_d_13_178 : decode (rs_cd 13) 178 = .ok (.aload_n 3, 1) := by decide +kernel
theorem rs_d_13_179 : decode (rs_cd 13) 179 = .ok (.iload 8, 2) := by decide +kernel
theorem rs_d_13_181 : decode (rs_cd 13) 181 = .ok (.iload_n 1, 1) := by decide +kernel
theorem rs_d_13_182 : decode (rs_cd 13) 182 = .ok (.iconst 1, 1) := by decide +kernel
theorem rs_d_13_183 : decode (rs_cd 13) 183 = .ok (.isub, 1) := by decide +kernel
theorem rs_d_13_184 : decode (rs_cd 13) 184 = .ok (.invokevirtual 159, 3) := by decide +kernel
theorem rs_t_13_159 : rs_tg 13 159 = some 25 := by decide +kernel
theorem rs_d_13_187 : decode (rs_cd 13) 187 = .ok (.iconst 1, 1) := by decide +kernel
theorem rs_d_13_188 : decode (rs_cd 13) 188 = .ok (.istore 7, 2) := by decide +kernel
theorem rs_d_13_190 : decode (rs_cd 13) 190 = .ok (.iinc 8 1, 3) := by decide +kernel
theorem rs_d_13_193 : decode (rs_cd 13) 193 = .ok (.goto (-115), 3) := by decide +kernel
theorem rs_d_13_196 : decode (rs_cd 13) 196 = .ok (.iload 7, 2) := by decide +kernel
theorem rs_d_13_198 : decode (rs_cd 13) 198 = .ok (.ireturn, 1) := by decide +kernel
theorem rs_d_14_0 : decode (rs_cd 14) 0 = .ok (.iconst 0, 1) := by decide +kernel
theorem rs_d_14_1 : decode (rs_cd 14) 1 = .ok (.istore 4, 2) := by decide +kernel
theorem rs_d_14_3 : decode (rs_cd 14) 3 = .ok (.iconst 0, 1) := by decide +kernel
theorem rs_d_14_4 : decode (rs_cd 14) 4 = .ok (.istore 5, 2) := by decide +kernel
theorem rs_d_14_6 : decode (rs_cd 14) 6 = .ok (.iload 5, 2) := by decide +kernel
theorem rs_d_14_8 : decode (rs_cd 14) 8 = .ok (.bipush 10, 2) := by decide +kernel
theorem rs_d_14_10 : decode (rs_cd 14) 10 = .ok (.if_icmp .ge 50, 3) := by decide +kernel
theorem rs_d_14_13 : decode (rs_cd 14) 13 = .ok (.iload_n 0, 1) := by decide +kernel
theorem rs_d_14_14 : decode (rs_cd 14) 14 = .ok (.iload 5, 2) := by decide +kernel
theorem rs_d_14_16 : decode (rs_cd 14) 16 = .ok (.ishr, 1) := by decide +kernel
theorem rs_d_14_17 : decode (rs_cd 14) 17 = .ok (.iconst 1, 1) := by decide +kernel
theorem rs_d_14_18 : decode (rs_cd 14) 18 = .ok (.iand, 1) := by decide +kernel
theorem rs_d_14_19 : decode (rs_cd 14) 19 = .ok (.iconst 1, 1) := by decide +kernel
theorem rs_d_14_20 : decode (rs_cd 14) 20 = .ok (.if_icmp .ne 34, 3) := by decide +kernel
theorem rs_d_14_23 : decode (rs_cd 14) 23 = .ok (.iload_n 1, 1) := by decide +kernel
theorem rs_d_14_24 : decode (rs_cd 14) 24 = .ok (.aload_n 3, 1) := by decide +kernel
theorem rs_d_14_25 : decode (rs_cd 14) 25 = .ok (.getfield 138, 3) := by decide +kernel
theorem rs_f_14_138 : rs_fd 14 138 = some (2, 0, 2) := by decide +kernel
theorem rs_d_14_28 : decode (rs_cd 14) 28 = .ok (.iload 5, 2) := by decide +kernel
theorem rs_d_14_30 : decode (rs_cd 14) 30 = .ok (.iaload, 1) := by decide +kernel
theorem rs_d_14_31 : decode (rs_cd 14) 31 = .ok (.if_icmp .gt 23, 3) := by decide +kernel
theorem rs_d_14_34 : decode (rs_cd 14) 34 = .ok (.aload_n 3, 1) := by decide +kernel
theorem rs_d_14_35 : decode (rs_cd 14) 35 = .ok (.getfield 141, 3) := by decide +kernel
theorem rs_f_14_141 : rs_fd 14 141 = some (2, 1, 2) := by decide +kernel
theorem rs_d_14_38 : decode (rs_cd 14) 38 = .ok (.iload 5, 2) := by decide +kernel
theorem rs_d_14_40 : decode (rs_cd 14) 40 = .ok (.iaload, 1) := by decide +kernel
theorem rs_d_14_41 : decode (rs_cd 14) 41 = .ok (.iload_n 2, 1) := by decide +kernel
theorem rs_d_14_42 : decode (rs_cd 14) 42 = .ok (.if_icmp .gt 12, 3) := by decide +kernel
theorem rs_d_14_45 : decode (rs_cd 14) 45 = .ok (.iload 4, 2) := by decide +kernel
theorem rs_d_14_47 : decode (rs_cd 14) 47 = .ok (.iconst 1, 1) := by decide +kernel
theorem rs_d_14_48 : decode (rs_cd 14) 48 = .ok (.iload 5, 2) := by decide +kernel
theorem rs_d_14_50 : decode (rs_cd 14) 50 = .ok (.ishl, 1) := by decide +kernel
theorem rs_d_14_51 : decode (rs_cd 14) 51 = .ok (.ior, 1) := by decide +kernel
theorem rs_d_14_52 : decode (rs_cd 14) 52 = .ok (.istore 4, 2) := by decide +kernel
theorem rs_d_14_54 : decode (rs_cd 14) 54 = .ok (.iinc 5 1, 3) := by decide +kernel
theorem rs_d_14_57 : decode (rs_cd 14) 57 = .ok (.goto (-51), 3) := by decide +kernel
theorem rs_d_14_60 : decode (rs_cd 14) 60 = .ok (.iload 4, 2) := by decide +kernel
theorem rs_d_14_62 : decode (rs_cd 14) 62 = .ok (.ireturn, 1) := by decide +kernel
